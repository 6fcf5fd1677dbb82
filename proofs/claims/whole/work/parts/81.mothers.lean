/-! ===== mothers, mother, doubt, best, breakers ===== -/
theorem m_mothers_loop (d : Nat) {G : Gh} {nM a : Nat} {K : Nat → Nat → Option (List Nat)} (ha : a < nM) (x2 : Int32) : ∀ (r s : Nat) (h : z_H), s + r = 9330 → mT h G 0 → kn h G nM K →
    ∃ h', EX (d + 20) 197 32 [z_R 49100 0, z_I (nI a), z_I x2, z_I (nI (cntB (fun s => moB G 0 (K a) s (gnT G)) s)), z_I (nI (stN s))] [] h = some (some (z_I (nI (cntB (fun s => moB G 0 (K a) s (gnT G)) 9330))), h') ∧ fr tM h h' := by
  intro r
  induction r with
  | zero =>
    intro s h hs m k
    have : s = 9330 := by omega
    subst this
    refine ⟨h, ?_, fr_rfl _ _⟩
    rw [stN_9330, bX11_mothers_32]
    simp (disch := first | omega | rfl | assumption) only [bX11_mothers_72, q_cl, q_ps, q_pn, bI_t, bI_f, gI_same, gI_ne, gR_pI, gJ_pI, gV_pI, gN_pI, gC_pI, gS_pI, gI_pJ, gR_pJ, gV_pJ, gN_pJ, gJ_same, gJ_ne, gI_pR, gJ_pR, gV_pR, gN_pR, gR_same, gR_ne, zin_t, zin_f, x_ltt, x_ltf, x_let, x_lef, x_eqt, x_eqf, n_0, n_1, n_2, n_3, n_4, n_5, n_6, n_7, n_8, n_9, n_10, n_11, n_12, n_16, n_19, n_20, n_24, n_25, n_32, n_40, n_48, n_50, n_60, n_64, n_80, n_96, n_114, n_684, n_1000, n_9330, n_16806, n_1000000, n_5764800, ↓n_m, m_ltI, m_leI, m_lt', m_le', m_eq, m_eq', m_add, m_sub, mm_lt, mm_le, mm_eq, q_sub, nI_add, q_mul, nI_clamp, bz_0, bz_1, q_bzb, b_0, b_1, b_ft, b_tf, ne_eq, not_true_eq_false, not_false_eq_true, decide_true, decide_false, Bool.and_self, Bool.false_and, Bool.and_false, Bool.and_true, Bool.true_and, Bool.not_true, Bool.not_false, ↓reduceIte]
  | succ r ih =>
    intro s h hs m k
    obtain ⟨s1, s2⟩ := stN_le (show s < 9330 by omega)
    obtain ⟨h1, e1, e2, -, m1, k1, f1⟩ := m_step (d + 11) m k (show s < 9330 by omega) ha
    obtain ⟨h', q1, q2⟩ := ih (s + 1) h1 (by omega) m1 k1
    have e3 : cntB (fun s => moB G 0 (K a) s (gnT G)) (s + 1) = cntB (fun s => moB G 0 (K a) s (gnT G)) s + (if moB G 0 (K a) s (gnT G) = true then 1 else 0) := rfl
    refine ⟨h', ?_, fr_trans f1 q2⟩
    rw [bX11_mothers_32]
    cases hb : moB G 0 (K a) s (gnT G) with
    | true =>
      rw [hb] at e2 e3
      rw [e3] at q1
      simp (disch := first | omega | rfl | assumption) only [e1, bX11_mothers_46, e2, bX11_mothers_52, bX11_mothers_60, m_nextStem (d + 17) (show s < 9330 by omega), bX11_mothers_67, q_cl, q_ps, q_pn, bI_t, bI_f, gI_same, gI_ne, gR_pI, gJ_pI, gV_pI, gN_pI, gC_pI, gS_pI, gI_pJ, gR_pJ, gV_pJ, gN_pJ, gJ_same, gJ_ne, gI_pR, gJ_pR, gV_pR, gN_pR, gR_same, gR_ne, zin_t, zin_f, x_ltt, x_ltf, x_let, x_lef, x_eqt, x_eqf, n_0, n_1, n_2, n_3, n_4, n_5, n_6, n_7, n_8, n_9, n_10, n_11, n_12, n_16, n_19, n_20, n_24, n_25, n_32, n_40, n_48, n_50, n_60, n_64, n_80, n_96, n_114, n_684, n_1000, n_9330, n_16806, n_1000000, n_5764800, ↓n_m, m_ltI, m_leI, m_lt', m_le', m_eq, m_eq', m_add, m_sub, mm_lt, mm_le, mm_eq, q_sub, nI_add, q_mul, nI_clamp, bz_0, bz_1, q_bzb, b_0, b_1, b_ft, b_tf, ne_eq, not_true_eq_false, not_false_eq_true, decide_true, decide_false, Bool.and_self, Bool.false_and, Bool.and_false, Bool.and_true, Bool.true_and, Bool.not_true, Bool.not_false, ↓reduceIte]
      exact q1
    | false =>
      rw [hb] at e2 e3
      rw [e3] at q1
      simp (disch := first | omega | rfl | assumption) only [e1, bX11_mothers_46, e2, bX11_mothers_52, bX11_mothers_59, bX11_mothers_60, m_nextStem (d + 17) (show s < 9330 by omega), bX11_mothers_67, q_cl, q_ps, q_pn, bI_t, bI_f, gI_same, gI_ne, gR_pI, gJ_pI, gV_pI, gN_pI, gC_pI, gS_pI, gI_pJ, gR_pJ, gV_pJ, gN_pJ, gJ_same, gJ_ne, gI_pR, gJ_pR, gV_pR, gN_pR, gR_same, gR_ne, zin_t, zin_f, x_ltt, x_ltf, x_let, x_lef, x_eqt, x_eqf, n_0, n_1, n_2, n_3, n_4, n_5, n_6, n_7, n_8, n_9, n_10, n_11, n_12, n_16, n_19, n_20, n_24, n_25, n_32, n_40, n_48, n_50, n_60, n_64, n_80, n_96, n_114, n_684, n_1000, n_9330, n_16806, n_1000000, n_5764800, ↓n_m, m_ltI, m_leI, m_lt', m_le', m_eq, m_eq', m_add, m_sub, mm_lt, mm_le, mm_eq, q_sub, nI_add, q_mul, nI_clamp, bz_0, bz_1, q_bzb, b_0, b_1, b_ft, b_tf, ne_eq, not_true_eq_false, not_false_eq_true, decide_true, decide_false, Bool.and_self, Bool.false_and, Bool.and_false, Bool.and_true, Bool.true_and, Bool.not_true, Bool.not_false, ↓reduceIte]
      exact q1
theorem m_mother_loop (d : Nat) {G : Gh} {nM a : Nat} {K : Nat → Nat → Option (List Nat)} (ha : a < nM) (x2 x3 : Int32) : ∀ (r s l : Nat) (h : z_H), s + r = 9330 → l < 2 ^ 31 → mT h G 0 → kn h G nM K →
    ∃ h', EX (d + 20) 198 37 [z_R 49100 0, z_I (nI a), z_I x2, z_I x3, z_I (nI l), z_I (nI (stN s))] [] h = (match nthF (fun s => moB G 0 (K a) s (gnT G)) r s l with | some k => some (some (z_I (nI (stN k))), h') | none => some (some (z_I (-1000004)), pI h' 49100 0 35 (gI h' 49100 0 35 + nI 1))) ∧ fr tM h h' := by
  intro r
  induction r with
  | zero =>
    intro s l h hs hl m k
    have : s = 9330 := by omega
    subst this
    refine ⟨h, ?_, fr_rfl _ _⟩
    rw [stN_9330, bX11_mother_37]
    simp (disch := first | omega | rfl | assumption) only [bX11_mother_80, m_finding, bX11_mother_86, q_cl, q_ps, q_pn, bI_t, bI_f, gI_same, gI_ne, gR_pI, gJ_pI, gV_pI, gN_pI, gC_pI, gS_pI, gI_pJ, gR_pJ, gV_pJ, gN_pJ, gJ_same, gJ_ne, gI_pR, gJ_pR, gV_pR, gN_pR, gR_same, gR_ne, zin_t, zin_f, x_ltt, x_ltf, x_let, x_lef, x_eqt, x_eqf, n_0, n_1, n_2, n_3, n_4, n_5, n_6, n_7, n_8, n_9, n_10, n_11, n_12, n_16, n_19, n_20, n_24, n_25, n_32, n_40, n_48, n_50, n_60, n_64, n_80, n_96, n_114, n_684, n_1000, n_9330, n_16806, n_1000000, n_5764800, ↓n_m, m_ltI, m_leI, m_lt', m_le', m_eq, m_eq', m_add, m_sub, mm_lt, mm_le, mm_eq, q_sub, nI_add, q_mul, nI_clamp, bz_0, bz_1, q_bzb, b_0, b_1, b_ft, b_tf, ne_eq, not_true_eq_false, not_false_eq_true, decide_true, decide_false, Bool.and_self, Bool.false_and, Bool.and_false, Bool.and_true, Bool.true_and, Bool.not_true, Bool.not_false, ↓reduceIte]
    rfl
  | succ r ih =>
    intro s l h hs hl m k
    obtain ⟨s1, s2⟩ := stN_le (show s < 9330 by omega)
    obtain ⟨h1, e1, e2, -, m1, k1, f1⟩ := m_step (d + 11) m k (show s < 9330 by omega) ha
    have e3 : nthF (fun s => moB G 0 (K a) s (gnT G)) (r + 1) s l = if moB G 0 (K a) s (gnT G) = true then (if l = 0 then some s else nthF (fun s => moB G 0 (K a) s (gnT G)) r (s + 1) (l - 1)) else nthF (fun s => moB G 0 (K a) s (gnT G)) r (s + 1) l := rfl
    cases hb : moB G 0 (K a) s (gnT G) with
    | true =>
      rw [hb, if_pos rfl] at e3
      rw [hb] at e2
      by_cases hl0 : l = 0
      · rw [if_pos hl0] at e3
        rw [e3]
        refine ⟨h1, ?_, f1⟩
        rw [bX11_mother_37]
        simp (disch := first | omega | rfl | assumption) only [e1, bX11_mother_51, e2, bX11_mother_56, q_cl, q_ps, q_pn, bI_t, bI_f, gI_same, gI_ne, gR_pI, gJ_pI, gV_pI, gN_pI, gC_pI, gS_pI, gI_pJ, gR_pJ, gV_pJ, gN_pJ, gJ_same, gJ_ne, gI_pR, gJ_pR, gV_pR, gN_pR, gR_same, gR_ne, zin_t, zin_f, x_ltt, x_ltf, x_let, x_lef, x_eqt, x_eqf, n_0, n_1, n_2, n_3, n_4, n_5, n_6, n_7, n_8, n_9, n_10, n_11, n_12, n_16, n_19, n_20, n_24, n_25, n_32, n_40, n_48, n_50, n_60, n_64, n_80, n_96, n_114, n_684, n_1000, n_9330, n_16806, n_1000000, n_5764800, ↓n_m, m_ltI, m_leI, m_lt', m_le', m_eq, m_eq', m_add, m_sub, mm_lt, mm_le, mm_eq, q_sub, nI_add, q_mul, nI_clamp, bz_0, bz_1, q_bzb, b_0, b_1, b_ft, b_tf, ne_eq, not_true_eq_false, not_false_eq_true, decide_true, decide_false, Bool.and_self, Bool.false_and, Bool.and_false, Bool.and_true, Bool.true_and, Bool.not_true, Bool.not_false, ↓reduceIte]
      · rw [if_neg hl0] at e3
        obtain ⟨h', q1, q2⟩ := ih (s + 1) (l - 1) h1 (by omega) (by omega) m1 k1
        rw [e3]
        refine ⟨h', ?_, fr_trans f1 q2⟩
        rw [bX11_mother_37]
        simp (disch := first | omega | rfl | assumption) only [e1, bX11_mother_51, e2, bX11_mother_56, bX11_mother_67, m_dec hl0, bX11_mother_70, m_nextStem (d + 17) (show s < 9330 by omega), bX11_mother_75, q_cl, q_ps, q_pn, bI_t, bI_f, gI_same, gI_ne, gR_pI, gJ_pI, gV_pI, gN_pI, gC_pI, gS_pI, gI_pJ, gR_pJ, gV_pJ, gN_pJ, gJ_same, gJ_ne, gI_pR, gJ_pR, gV_pR, gN_pR, gR_same, gR_ne, zin_t, zin_f, x_ltt, x_ltf, x_let, x_lef, x_eqt, x_eqf, n_0, n_1, n_2, n_3, n_4, n_5, n_6, n_7, n_8, n_9, n_10, n_11, n_12, n_16, n_19, n_20, n_24, n_25, n_32, n_40, n_48, n_50, n_60, n_64, n_80, n_96, n_114, n_684, n_1000, n_9330, n_16806, n_1000000, n_5764800, ↓n_m, m_ltI, m_leI, m_lt', m_le', m_eq, m_eq', m_add, m_sub, mm_lt, mm_le, mm_eq, q_sub, nI_add, q_mul, nI_clamp, bz_0, bz_1, q_bzb, b_0, b_1, b_ft, b_tf, ne_eq, not_true_eq_false, not_false_eq_true, decide_true, decide_false, Bool.and_self, Bool.false_and, Bool.and_false, Bool.and_true, Bool.true_and, Bool.not_true, Bool.not_false, ↓reduceIte]
        exact q1
    | false =>
      rw [hb, if_neg (by decide)] at e3
      rw [hb] at e2
      obtain ⟨h', q1, q2⟩ := ih (s + 1) l h1 (by omega) hl m1 k1
      rw [e3]
      refine ⟨h', ?_, fr_trans f1 q2⟩
      rw [bX11_mother_37]
      simp (disch := first | omega | rfl | assumption) only [e1, bX11_mother_51, e2, bX11_mother_56, bX11_mother_70, m_nextStem (d + 17) (show s < 9330 by omega), bX11_mother_75, q_cl, q_ps, q_pn, bI_t, bI_f, gI_same, gI_ne, gR_pI, gJ_pI, gV_pI, gN_pI, gC_pI, gS_pI, gI_pJ, gR_pJ, gV_pJ, gN_pJ, gJ_same, gJ_ne, gI_pR, gJ_pR, gV_pR, gN_pR, gR_same, gR_ne, zin_t, zin_f, x_ltt, x_ltf, x_let, x_lef, x_eqt, x_eqf, n_0, n_1, n_2, n_3, n_4, n_5, n_6, n_7, n_8, n_9, n_10, n_11, n_12, n_16, n_19, n_20, n_24, n_25, n_32, n_40, n_48, n_50, n_60, n_64, n_80, n_96, n_114, n_684, n_1000, n_9330, n_16806, n_1000000, n_5764800, ↓n_m, m_ltI, m_leI, m_lt', m_le', m_eq, m_eq', m_add, m_sub, mm_lt, mm_le, mm_eq, q_sub, nI_add, q_mul, nI_clamp, bz_0, bz_1, q_bzb, b_0, b_1, b_ft, b_tf, ne_eq, not_true_eq_false, not_false_eq_true, decide_true, decide_false, Bool.and_self, Bool.false_and, Bool.and_false, Bool.and_true, Bool.true_and, Bool.not_true, Bool.not_false, ↓reduceIte]
      exact q1
theorem m_doubt_loop (d : Nat) {G : Gh} {nM a place : Nat} {K : Nat → Nat → Option (List Nat)} (ha : a < nM) (hp : place < 5) (x2 : Int32) : ∀ (r s : Nat) (acc : Int32) (h : z_H), s + r = 9330 → mT h G 0 → kn h G nM K →
    ∃ h', EX (d + 20) 199 42 [z_R 49100 0, z_I (nI a), z_I x2, z_I (nI place), z_I acc, z_I (nI (stN s))] [] h = some (some (z_I (sndF (fun s => moB G 0 (K a) s (gnT G)) place r s acc)), h') ∧ fr tM h h' := by
  intro r
  induction r with
  | zero =>
    intro s acc h hs m k
    have : s = 9330 := by omega
    subst this
    refine ⟨h, ?_, fr_rfl _ _⟩
    rw [stN_9330, bX11_doubt_42]
    simp (disch := first | omega | rfl | assumption) only [bX11_doubt_106, q_cl, q_ps, q_pn, bI_t, bI_f, gI_same, gI_ne, gR_pI, gJ_pI, gV_pI, gN_pI, gC_pI, gS_pI, gI_pJ, gR_pJ, gV_pJ, gN_pJ, gJ_same, gJ_ne, gI_pR, gJ_pR, gV_pR, gN_pR, gR_same, gR_ne, zin_t, zin_f, x_ltt, x_ltf, x_let, x_lef, x_eqt, x_eqf, n_0, n_1, n_2, n_3, n_4, n_5, n_6, n_7, n_8, n_9, n_10, n_11, n_12, n_16, n_19, n_20, n_24, n_25, n_32, n_40, n_48, n_50, n_60, n_64, n_80, n_96, n_114, n_684, n_1000, n_9330, n_16806, n_1000000, n_5764800, ↓n_m, m_ltI, m_leI, m_lt', m_le', m_eq, m_eq', m_add, m_sub, mm_lt, mm_le, mm_eq, q_sub, nI_add, q_mul, nI_clamp, bz_0, bz_1, q_bzb, b_0, b_1, b_ft, b_tf, ne_eq, not_true_eq_false, not_false_eq_true, decide_true, decide_false, Bool.and_self, Bool.false_and, Bool.and_false, Bool.and_true, Bool.true_and, Bool.not_true, Bool.not_false, ↓reduceIte]
    rfl
  | succ r ih =>
    intro s acc h hs m k
    have hsW : isW (stW s) := st_isW (by omega)
    have h8 := hsW.1
    obtain ⟨s1, s2⟩ := stN_le (show s < 9330 by omega)
    obtain ⟨h1, e1, e2, -, m1, k1, f1⟩ := m_step (d + 11) m k (show s < 9330 by omega) ha
    have e3 : sndF (fun s => moB G 0 (K a) s (gnT G)) place (r + 1) s acc = sndF (fun s => moB G 0 (K a) s (gnT G)) place r (s + 1) (if moB G 0 (K a) s (gnT G) = true then acc ||| nI (2 ^ kkS s place) else acc) := rfl
    cases hb : moB G 0 (K a) s (gnT G) with
    | true =>
      rw [hb, if_pos rfl] at e3
      rw [hb] at e2
      obtain ⟨h2, p1, p2, p3⟩ := m_load (d + 19) m1.2.1 hsW
      rw [show wN (stW s) = stN s from rfl] at p1
      have m2 := mT_tW p3 m1
      obtain ⟨h', q1, q2⟩ := ih (s + 1) (acc ||| nI (2 ^ kkS s place)) h2 (by omega) m2 (kn_tM (tM_tW p3) k1)
      refine ⟨h', ?_, fr_trans f1 (fr_trans (tM_tW p3) q2)⟩
      rw [e3, bX11_doubt_42]
      cases hx : (stW s)[place]? with
      | none =>
        have hl : (stW s).length ≤ place := List.getElem?_eq_none_iff.mp hx
        have hk : kkS s place = 6 := by unfold kkS; rw [hx]
        rw [hk] at q1
        rw [hk]
        have hsh : nI 1 <<< (nI 6 &&& 31) = nI (2 ^ 6) := by rw [q_shl 1 (by omega), Nat.one_mul]
        simp (disch := first | omega | rfl | assumption) only [e1, bX11_doubt_56, e2, bX11_doubt_61, p1, bX11_doubt_70, p2.1, bX11_doubt_90, bX11_doubt_92, hsh, bX11_doubt_96, m_nextStem (d + 17) (show s < 9330 by omega), bX11_doubt_101, q_cl, q_ps, q_pn, bI_t, bI_f, gI_same, gI_ne, gR_pI, gJ_pI, gV_pI, gN_pI, gC_pI, gS_pI, gI_pJ, gR_pJ, gV_pJ, gN_pJ, gJ_same, gJ_ne, gI_pR, gJ_pR, gV_pR, gN_pR, gR_same, gR_ne, zin_t, zin_f, x_ltt, x_ltf, x_let, x_lef, x_eqt, x_eqf, n_0, n_1, n_2, n_3, n_4, n_5, n_6, n_7, n_8, n_9, n_10, n_11, n_12, n_16, n_19, n_20, n_24, n_25, n_32, n_40, n_48, n_50, n_60, n_64, n_80, n_96, n_114, n_684, n_1000, n_9330, n_16806, n_1000000, n_5764800, ↓n_m, m_ltI, m_leI, m_lt', m_le', m_eq, m_eq', m_add, m_sub, mm_lt, mm_le, mm_eq, q_sub, nI_add, q_mul, nI_clamp, bz_0, bz_1, q_bzb, b_0, b_1, b_ft, b_tf, ne_eq, not_true_eq_false, not_false_eq_true, decide_true, decide_false, Bool.and_self, Bool.false_and, Bool.and_false, Bool.and_true, Bool.true_and, Bool.not_true, Bool.not_false, ↓reduceIte]
        exact q1
      | some x =>
        have hl : place < (stW s).length := (List.getElem?_eq_some_iff.mp hx).1
        have hx1 := hsW.2 x (List.mem_of_getElem? hx)
        have hk : kkS s place = x - 1 := by unfold kkS; rw [hx]
        rw [hk] at q1
        rw [hk]
        have hsh : nI 1 <<< (nI (x - 1) &&& 31) = nI (2 ^ (x - 1)) := by rw [q_shl 1 (by omega), Nat.one_mul]
        simp (disch := first | omega | rfl | assumption) only [e1, bX11_doubt_56, e2, bX11_doubt_61, p1, bX11_doubt_70, p2.1, m2.2.1 36 rfl, p2.2 place x hx, bX11_doubt_92, hsh, bX11_doubt_96, m_nextStem (d + 17) (show s < 9330 by omega), bX11_doubt_101, q_cl, q_ps, q_pn, bI_t, bI_f, gI_same, gI_ne, gR_pI, gJ_pI, gV_pI, gN_pI, gC_pI, gS_pI, gI_pJ, gR_pJ, gV_pJ, gN_pJ, gJ_same, gJ_ne, gI_pR, gJ_pR, gV_pR, gN_pR, gR_same, gR_ne, zin_t, zin_f, x_ltt, x_ltf, x_let, x_lef, x_eqt, x_eqf, n_0, n_1, n_2, n_3, n_4, n_5, n_6, n_7, n_8, n_9, n_10, n_11, n_12, n_16, n_19, n_20, n_24, n_25, n_32, n_40, n_48, n_50, n_60, n_64, n_80, n_96, n_114, n_684, n_1000, n_9330, n_16806, n_1000000, n_5764800, ↓n_m, m_ltI, m_leI, m_lt', m_le', m_eq, m_eq', m_add, m_sub, mm_lt, mm_le, mm_eq, q_sub, nI_add, q_mul, nI_clamp, bz_0, bz_1, q_bzb, b_0, b_1, b_ft, b_tf, ne_eq, not_true_eq_false, not_false_eq_true, decide_true, decide_false, Bool.and_self, Bool.false_and, Bool.and_false, Bool.and_true, Bool.true_and, Bool.not_true, Bool.not_false, ↓reduceIte]
        exact q1
    | false =>
      rw [hb, if_neg (by decide)] at e3
      rw [hb] at e2
      obtain ⟨h', q1, q2⟩ := ih (s + 1) acc h1 (by omega) m1 k1
      refine ⟨h', ?_, fr_trans f1 q2⟩
      rw [e3, bX11_doubt_42]
      simp (disch := first | omega | rfl | assumption) only [e1, bX11_doubt_56, e2, bX11_doubt_61, bX11_doubt_96, m_nextStem (d + 17) (show s < 9330 by omega), bX11_doubt_101, q_cl, q_ps, q_pn, bI_t, bI_f, gI_same, gI_ne, gR_pI, gJ_pI, gV_pI, gN_pI, gC_pI, gS_pI, gI_pJ, gR_pJ, gV_pJ, gN_pJ, gJ_same, gJ_ne, gI_pR, gJ_pR, gV_pR, gN_pR, gR_same, gR_ne, zin_t, zin_f, x_ltt, x_ltf, x_let, x_lef, x_eqt, x_eqf, n_0, n_1, n_2, n_3, n_4, n_5, n_6, n_7, n_8, n_9, n_10, n_11, n_12, n_16, n_19, n_20, n_24, n_25, n_32, n_40, n_48, n_50, n_60, n_64, n_80, n_96, n_114, n_684, n_1000, n_9330, n_16806, n_1000000, n_5764800, ↓n_m, m_ltI, m_leI, m_lt', m_le', m_eq, m_eq', m_add, m_sub, mm_lt, mm_le, mm_eq, q_sub, nI_add, q_mul, nI_clamp, bz_0, bz_1, q_bzb, b_0, b_1, b_ft, b_tf, ne_eq, not_true_eq_false, not_false_eq_true, decide_true, decide_false, Bool.and_self, Bool.false_and, Bool.and_false, Bool.and_true, Bool.true_and, Bool.not_true, Bool.not_false, ↓reduceIte]
      exact q1
theorem m_best_loop (d : Nat) {G : Gh} {nM a : Nat} {K : Nat → Nat → Option (List Nat)} (ha : a < nM) : ∀ (r s : Nat) (u : z_V) (h : z_H), s + r = 9330 → 1 ≤ s → mT h G 0 → kn h G nM K →
    ∃ h', EX (d + 20) 200 7 [z_R 49100 0, z_I (nI a), z_I (nI (stN (bstF (fun s => fitC G 0 (K a) s (gnT G)) s))), z_I (nI (fitC G 0 (K a) (bstF (fun s => fitC G 0 (K a) s (gnT G)) s) (gnT G))), z_I (nI (stN s)), u] [] h = some (some (z_I (nI (stN (bstF (fun s => fitC G 0 (K a) s (gnT G)) 9330)))), h') ∧ mT h' G 0 ∧ kn h' G nM K ∧ fr tM h h' := by
  intro r
  induction r with
  | zero =>
    intro s u h hs _ m k
    have : s = 9330 := by omega
    subst this
    refine ⟨h, ?_, m, k, fr_rfl _ _⟩
    rw [stN_9330, bX11_bestOf_7]
    simp (disch := first | omega | rfl | assumption) only [bX11_bestOf_50, q_cl, q_ps, q_pn, bI_t, bI_f, gI_same, gI_ne, gR_pI, gJ_pI, gV_pI, gN_pI, gC_pI, gS_pI, gI_pJ, gR_pJ, gV_pJ, gN_pJ, gJ_same, gJ_ne, gI_pR, gJ_pR, gV_pR, gN_pR, gR_same, gR_ne, zin_t, zin_f, x_ltt, x_ltf, x_let, x_lef, x_eqt, x_eqf, n_0, n_1, n_2, n_3, n_4, n_5, n_6, n_7, n_8, n_9, n_10, n_11, n_12, n_16, n_19, n_20, n_24, n_25, n_32, n_40, n_48, n_50, n_60, n_64, n_80, n_96, n_114, n_684, n_1000, n_9330, n_16806, n_1000000, n_5764800, ↓n_m, m_ltI, m_leI, m_lt', m_le', m_eq, m_eq', m_add, m_sub, mm_lt, mm_le, mm_eq, q_sub, nI_add, q_mul, nI_clamp, bz_0, bz_1, q_bzb, b_0, b_1, b_ft, b_tf, ne_eq, not_true_eq_false, not_false_eq_true, decide_true, decide_false, Bool.and_self, Bool.false_and, Bool.and_false, Bool.and_true, Bool.true_and, Bool.not_true, Bool.not_false, ↓reduceIte]
  | succ r ih =>
    intro s u h hs h1s m k
    obtain ⟨s1, s2⟩ := stN_le (show s < 9330 by omega)
    have h8 := m.1.2.2.2.1
    have b1 := fit_le G 0 (K a) s (gnT G)
    have b2 := fit_le G 0 (K a) (bstF (fun s => fitC G 0 (K a) s (gnT G)) s) (gnT G)
    obtain ⟨h1, e1, -, e2, m1, k1, f1⟩ := m_step (d + 11) m k (show s < 9330 by omega) ha
    obtain ⟨h', q1, q2, q3, q4⟩ := ih (s + 1) (z_I (nI (fitC G 0 (K a) s (gnT G)))) h1 (by omega) (by omega) m1 k1
    have e3 : bstF (fun s => fitC G 0 (K a) s (gnT G)) (s + 1) = if fitC G 0 (K a) (bstF (fun s => fitC G 0 (K a) s (gnT G)) s) (gnT G) < fitC G 0 (K a) s (gnT G) then s else bstF (fun s => fitC G 0 (K a) s (gnT G)) s := rfl
    refine ⟨h', ?_, q2, q3, fr_trans f1 q4⟩
    rw [bX11_bestOf_7]
    by_cases hq : fitC G 0 (K a) (bstF (fun s => fitC G 0 (K a) s (gnT G)) s) (gnT G) < fitC G 0 (K a) s (gnT G)
    · rw [if_pos hq] at e3
      rw [e3] at q1
      simp (disch := first | omega | rfl | assumption) only [e1, bX11_bestOf_21, e2, bX11_bestOf_26, bX11_bestOf_40, m_nextStem (d + 17) (show s < 9330 by omega), bX11_bestOf_45, q_cl, q_ps, q_pn, bI_t, bI_f, gI_same, gI_ne, gR_pI, gJ_pI, gV_pI, gN_pI, gC_pI, gS_pI, gI_pJ, gR_pJ, gV_pJ, gN_pJ, gJ_same, gJ_ne, gI_pR, gJ_pR, gV_pR, gN_pR, gR_same, gR_ne, zin_t, zin_f, x_ltt, x_ltf, x_let, x_lef, x_eqt, x_eqf, n_0, n_1, n_2, n_3, n_4, n_5, n_6, n_7, n_8, n_9, n_10, n_11, n_12, n_16, n_19, n_20, n_24, n_25, n_32, n_40, n_48, n_50, n_60, n_64, n_80, n_96, n_114, n_684, n_1000, n_9330, n_16806, n_1000000, n_5764800, ↓n_m, m_ltI, m_leI, m_lt', m_le', m_eq, m_eq', m_add, m_sub, mm_lt, mm_le, mm_eq, q_sub, nI_add, q_mul, nI_clamp, bz_0, bz_1, q_bzb, b_0, b_1, b_ft, b_tf, ne_eq, not_true_eq_false, not_false_eq_true, decide_true, decide_false, Bool.and_self, Bool.false_and, Bool.and_false, Bool.and_true, Bool.true_and, Bool.not_true, Bool.not_false, ↓reduceIte]
      exact q1
    · rw [if_neg hq] at e3
      rw [e3] at q1
      simp (disch := first | omega | rfl | assumption) only [e1, bX11_bestOf_21, e2, bX11_bestOf_26, bX11_bestOf_40, m_nextStem (d + 17) (show s < 9330 by omega), bX11_bestOf_45, q_cl, q_ps, q_pn, bI_t, bI_f, gI_same, gI_ne, gR_pI, gJ_pI, gV_pI, gN_pI, gC_pI, gS_pI, gI_pJ, gR_pJ, gV_pJ, gN_pJ, gJ_same, gJ_ne, gI_pR, gJ_pR, gV_pR, gN_pR, gR_same, gR_ne, zin_t, zin_f, x_ltt, x_ltf, x_let, x_lef, x_eqt, x_eqf, n_0, n_1, n_2, n_3, n_4, n_5, n_6, n_7, n_8, n_9, n_10, n_11, n_12, n_16, n_19, n_20, n_24, n_25, n_32, n_40, n_48, n_50, n_60, n_64, n_80, n_96, n_114, n_684, n_1000, n_9330, n_16806, n_1000000, n_5764800, ↓n_m, m_ltI, m_leI, m_lt', m_le', m_eq, m_eq', m_add, m_sub, mm_lt, mm_le, mm_eq, q_sub, nI_add, q_mul, nI_clamp, bz_0, bz_1, q_bzb, b_0, b_1, b_ft, b_tf, ne_eq, not_true_eq_false, not_false_eq_true, decide_true, decide_false, Bool.and_self, Bool.false_and, Bool.and_false, Bool.and_true, Bool.true_and, Bool.not_true, Bool.not_false, ↓reduceIte]
      exact q1
theorem m_bestOf (d : Nat) {h : z_H} {G : Gh} {nM a : Nat} {K : Nat → Nat → Option (List Nat)} (ha : a < nM) (m : mT h G 0) (k : kn h G nM K) : ∃ h', Rn (d + 21) 200 [z_R 49100 0, z_I (nI a)] h = some (some (z_I (nI (stN (bstF (fun s => fitC G 0 (K a) s (gnT G)) 9330)))), h') ∧ mT h' G 0 ∧ kn h' G nM K ∧ fr tM h h' := by
  have h8 := m.1.2.2.2.1
  have b1 := fit_le G 0 (K a) 0 (gnT G)
  obtain ⟨h1, e1, -, e2, m1, k1, f1⟩ := m_step (d + 11) m k (show 0 < 9330 by omega) ha
  obtain ⟨h', q1, q2, q3, q4⟩ := m_best_loop d ha 9329 1 (z_I (nI (fitC G 0 (K a) 0 (gnT G)))) h1 (by omega) (by omega) m1 k1
  have e0 : bstF (fun s => fitC G 0 (K a) s (gnT G)) 1 = 0 := by
    show (if fitC G 0 (K a) 0 (gnT G) < fitC G 0 (K a) 0 (gnT G) then 0 else 0) = 0
    simp
  rw [e0] at q1
  refine ⟨h', ?_, q2, q3, fr_trans f1 q4⟩
  have n0 := m_nextStem (d + 17) (show 0 < 9330 by omega) h1
  rw [stN_0] at e1 q1 n0
  rw [rX11_bestOf, bX11_bestOf_0, bX11_bestOf_7]
  simp (disch := first | omega | rfl | assumption) only [e1, bX11_bestOf_21, e2, bX11_bestOf_26, bX11_bestOf_40, n0, Nat.zero_add, bX11_bestOf_45, q_cl, q_ps, q_pn, bI_t, bI_f, gI_same, gI_ne, gR_pI, gJ_pI, gV_pI, gN_pI, gC_pI, gS_pI, gI_pJ, gR_pJ, gV_pJ, gN_pJ, gJ_same, gJ_ne, gI_pR, gJ_pR, gV_pR, gN_pR, gR_same, gR_ne, zin_t, zin_f, x_ltt, x_ltf, x_let, x_lef, x_eqt, x_eqf, n_0, n_1, n_2, n_3, n_4, n_5, n_6, n_7, n_8, n_9, n_10, n_11, n_12, n_16, n_19, n_20, n_24, n_25, n_32, n_40, n_48, n_50, n_60, n_64, n_80, n_96, n_114, n_684, n_1000, n_9330, n_16806, n_1000000, n_5764800, ↓n_m, m_ltI, m_leI, m_lt', m_le', m_eq, m_eq', m_add, m_sub, mm_lt, mm_le, mm_eq, q_sub, nI_add, q_mul, nI_clamp, bz_0, bz_1, q_bzb, b_0, b_1, b_ft, b_tf, ne_eq, not_true_eq_false, not_false_eq_true, decide_true, decide_false, Bool.and_self, Bool.false_and, Bool.and_false, Bool.and_true, Bool.true_and, Bool.not_true, Bool.not_false, ↓reduceIte]
  exact q1
/-- where what is known isn't so -/
def brk (G : Gh) (want : Nat → Option (List Nat)) (s t : Nat) : Bool := !decide (want t = none) && !decide (want t = some (wrt G 0 t (stW s)))
theorem m_brk_loop (d : Nat) {h : z_H} {G : Gh} {nM a s : Nat} {K : Nat → Nat → Option (List Nat)} (m : mT h G 0) (k : kn h G nM K) (hs : spr h G 0 (stW s)) (hsW : isW (stW s)) (ha : a < nM) : ∀ (r t : Nat) (u : z_V), t + r = gnT G →
    EX d 202 13 [z_R 49100 0, z_I (nI a), z_I (nI (bs (brk G (K a) s) t)), z_I (nI t), u] [] h = some (some (z_I (nI (bs (brk G (K a) s) (gnT G)))), h) := by
  have h8 := m.1.2.2.2.1
  have h10 := k.1
  intro r
  induction r with
  | zero =>
    intro t u ht
    have : t = gnT G := by omega
    subst this
    rw [bX11_breakersOf_13]
    simp (disch := first | omega | rfl | assumption) only [m.2.2.2.2.2.1, bX11_breakersOf_66, q_cl, q_ps, q_pn, bI_t, bI_f, gI_same, gI_ne, gR_pI, gJ_pI, gV_pI, gN_pI, gC_pI, gS_pI, gI_pJ, gR_pJ, gV_pJ, gN_pJ, gJ_same, gJ_ne, gI_pR, gJ_pR, gV_pR, gN_pR, gR_same, gR_ne, zin_t, zin_f, x_ltt, x_ltf, x_let, x_lef, x_eqt, x_eqf, n_0, n_1, n_2, n_3, n_4, n_5, n_6, n_7, n_8, n_9, n_10, n_11, n_12, n_16, n_19, n_20, n_24, n_25, n_32, n_40, n_48, n_50, n_60, n_64, n_80, n_96, n_114, n_684, n_1000, n_9330, n_16806, n_1000000, n_5764800, ↓n_m, m_ltI, m_leI, m_lt', m_le', m_eq, m_eq', m_add, m_sub, mm_lt, mm_le, mm_eq, q_sub, nI_add, q_mul, nI_clamp, bz_0, bz_1, q_bzb, b_0, b_1, b_ft, b_tf, ne_eq, not_true_eq_false, not_false_eq_true, decide_true, decide_false, Bool.and_self, Bool.false_and, Bool.and_false, Bool.and_true, Bool.true_and, Bool.not_true, Bool.not_false, ↓reduceIte]
  | succ r ih =>
    intro t u ht
    have htn : t < gnT G := by omega
    have hwo := wrt_ok m.1 0 htn hsW
    have hwl := wN_lt hwo
    obtain ⟨ko, ke⟩ := k.2 a ha t htn
    have hse := (hs t htn).2
    have ih1 := fun u => ih (t + 1) u (by omega)
    have e0 : nI (bs (brk G (K a) s) t) ||| nI 0 = nI (bs (brk G (K a) s) t) := by rw [q_or]; simp
    have hsh : nI 1 <<< (nI t &&& 31) = nI (2 ^ t) := by rw [q_shl 1 (by omega), Nat.one_mul]
    have est := bs_step (brk G (K a) s) (n := t) (by omega) _ rfl
    rw [bX11_breakersOf_13]
    have eF : brk G (K a) s t = false → nI (bs (brk G (K a) s) t) = nI (bs (brk G (K a) s) (t + 1)) := by
      intro z
      show _ = nI (bs (brk G (K a) s) t + (if brk G (K a) s t then 2 ^ t else 0))
      rw [z]; rfl
    rcases num_eq ko hwo with ⟨o1, o2⟩ | ⟨v, o1, o2, o3, o4⟩
    · rw [o2] at ke
      have hb : brk G (K a) s t = false := by unfold brk; rw [o1]; rfl
      simp (disch := first | omega | rfl | assumption) only [m.2.2.2.2.2.1, m.2.1 41 rfl, ke, mI_lt0, bX11_breakersOf_57, bX11_breakersOf_58, e0, q_cl, q_ps, q_pn, bI_t, bI_f, gI_same, gI_ne, gR_pI, gJ_pI, gV_pI, gN_pI, gC_pI, gS_pI, gI_pJ, gR_pJ, gV_pJ, gN_pJ, gJ_same, gJ_ne, gI_pR, gJ_pR, gV_pR, gN_pR, gR_same, gR_ne, zin_t, zin_f, x_ltt, x_ltf, x_let, x_lef, x_eqt, x_eqf, n_0, n_1, n_2, n_3, n_4, n_5, n_6, n_7, n_8, n_9, n_10, n_11, n_12, n_16, n_19, n_20, n_24, n_25, n_32, n_40, n_48, n_50, n_60, n_64, n_80, n_96, n_114, n_684, n_1000, n_9330, n_16806, n_1000000, n_5764800, ↓n_m, m_ltI, m_leI, m_lt', m_le', m_eq, m_eq', m_add, m_sub, mm_lt, mm_le, mm_eq, q_sub, nI_add, q_mul, nI_clamp, bz_0, bz_1, q_bzb, b_0, b_1, b_ft, b_tf, ne_eq, not_true_eq_false, not_false_eq_true, decide_true, decide_false, Bool.and_self, Bool.false_and, Bool.and_false, Bool.and_true, Bool.true_and, Bool.not_true, Bool.not_false, ↓reduceIte]
      rw [eF hb]
      exact ih1 _
    · rw [o2] at ke
      by_cases hq : wN v = wN (wrt G 0 t (stW s))
      · have hb : brk G (K a) s t = false := by unfold brk; simp [o4.mp hq]
        simp (disch := first | omega | rfl | assumption) only [m.2.2.2.2.2.1, m.2.1 41 rfl, m.2.1 43 rfl, ke, hse, hq, bX11_breakersOf_57, bX11_breakersOf_58, e0, q_cl, q_ps, q_pn, bI_t, bI_f, gI_same, gI_ne, gR_pI, gJ_pI, gV_pI, gN_pI, gC_pI, gS_pI, gI_pJ, gR_pJ, gV_pJ, gN_pJ, gJ_same, gJ_ne, gI_pR, gJ_pR, gV_pR, gN_pR, gR_same, gR_ne, zin_t, zin_f, x_ltt, x_ltf, x_let, x_lef, x_eqt, x_eqf, n_0, n_1, n_2, n_3, n_4, n_5, n_6, n_7, n_8, n_9, n_10, n_11, n_12, n_16, n_19, n_20, n_24, n_25, n_32, n_40, n_48, n_50, n_60, n_64, n_80, n_96, n_114, n_684, n_1000, n_9330, n_16806, n_1000000, n_5764800, ↓n_m, m_ltI, m_leI, m_lt', m_le', m_eq, m_eq', m_add, m_sub, mm_lt, mm_le, mm_eq, q_sub, nI_add, q_mul, nI_clamp, bz_0, bz_1, q_bzb, b_0, b_1, b_ft, b_tf, ne_eq, not_true_eq_false, not_false_eq_true, decide_true, decide_false, Bool.and_self, Bool.false_and, Bool.and_false, Bool.and_true, Bool.true_and, Bool.not_true, Bool.not_false, ↓reduceIte]
        rw [eF hb]
        exact ih1 _
      · have hq2 : ¬ K a t = some (wrt G 0 t (stW s)) := fun z => hq (o4.mpr z)
        have hn : ¬ K a t = none := fun z => by rw [o1] at z; cases z
        have hb : brk G (K a) s t = true := by unfold brk; simp [hn, hq2]
        rw [hb] at est
        have est2 : nI (bs (brk G (K a) s) t) ||| nI (2 ^ t) = nI (bs (brk G (K a) s) (t + 1)) := by rw [← est, ← hsh]; rfl
        simp (disch := first | omega | rfl | assumption) only [m.2.2.2.2.2.1, m.2.1 41 rfl, m.2.1 43 rfl, ke, hse, hsh, bX11_breakersOf_58, est2, q_cl, q_ps, q_pn, bI_t, bI_f, gI_same, gI_ne, gR_pI, gJ_pI, gV_pI, gN_pI, gC_pI, gS_pI, gI_pJ, gR_pJ, gV_pJ, gN_pJ, gJ_same, gJ_ne, gI_pR, gJ_pR, gV_pR, gN_pR, gR_same, gR_ne, zin_t, zin_f, x_ltt, x_ltf, x_let, x_lef, x_eqt, x_eqf, n_0, n_1, n_2, n_3, n_4, n_5, n_6, n_7, n_8, n_9, n_10, n_11, n_12, n_16, n_19, n_20, n_24, n_25, n_32, n_40, n_48, n_50, n_60, n_64, n_80, n_96, n_114, n_684, n_1000, n_9330, n_16806, n_1000000, n_5764800, ↓n_m, m_ltI, m_leI, m_lt', m_le', m_eq, m_eq', m_add, m_sub, mm_lt, mm_le, mm_eq, q_sub, nI_add, q_mul, nI_clamp, bz_0, bz_1, q_bzb, b_0, b_1, b_ft, b_tf, ne_eq, not_true_eq_false, not_false_eq_true, decide_true, decide_false, Bool.and_self, Bool.false_and, Bool.and_false, Bool.and_true, Bool.true_and, Bool.not_true, Bool.not_false, ↓reduceIte]
        exact ih1 _
theorem m_breakersOf (d : Nat) {h : z_H} {G : Gh} {nM a : Nat} {K : Nat → Nat → Option (List Nat)} (ha : a < nM) (m : mT h G 0) (k : kn h G nM K) : ∃ h', Rn (d + 22) 202 [z_R 49100 0, z_I (nI a)] h = some (some (z_I (nI (bs (brk G (K a) (bstF (fun s => fitC G 0 (K a) s (gnT G)) 9330)) (gnT G)))), h') ∧ mT h' G 0 ∧ kn h' G nM K ∧ spr h' G 0 (stW (bstF (fun s => fitC G 0 (K a) s (gnT G)) 9330)) ∧ fr tM h h' := by
  obtain ⟨h1, e1, m1, k1, f1⟩ := m_bestOf d ha m k
  have hb := (bstF_lt (fun s => fitC G 0 (K a) s (gnT G)) 9330).2 (by omega)
  generalize bstF (fun s => fitC G 0 (K a) s (gnT G)) 9330 = b at e1 hb
  have hsW : isW (stW b) := st_isW (by omega)
  obtain ⟨h2, g1, g2, g3⟩ := m_spreads (d + 12) (mu := 0) (by decide) hsW m1
  have m2 := mT_tM g3 m1
  have k2 := kn_tM g3 k1
  refine ⟨h2, ?_, m2, k2, g2, fr_trans f1 g3⟩
  have l := m_brk_loop (d + 21) m2 k2 g2 hsW ha (gnT G) 0 z_U (by omega)
  rw [rX11_breakersOf, bX11_breakersOf_0]
  rw [show wN (stW b) = stN b from rfl] at g1
  simp (disch := first | omega | rfl | assumption) only [e1, bX11_breakersOf_6, g1, bX11_breakersOf_9, q_cl, q_ps, q_pn, bI_t, bI_f, gI_same, gI_ne, gR_pI, gJ_pI, gV_pI, gN_pI, gC_pI, gS_pI, gI_pJ, gR_pJ, gV_pJ, gN_pJ, gJ_same, gJ_ne, gI_pR, gJ_pR, gV_pR, gN_pR, gR_same, gR_ne, zin_t, zin_f, x_ltt, x_ltf, x_let, x_lef, x_eqt, x_eqf, n_0, n_1, n_2, n_3, n_4, n_5, n_6, n_7, n_8, n_9, n_10, n_11, n_12, n_16, n_19, n_20, n_24, n_25, n_32, n_40, n_48, n_50, n_60, n_64, n_80, n_96, n_114, n_684, n_1000, n_9330, n_16806, n_1000000, n_5764800, ↓n_m, m_ltI, m_leI, m_lt', m_le', m_eq, m_eq', m_add, m_sub, mm_lt, mm_le, mm_eq, q_sub, nI_add, q_mul, nI_clamp, bz_0, bz_1, q_bzb, b_0, b_1, b_ft, b_tf, ne_eq, not_true_eq_false, not_false_eq_true, decide_true, decide_false, Bool.and_self, Bool.false_and, Bool.and_false, Bool.and_true, Bool.true_and, Bool.not_true, Bool.not_false, ↓reduceIte]
  exact l
/-! the class -/
theorem c_unfit_loop (d : Nat) {h : z_H} {N : Nat} {xs : Nat → Int32} {G : Gh} {e : Int32} (hG : InvG h N xs G e) {want : Nat → Option (List Nat)} (hwo : ∀ t, t < gnT G → okO (want t)) (hw : ∀ v, v < gnT G → gI h 8121 0 v = rowO (want v)) (hfr : ∀ v, v < gnT G → want v ≠ none → gI h 7080 v 6 = 0) {s : Nat} (hs : s < 9330) : ∀ (r t : Nat), t + r = gnT G →
    EX (d + 1) 26 4 [z_R 9010 0, z_I (nI s), z_I (nI (bs (brk G want s) t)), z_I (nI t)] [] h = some (some (z_I (nI (bs (brk G want s) (gnT G)))), h) := by
  have ct := cT_of hG
  have h8 := ct.1.2.2.2.1
  have hsW : isW (stW s) := st_isW (by omega)
  intro r
  induction r with
  | zero =>
    intro t ht
    have : t = gnT G := by omega
    subst this
    rw [bX1_unfitFor_4]
    simp (disch := first | omega | rfl | assumption) only [ct.2.2.2.2.2.1, bX1_unfitFor_53, q_cl, q_ps, q_pn, bI_t, bI_f, gI_same, gI_ne, gR_pI, gJ_pI, gV_pI, gN_pI, gC_pI, gS_pI, gI_pJ, gR_pJ, gV_pJ, gN_pJ, gJ_same, gJ_ne, gI_pR, gJ_pR, gV_pR, gN_pR, gR_same, gR_ne, zin_t, zin_f, x_ltt, x_ltf, x_let, x_lef, x_eqt, x_eqf, n_0, n_1, n_2, n_3, n_4, n_5, n_6, n_7, n_8, n_9, n_10, n_11, n_12, n_16, n_19, n_20, n_24, n_25, n_32, n_40, n_48, n_50, n_60, n_64, n_80, n_96, n_114, n_684, n_1000, n_9330, n_16806, n_1000000, n_5764800, ↓n_m, m_ltI, m_leI, m_lt', m_le', m_eq, m_eq', m_add, m_sub, mm_lt, mm_le, mm_eq, q_sub, nI_add, q_mul, nI_clamp, bz_0, bz_1, q_bzb, b_0, b_1, b_ft, b_tf, ne_eq, not_true_eq_false, not_false_eq_true, decide_true, decide_false, Bool.and_self, Bool.false_and, Bool.and_false, Bool.and_true, Bool.true_and, Bool.not_true, Bool.not_false, ↓reduceIte]
  | succ r ih =>
    intro t ht
    have htn : t < gnT G := by omega
    have ih1 := ih (t + 1) (by omega)
    have hwr := wrt_ok ct.1 0 htn hsW
    have hwt := hw t htn
    have hsh : nI 1 <<< (nI t &&& 31) = nI (2 ^ t) := by rw [q_shl 1 (by omega), Nat.one_mul]
    have est := bs_step (brk G want s) (n := t) (by omega) _ rfl
    have eF : brk G want s t = false → nI (bs (brk G want s) (t + 1)) = nI (bs (brk G want s) t) := by
      intro z
      show nI (bs (brk G want s) t + (if brk G want s t then 2 ^ t else 0)) = _
      rw [z]; rfl
    rw [bX1_unfitFor_4]
    cases ho : want t with
    | none =>
      have hb : brk G want s t = false := by unfold brk; rw [ho]; rfl
      rw [eF hb] at ih1
      rw [ho] at hwt
      simp (disch := first | omega | rfl | assumption) only [ct.2.2.2.2.2.1, ct.2.1.1 9010 1 rfl, hwt, rowO_none, bX1_unfitFor_47, q_cl, q_ps, q_pn, bI_t, bI_f, gI_same, gI_ne, gR_pI, gJ_pI, gV_pI, gN_pI, gC_pI, gS_pI, gI_pJ, gR_pJ, gV_pJ, gN_pJ, gJ_same, gJ_ne, gI_pR, gJ_pR, gV_pR, gN_pR, gR_same, gR_ne, zin_t, zin_f, x_ltt, x_ltf, x_let, x_lef, x_eqt, x_eqf, n_0, n_1, n_2, n_3, n_4, n_5, n_6, n_7, n_8, n_9, n_10, n_11, n_12, n_16, n_19, n_20, n_24, n_25, n_32, n_40, n_48, n_50, n_60, n_64, n_80, n_96, n_114, n_684, n_1000, n_9330, n_16806, n_1000000, n_5764800, ↓n_m, m_ltI, m_leI, m_lt', m_le', m_eq, m_eq', m_add, m_sub, mm_lt, mm_le, mm_eq, q_sub, nI_add, q_mul, nI_clamp, bz_0, bz_1, q_bzb, b_0, b_1, b_ft, b_tf, ne_eq, not_true_eq_false, not_false_eq_true, decide_true, decide_false, Bool.and_self, Bool.false_and, Bool.and_false, Bool.and_true, Bool.true_and, Bool.not_true, Bool.not_false, ↓reduceIte]
      exact ih1
    | some v =>
      have hv := hwo t htn v ho
      have hlv := rowN_lt' hv
      have hlw := rowN_lt' hwr
      rw [ho] at hwt
      have hforms : gR h 7080 t 5 ≠ 0 ∧ ∀ s, s < 9330 → gJ h 9330404 (gR h 7080 t 5 - 1) s = pkJ G t s := by
        rcases (I_F hG).2.2.2.2.2.2 t htn with y | ⟨y1, y2, y3⟩
        · rw [hfr t htn (by rw [ho]; intro z; cases z)] at y; cases y
        · exact ⟨y2, y3⟩
      have ew := c_writtenAt d hforms.1 hs (hforms.2 s hs) (frm_ok ct.1 0 t (stW s) htn hsW) hwr
      by_cases hq : rowN (wrt G 0 t (stW s)) = rowN v
      · have hb : brk G want s t = false := by unfold brk; rw [ho, rowN_inj _ _ hwr.2 hv.2 hq]; simp
        rw [eF hb] at ih1
        simp (disch := first | omega | rfl | assumption) only [ct.2.2.2.2.2.1, ct.2.1.1 9010 0 rfl, ct.2.1.1 9010 1 rfl, hwt, rowO_some, (ct.2.2.2.2.2.2 t htn).1, ew, bX1_unfitFor_32, hq, bX1_unfitFor_47, q_cl, q_ps, q_pn, bI_t, bI_f, gI_same, gI_ne, gR_pI, gJ_pI, gV_pI, gN_pI, gC_pI, gS_pI, gI_pJ, gR_pJ, gV_pJ, gN_pJ, gJ_same, gJ_ne, gI_pR, gJ_pR, gV_pR, gN_pR, gR_same, gR_ne, zin_t, zin_f, x_ltt, x_ltf, x_let, x_lef, x_eqt, x_eqf, n_0, n_1, n_2, n_3, n_4, n_5, n_6, n_7, n_8, n_9, n_10, n_11, n_12, n_16, n_19, n_20, n_24, n_25, n_32, n_40, n_48, n_50, n_60, n_64, n_80, n_96, n_114, n_684, n_1000, n_9330, n_16806, n_1000000, n_5764800, ↓n_m, m_ltI, m_leI, m_lt', m_le', m_eq, m_eq', m_add, m_sub, mm_lt, mm_le, mm_eq, q_sub, nI_add, q_mul, nI_clamp, bz_0, bz_1, q_bzb, b_0, b_1, b_ft, b_tf, ne_eq, not_true_eq_false, not_false_eq_true, decide_true, decide_false, Bool.and_self, Bool.false_and, Bool.and_false, Bool.and_true, Bool.true_and, Bool.not_true, Bool.not_false, ↓reduceIte]
        exact ih1
      · have hb : brk G want s t = true := by
          unfold brk
          have hn : ¬ want t = none := fun z => by rw [ho] at z; cases z
          have hn2 : ¬ want t = some (wrt G 0 t (stW s)) := fun z => hq (by rw [ho] at z; rw [Option.some.inj z])
          simp [hn, hn2]
        rw [hb] at est
        have est2 : nI (bs (brk G want s) t) ||| nI (2 ^ t) = nI (bs (brk G want s) (t + 1)) := by rw [← est, ← hsh]; rfl
        simp (disch := first | omega | rfl | assumption) only [ct.2.2.2.2.2.1, ct.2.1.1 9010 0 rfl, ct.2.1.1 9010 1 rfl, hwt, rowO_some, (ct.2.2.2.2.2.2 t htn).1, ew, bX1_unfitFor_32, hsh, est2, bX1_unfitFor_47, q_cl, q_ps, q_pn, bI_t, bI_f, gI_same, gI_ne, gR_pI, gJ_pI, gV_pI, gN_pI, gC_pI, gS_pI, gI_pJ, gR_pJ, gV_pJ, gN_pJ, gJ_same, gJ_ne, gI_pR, gJ_pR, gV_pR, gN_pR, gR_same, gR_ne, zin_t, zin_f, x_ltt, x_ltf, x_let, x_lef, x_eqt, x_eqf, n_0, n_1, n_2, n_3, n_4, n_5, n_6, n_7, n_8, n_9, n_10, n_11, n_12, n_16, n_19, n_20, n_24, n_25, n_32, n_40, n_48, n_50, n_60, n_64, n_80, n_96, n_114, n_684, n_1000, n_9330, n_16806, n_1000000, n_5764800, ↓n_m, m_ltI, m_leI, m_lt', m_le', m_eq, m_eq', m_add, m_sub, mm_lt, mm_le, mm_eq, q_sub, nI_add, q_mul, nI_clamp, bz_0, bz_1, q_bzb, b_0, b_1, b_ft, b_tf, ne_eq, not_true_eq_false, not_false_eq_true, decide_true, decide_false, Bool.and_self, Bool.false_and, Bool.and_false, Bool.and_true, Bool.true_and, Bool.not_true, Bool.not_false, ↓reduceIte]
        exact ih1
theorem c_unfit (d : Nat) {h : z_H} {N : Nat} {xs : Nat → Int32} {G : Gh} {e : Int32} (hG : InvG h N xs G e) {want : Nat → Option (List Nat)} (hwo : ∀ t, t < gnT G → okO (want t)) (hw : ∀ v, v < gnT G → gI h 8121 0 v = rowO (want v)) (hfr : ∀ v, v < gnT G → want v ≠ none → gI h 7080 v 6 = 0) {s : Nat} (hs : s < 9330) : Rn (d + 2) 26 [z_R 9010 0, z_I (nI s)] h = some (some (z_I (nI (bs (brk G want s) (gnT G)))), h) := by
  rw [rX1_unfitFor, bX1_unfitFor_0]
  exact c_unfit_loop d hG hwo hw hfr hs (gnT G) 0 (by omega)
/-- the class gathers and weighs -/
theorem cls_gw (d : Nat) {h : z_H} {N : Nat} {xs : Nat → Int32} {G : Gh} (hG : InvG h N xs G 0) {nM nF : Nat} {fm ft fy : Nat → Nat} {fw : Nat → Option (List Nat)} (hF : iFnG h (gnT G) nM nF fm ft fy fw) {a y : Nat} (ha : a < nM) (hy : y < 1000) :
    ∃ h1 h2, Rn (d + 59) 36 [z_R 6020 0, z_I (nI a), z_I (nI y), z_R 8121 0] h = some (none, h1) ∧ cOK h1 ∧ Rn (d + 59) 21 [z_R 9010 0] h1 = some (none, h2) ∧ cOK h2 ∧ InvG h2 N xs G 0 ∧ iFnG h2 (gnT G) nM nF fm ft fy fw ∧ wgd h2 (cntW (fun t => knF fm ft fy fw a t y nF) (gnT G)) (fun s => fitC G 0 (fun t => knF fm ft fy fw a t y nF) s (gnT G)) ∧ (∀ v, v < gnT G → knF fm ft fy fw a v y nF ≠ none → gI h2 7080 v 6 = 0) ∧ (∀ v, v < gnT G → gI h2 8121 0 v = rowO (knF fm ft fy fw a v y nF)) ∧ (∀ v, okO (knF fm ft fy fw a v y nF)) := by
  have c := I_c hG
  have a3 := (I_T hG).2.2.1
  have l1 := hF.1
  obtain ⟨h1, e1, e2, e3⟩ := c_gather (d + 57) a3 (show a < 10 by omega) hy c hF
  have F1 : frX [12] h h1 := frX_fr e3 fr8121_g
  have I1 := Inv_scr F1 hG
  have hok : ∀ v, okO (knF fm ft fy fw a v y nF) := fun v => knF_ok nF (fun k hk => (hF.2.2.2.2.2.2.1 k hk).2.2.2.1)
  obtain ⟨h2, f1, f2, f3, f4, f5, f6, f7, f8⟩ := c_weigh (d + 53) I1 (want := fun t => knF fm ft fy fw a t y nF) (fun v _ => hok v) (fun v hv => e2 v (by omega))
  exact ⟨h1, h2, e1, I_c I1, f1, I_c f2, f2, iFnG_fr (frX_trans (frX_mono (by decide) F1) f8) (by decide) hF, wgd_of a3 f3 f4 f5, f6, fun v hv => (f7 v).trans (e2 v (by omega)), hok⟩
