/-! ===== back, stem ===== -/
theorem moB_one (G : Gh) (mu t s : Nat) (v : List Nat) : ∀ n, moB G mu (fun u => if u = t then some v else none) s n = (!decide (t < n) || decide (wrt G mu t (stW s) = v)) := by
  intro n
  induction n with
  | zero => rfl
  | succ n ih =>
    show (moB G mu (fun u => if u = t then some v else none) s n && (decide ((if n = t then some v else none) = none) || decide ((if n = t then some v else none) = some (wrt G mu n (stW s))))) = _
    rw [ih]
    by_cases hn : n = t
    · subst hn
      by_cases hv : wrt G mu n (stW s) = v
      · simp [hv]
      · have : ¬ v = wrt G mu n (stW s) := fun z => hv z.symm
        simp [hv, this]
    · rw [if_neg hn]
      by_cases h1 : t < n
      · simp [h1, show t < n + 1 by omega]
      · simp [h1, show ¬ t < n + 1 by omega]
theorem wgd_of {h : z_H} {G : Gh} {want : Nat → Option (List Nat)} (hn : gnT G ≤ 8) (hr : rdy h) (e1 : gI h 9010 0 5 = nI (cntW want (gnT G))) (e2 : ∀ s, s < 9330 → gI h 9330141 0 s = nI (fitC G 0 want s (gnT G))) : wgd h (cntW want (gnT G)) (fun s => fitC G 0 want s (gnT G)) := by
  refine ⟨hr, ?_, fun s => ?_, e1, e2⟩
  · have := (fit_le G 0 want 0 (gnT G)).2; omega
  · have := fit_le G 0 want s (gnT G)
    show fitC G 0 want s (gnT G) < 10
    omega
theorem fit_dec (G : Gh) (want : Nat → Option (List Nat)) (s n : Nat) : decide (fitC G 0 want s n = cntW want n) = moB G 0 want s n := by
  have := fit_iff G 0 want s n
  cases hm : moB G 0 want s n with
  | true => rw [hm] at this; simp [this]
  | false => rw [hm] at this; simp [this]
theorem c_wantIn (d : Nat) {h : z_H} (c : cOK h) {t : Nat} (ht : t < 8) (v : List Nat) : ∃ h', Rn (d + 2) 20 [z_R 9010 0, z_I (nI t), z_I (nI (rowN v))] h = some (none, h') ∧ (∀ u, u < 8 → gI h' 8121 0 u = rowO (if u = t then some v else none)) ∧ fr (fun p _ _ => p = 8121) h h' := by
  obtain ⟨h1, e1, e2, e3⟩ := c_fill_a d mI h
  have c1 : cOK h1 := frX_cOK (by decide) (frX_fr e3 fr8121_g) c
  refine ⟨pI h1 8121 0 t (nI (rowN v)), ?_, fun u hu => ?_, fr_trans e3 (fr_pI _ _ rfl)⟩
  · simp (disch := first | omega | rfl | assumption) only [bX1_wantIn_0, bX1_wantIn_8, rX1_wantIn, c.1 9010 1 rfl, e1, c1.1 9010 1 rfl, q_cl, q_ps, q_pn, bI_t, bI_f, gI_same, gI_ne, gR_pI, gJ_pI, gV_pI, gN_pI, gC_pI, gS_pI, gI_pJ, gR_pJ, gV_pJ, gN_pJ, gJ_same, gJ_ne, gI_pR, gJ_pR, gV_pR, gN_pR, gR_same, gR_ne, zin_t, zin_f, x_ltt, x_ltf, x_let, x_lef, x_eqt, x_eqf, n_0, n_1, n_2, n_3, n_4, n_5, n_6, n_7, n_8, n_9, n_10, n_11, n_12, n_16, n_19, n_20, n_24, n_25, n_32, n_40, n_48, n_50, n_60, n_64, n_80, n_96, n_114, n_684, n_1000, n_9330, n_16806, n_1000000, n_5764800, ↓n_m, m_ltI, m_leI, m_lt', m_le', m_eq, m_eq', m_add, m_sub, mm_lt, mm_le, mm_eq, q_sub, nI_add, q_mul, nI_clamp, bz_0, bz_1, q_bzb, b_0, b_1, b_ft, b_tf, ne_eq, not_true_eq_false, not_false_eq_true, decide_true, decide_false, Bool.and_self, Bool.false_and, Bool.and_false, Bool.and_true, Bool.true_and, Bool.not_true, Bool.not_false, ↓reduceIte]
  · by_cases hut : u = t
    · subst hut
      rw [if_pos rfl]
      simp (disch := first | omega | rfl | assumption) only [q_cl, q_ps, q_pn, bI_t, bI_f, gI_same, gI_ne, gR_pI, gJ_pI, gV_pI, gN_pI, gC_pI, gS_pI, gI_pJ, gR_pJ, gV_pJ, gN_pJ, gJ_same, gJ_ne, gI_pR, gJ_pR, gV_pR, gN_pR, gR_same, gR_ne, zin_t, zin_f, x_ltt, x_ltf, x_let, x_lef, x_eqt, x_eqf, n_0, n_1, n_2, n_3, n_4, n_5, n_6, n_7, n_8, n_9, n_10, n_11, n_12, n_16, n_19, n_20, n_24, n_25, n_32, n_40, n_48, n_50, n_60, n_64, n_80, n_96, n_114, n_684, n_1000, n_9330, n_16806, n_1000000, n_5764800, ↓n_m, m_ltI, m_leI, m_lt', m_le', m_eq, m_eq', m_add, m_sub, mm_lt, mm_le, mm_eq, q_sub, nI_add, q_mul, nI_clamp, bz_0, bz_1, q_bzb, b_0, b_1, b_ft, b_tf, ne_eq, not_true_eq_false, not_false_eq_true, decide_true, decide_false, Bool.and_self, Bool.false_and, Bool.and_false, Bool.and_true, Bool.true_and, Bool.not_true, Bool.not_false, ↓reduceIte]
      rfl
    · rw [if_neg hut]
      simp (disch := first | omega | rfl | assumption) only [e2 u hu, q_cl, q_ps, q_pn, bI_t, bI_f, gI_same, gI_ne, gR_pI, gJ_pI, gV_pI, gN_pI, gC_pI, gS_pI, gI_pJ, gR_pJ, gV_pJ, gN_pJ, gJ_same, gJ_ne, gI_pR, gJ_pR, gV_pR, gN_pR, gR_same, gR_ne, zin_t, zin_f, x_ltt, x_ltf, x_let, x_lef, x_eqt, x_eqf, n_0, n_1, n_2, n_3, n_4, n_5, n_6, n_7, n_8, n_9, n_10, n_11, n_12, n_16, n_19, n_20, n_24, n_25, n_32, n_40, n_48, n_50, n_60, n_64, n_80, n_96, n_114, n_684, n_1000, n_9330, n_16806, n_1000000, n_5764800, ↓n_m, m_ltI, m_leI, m_lt', m_le', m_eq, m_eq', m_add, m_sub, mm_lt, mm_le, mm_eq, q_sub, nI_add, q_mul, nI_clamp, bz_0, bz_1, q_bzb, b_0, b_1, b_ft, b_tf, ne_eq, not_true_eq_false, not_false_eq_true, decide_true, decide_false, Bool.and_self, Bool.false_and, Bool.and_false, Bool.and_true, Bool.true_and, Bool.not_true, Bool.not_false, ↓reduceIte]
      rfl
theorem m_back_loop (d : Nat) {G : Gh} {t : Nat} (ht : t < gnT G) {v : List Nat} (hv : isW v) : ∀ (r s : Nat) (h : z_H), s + r = 9330 → mT h G 0 →
    ∃ h', EX (d + 20) 187 27 [z_R 49100 0, z_I (nI t), z_I (nI (wN v)), z_I (nI (cntB (fun s => decide (wrt G 0 t (stW s) = v)) s)), z_I (nI (stN s))] [] h = some (some (z_I (nI (cntB (fun s => decide (wrt G 0 t (stW s) = v)) 9330))), h') ∧ fr tW h h' := by
  intro r
  induction r with
  | zero =>
    intro s h hs m
    have : s = 9330 := by omega
    subst this
    refine ⟨h, ?_, fr_rfl _ _⟩
    rw [stN_9330, bX11_back_27]
    simp (disch := first | omega | rfl | assumption) only [bX11_back_64, q_cl, q_ps, q_pn, bI_t, bI_f, gI_same, gI_ne, gR_pI, gJ_pI, gV_pI, gN_pI, gC_pI, gS_pI, gI_pJ, gR_pJ, gV_pJ, gN_pJ, gJ_same, gJ_ne, gI_pR, gJ_pR, gV_pR, gN_pR, gR_same, gR_ne, zin_t, zin_f, x_ltt, x_ltf, x_let, x_lef, x_eqt, x_eqf, n_0, n_1, n_2, n_3, n_4, n_5, n_6, n_7, n_8, n_9, n_10, n_11, n_12, n_16, n_19, n_20, n_24, n_25, n_32, n_40, n_48, n_50, n_60, n_64, n_80, n_96, n_114, n_684, n_1000, n_9330, n_16806, n_1000000, n_5764800, ↓n_m, m_ltI, m_leI, m_lt', m_le', m_eq, m_eq', m_add, m_sub, mm_lt, mm_le, mm_eq, q_sub, nI_add, q_mul, nI_clamp, bz_0, bz_1, q_bzb, b_0, b_1, b_ft, b_tf, ne_eq, not_true_eq_false, not_false_eq_true, decide_true, decide_false, Bool.and_self, Bool.false_and, Bool.and_false, Bool.and_true, Bool.true_and, Bool.not_true, Bool.not_false, ↓reduceIte]
  | succ r ih =>
    intro s h hs m
    have hsW : isW (stW s) := st_isW (by omega)
    have hwo := wrt_ok m.1 0 ht hsW
    have l1 := wN_lt hwo
    have l2 := wN_lt hv
    have h8 := m.1.2.2.2.1
    obtain ⟨s1, s2⟩ := stN_le (show s < 9330 by omega)
    obtain ⟨h1, e1, e2⟩ := m_writtenOf (G := G) (mu := 0) (by decide) (D := d + 20) ht (by omega) m hsW
    rw [show wN (stW s) = stN s from rfl] at e1
    obtain ⟨h', q1, q2⟩ := ih (s + 1) h1 (by omega) (mT_tW e2 m)
    have e3 : cntB (fun s => decide (wrt G 0 t (stW s) = v)) (s + 1) = cntB (fun s => decide (wrt G 0 t (stW s) = v)) s + (if decide (wrt G 0 t (stW s) = v) = true then 1 else 0) := rfl
    refine ⟨h', ?_, fr_trans e2 q2⟩
    rw [bX11_back_27]
    by_cases hq : wrt G 0 t (stW s) = v
    · rw [if_pos (by simpa using hq)] at e3
      rw [e3] at q1
      have hN : wN (wrt G 0 t (stW s)) = wN v := by rw [hq]
      simp (disch := first | omega | rfl | assumption) only [e1, bX11_back_43, hN, bX11_back_52, m_nextStem (d + 17) (show s < 9330 by omega), bX11_back_59, q_cl, q_ps, q_pn, bI_t, bI_f, gI_same, gI_ne, gR_pI, gJ_pI, gV_pI, gN_pI, gC_pI, gS_pI, gI_pJ, gR_pJ, gV_pJ, gN_pJ, gJ_same, gJ_ne, gI_pR, gJ_pR, gV_pR, gN_pR, gR_same, gR_ne, zin_t, zin_f, x_ltt, x_ltf, x_let, x_lef, x_eqt, x_eqf, n_0, n_1, n_2, n_3, n_4, n_5, n_6, n_7, n_8, n_9, n_10, n_11, n_12, n_16, n_19, n_20, n_24, n_25, n_32, n_40, n_48, n_50, n_60, n_64, n_80, n_96, n_114, n_684, n_1000, n_9330, n_16806, n_1000000, n_5764800, ↓n_m, m_ltI, m_leI, m_lt', m_le', m_eq, m_eq', m_add, m_sub, mm_lt, mm_le, mm_eq, q_sub, nI_add, q_mul, nI_clamp, bz_0, bz_1, q_bzb, b_0, b_1, b_ft, b_tf, ne_eq, not_true_eq_false, not_false_eq_true, decide_true, decide_false, Bool.and_self, Bool.false_and, Bool.and_false, Bool.and_true, Bool.true_and, Bool.not_true, Bool.not_false, ↓reduceIte]
      exact q1
    · rw [if_neg (by simpa using hq)] at e3
      rw [e3] at q1
      have hN : ¬ wN (wrt G 0 t (stW s)) = wN v := fun z => hq (wN_inj hwo hv z)
      simp (disch := first | omega | rfl | assumption) only [e1, bX11_back_43, bX11_back_51, bX11_back_52, m_nextStem (d + 17) (show s < 9330 by omega), bX11_back_59, q_cl, q_ps, q_pn, bI_t, bI_f, gI_same, gI_ne, gR_pI, gJ_pI, gV_pI, gN_pI, gC_pI, gS_pI, gI_pJ, gR_pJ, gV_pJ, gN_pJ, gJ_same, gJ_ne, gI_pR, gJ_pR, gV_pR, gN_pR, gR_same, gR_ne, zin_t, zin_f, x_ltt, x_ltf, x_let, x_lef, x_eqt, x_eqf, n_0, n_1, n_2, n_3, n_4, n_5, n_6, n_7, n_8, n_9, n_10, n_11, n_12, n_16, n_19, n_20, n_24, n_25, n_32, n_40, n_48, n_50, n_60, n_64, n_80, n_96, n_114, n_684, n_1000, n_9330, n_16806, n_1000000, n_5764800, ↓n_m, m_ltI, m_leI, m_lt', m_le', m_eq, m_eq', m_add, m_sub, mm_lt, mm_le, mm_eq, q_sub, nI_add, q_mul, nI_clamp, bz_0, bz_1, q_bzb, b_0, b_1, b_ft, b_tf, ne_eq, not_true_eq_false, not_false_eq_true, decide_true, decide_false, Bool.and_self, Bool.false_and, Bool.and_false, Bool.and_true, Bool.true_and, Bool.not_true, Bool.not_false, ↓reduceIte]
      exact q1
theorem op_back {N : Nat} {xs : Nat → Int32} (d : Nat) {h : z_H} (hI : Inv h N xs) (x1 x2 : Int32) : OKc N xs (d + 60) 98 187 [z_I x1, z_I x2] h := by
  obtain ⟨G, hG⟩ := hI
  have m := I_m hG
  have c := I_c hG
  obtain ⟨a1, a2, a3, -⟩ := I_T hG
  have nl : gnT G < 2 ^ 31 := by omega
  cases g1 : z_in x1 (gnT G) with
  | false => exact OK_ref2 hG (-1000001) (by simp (disch := first | omega | rfl | assumption) only [bX10_back_0, bX10_back_4, bX10_back_10, bX10_back_18, bX10_back_24, bX10_back_25, bX10_back_34, bX10_back_41, bX10_back_48, rX10_back, c_rowOf, c_noTongue (h := h) _ nl c a1, g1, c_finding, q_cl, q_ps, q_pn, bI_t, bI_f, gI_same, gI_ne, gR_pI, gJ_pI, gV_pI, gN_pI, gC_pI, gS_pI, gI_pJ, gR_pJ, gV_pJ, gN_pJ, gJ_same, gJ_ne, gI_pR, gJ_pR, gV_pR, gN_pR, gR_same, gR_ne, zin_t, zin_f, x_ltt, x_ltf, x_let, x_lef, x_eqt, x_eqf, n_0, n_1, n_2, n_3, n_4, n_5, n_6, n_7, n_8, n_9, n_10, n_11, n_12, n_16, n_19, n_20, n_24, n_25, n_32, n_40, n_48, n_50, n_60, n_64, n_80, n_96, n_114, n_684, n_1000, n_9330, n_16806, n_1000000, n_5764800, ↓n_m, m_ltI, m_leI, m_lt', m_le', m_eq, m_eq', m_add, m_sub, mm_lt, mm_le, mm_eq, q_sub, nI_add, q_mul, nI_clamp, bz_0, bz_1, q_bzb, b_0, b_1, b_ft, b_tf, ne_eq, not_true_eq_false, not_false_eq_true, decide_true, decide_false, Bool.and_self, Bool.false_and, Bool.and_false, Bool.and_true, Bool.true_and, Bool.not_true, Bool.not_false, ↓reduceIte]) (by simp (disch := first | omega | rfl | assumption) only [bX11_back_0, bX11_back_5, bX11_back_12, bX11_back_15, bX11_back_21, bX11_back_22, bX11_back_43, bX11_back_51, bX11_back_52, bX11_back_59, bX11_back_64, rX11_back, m_isTongue (h := (pI h 10090 0 9 (gI h 10090 0 9 + nI 1))) _ nl (by simp (disch := first | omega | rfl | assumption) only [a2, q_cl, q_ps, q_pn, bI_t, bI_f, gI_same, gI_ne, gR_pI, gJ_pI, gV_pI, gN_pI, gC_pI, gS_pI, gI_pJ, gR_pJ, gV_pJ, gN_pJ, gJ_same, gJ_ne, gI_pR, gJ_pR, gV_pR, gN_pR, gR_same, gR_ne, zin_t, zin_f, x_ltt, x_ltf, x_let, x_lef, x_eqt, x_eqf, n_0, n_1, n_2, n_3, n_4, n_5, n_6, n_7, n_8, n_9, n_10, n_11, n_12, n_16, n_19, n_20, n_24, n_25, n_32, n_40, n_48, n_50, n_60, n_64, n_80, n_96, n_114, n_684, n_1000, n_9330, n_16806, n_1000000, n_5764800, ↓n_m, m_ltI, m_leI, m_lt', m_le', m_eq, m_eq', m_add, m_sub, mm_lt, mm_le, mm_eq, q_sub, nI_add, q_mul, nI_clamp, bz_0, bz_1, q_bzb, b_0, b_1, b_ft, b_tf, ne_eq, not_true_eq_false, not_false_eq_true, decide_true, decide_false, Bool.and_self, Bool.false_and, Bool.and_false, Bool.and_true, Bool.true_and, Bool.not_true, Bool.not_false, ↓reduceIte]), g1, m_finding, q_cl, q_ps, q_pn, bI_t, bI_f, gI_same, gI_ne, gR_pI, gJ_pI, gV_pI, gN_pI, gC_pI, gS_pI, gI_pJ, gR_pJ, gV_pJ, gN_pJ, gJ_same, gJ_ne, gI_pR, gJ_pR, gV_pR, gN_pR, gR_same, gR_ne, zin_t, zin_f, x_ltt, x_ltf, x_let, x_lef, x_eqt, x_eqf, n_0, n_1, n_2, n_3, n_4, n_5, n_6, n_7, n_8, n_9, n_10, n_11, n_12, n_16, n_19, n_20, n_24, n_25, n_32, n_40, n_48, n_50, n_60, n_64, n_80, n_96, n_114, n_684, n_1000, n_9330, n_16806, n_1000000, n_5764800, ↓n_m, m_ltI, m_leI, m_lt', m_le', m_eq, m_eq', m_add, m_sub, mm_lt, mm_le, mm_eq, q_sub, nI_add, q_mul, nI_clamp, bz_0, bz_1, q_bzb, b_0, b_1, b_ft, b_tf, ne_eq, not_true_eq_false, not_false_eq_true, decide_true, decide_false, Bool.and_self, Bool.false_and, Bool.and_false, Bool.and_true, Bool.true_and, Bool.not_true, Bool.not_false, ↓reduceIte])
  | true =>
    obtain ⟨t, ht, -, rfl⟩ := zin_of g1
    cases g2 : isX x2 with
    | false => exact OK_ref2 hG (-1000001) (by simp (disch := first | omega | rfl | assumption) only [bX10_back_0, bX10_back_4, bX10_back_10, bX10_back_18, bX10_back_24, bX10_back_25, bX10_back_34, bX10_back_41, bX10_back_48, rX10_back, c_rowOf, rowX_no g2, c_noTongue (h := h) _ nl c a1, g1, c_finding, q_cl, q_ps, q_pn, bI_t, bI_f, gI_same, gI_ne, gR_pI, gJ_pI, gV_pI, gN_pI, gC_pI, gS_pI, gI_pJ, gR_pJ, gV_pJ, gN_pJ, gJ_same, gJ_ne, gI_pR, gJ_pR, gV_pR, gN_pR, gR_same, gR_ne, zin_t, zin_f, x_ltt, x_ltf, x_let, x_lef, x_eqt, x_eqf, n_0, n_1, n_2, n_3, n_4, n_5, n_6, n_7, n_8, n_9, n_10, n_11, n_12, n_16, n_19, n_20, n_24, n_25, n_32, n_40, n_48, n_50, n_60, n_64, n_80, n_96, n_114, n_684, n_1000, n_9330, n_16806, n_1000000, n_5764800, ↓n_m, m_ltI, m_leI, m_lt', m_le', m_eq, m_eq', m_add, m_sub, mm_lt, mm_le, mm_eq, q_sub, nI_add, q_mul, nI_clamp, bz_0, bz_1, q_bzb, b_0, b_1, b_ft, b_tf, ne_eq, not_true_eq_false, not_false_eq_true, decide_true, decide_false, Bool.and_self, Bool.false_and, Bool.and_false, Bool.and_true, Bool.true_and, Bool.not_true, Bool.not_false, ↓reduceIte]) (by simp (disch := first | omega | rfl | assumption) only [bX11_back_0, bX11_back_5, bX11_back_12, bX11_back_15, bX11_back_21, bX11_back_22, bX11_back_43, bX11_back_51, bX11_back_52, bX11_back_59, bX11_back_64, rX11_back, m_isTongue (h := (pI h 10090 0 9 (gI h 10090 0 9 + nI 1))) _ nl (by simp (disch := first | omega | rfl | assumption) only [a2, q_cl, q_ps, q_pn, bI_t, bI_f, gI_same, gI_ne, gR_pI, gJ_pI, gV_pI, gN_pI, gC_pI, gS_pI, gI_pJ, gR_pJ, gV_pJ, gN_pJ, gJ_same, gJ_ne, gI_pR, gJ_pR, gV_pR, gN_pR, gR_same, gR_ne, zin_t, zin_f, x_ltt, x_ltf, x_let, x_lef, x_eqt, x_eqf, n_0, n_1, n_2, n_3, n_4, n_5, n_6, n_7, n_8, n_9, n_10, n_11, n_12, n_16, n_19, n_20, n_24, n_25, n_32, n_40, n_48, n_50, n_60, n_64, n_80, n_96, n_114, n_684, n_1000, n_9330, n_16806, n_1000000, n_5764800, ↓n_m, m_ltI, m_leI, m_lt', m_le', m_eq, m_eq', m_add, m_sub, mm_lt, mm_le, mm_eq, q_sub, nI_add, q_mul, nI_clamp, bz_0, bz_1, q_bzb, b_0, b_1, b_ft, b_tf, ne_eq, not_true_eq_false, not_false_eq_true, decide_true, decide_false, Bool.and_self, Bool.false_and, Bool.and_false, Bool.and_true, Bool.true_and, Bool.not_true, Bool.not_false, ↓reduceIte]), g1, m_isWord, g2, m_finding, q_cl, q_ps, q_pn, bI_t, bI_f, gI_same, gI_ne, gR_pI, gJ_pI, gV_pI, gN_pI, gC_pI, gS_pI, gI_pJ, gR_pJ, gV_pJ, gN_pJ, gJ_same, gJ_ne, gI_pR, gJ_pR, gV_pR, gN_pR, gR_same, gR_ne, zin_t, zin_f, x_ltt, x_ltf, x_let, x_lef, x_eqt, x_eqf, n_0, n_1, n_2, n_3, n_4, n_5, n_6, n_7, n_8, n_9, n_10, n_11, n_12, n_16, n_19, n_20, n_24, n_25, n_32, n_40, n_48, n_50, n_60, n_64, n_80, n_96, n_114, n_684, n_1000, n_9330, n_16806, n_1000000, n_5764800, ↓n_m, m_ltI, m_leI, m_lt', m_le', m_eq, m_eq', m_add, m_sub, mm_lt, mm_le, mm_eq, q_sub, nI_add, q_mul, nI_clamp, bz_0, bz_1, q_bzb, b_0, b_1, b_ft, b_tf, ne_eq, not_true_eq_false, not_false_eq_true, decide_true, decide_false, Bool.and_self, Bool.false_and, Bool.and_false, Bool.and_true, Bool.true_and, Bool.not_true, Bool.not_false, ↓reduceIte])
    | true =>
      obtain ⟨v, hv, rfl⟩ := isX_of g2
      have hlt := rowN_lt' hv
      have hlw := wN_lt hv
      obtain ⟨h1, e1, e2, e3⟩ := c_wantIn (d + 57) c (show t < 8 by omega) v
      have I1 := Inv_scr (frX_fr e3 fr8121_g) hG
      have c1 := I_c I1
      obtain ⟨h2, f1, f2, f3, f4, f5, f6, f7, f8⟩ := c_weigh (d + 53) I1 (want := fun u => if u = t then some v else none) (fun u _ w hw => by
        by_cases hu : u = t
        · simp only [hu, if_true] at hw; cases hw; exact hv
        · simp only [hu, if_false] at hw; cases hw) (fun u hu => e2 u (by omega))
      have c2 := I_c f2
      have hwg := wgd_of a3 f3 f4 f5
      have mt2 := mT_of f2
      obtain ⟨h3, k1, k2⟩ := m_back_loop (d + 39) ht hv 9330 0 h2 (by omega) mt2
      have a22 : gI h2 49100 0 9 = nI (gnT G) := mt2.2.2.2.2.2.1
      have hcnt : cntB (fun k => decide ((fun s => fitC G 0 (fun u => if u = t then some v else none) s (gnT G)) k = cntW (fun u => if u = t then some v else none) (gnT G))) 9330 = cntB (fun s => decide (wrt G 0 t (stW s) = v)) 9330 := by
        apply cntB_congr
        intro k _
        show decide (fitC G 0 (fun u => if u = t then some v else none) k (gnT G) = _) = _
        rw [fit_dec, moB_one]
        simp [ht]
      have ec := c_count (d + 58) hwg
      rw [hcnt] at ec
      refine ⟨nI (cntB (fun s => decide (wrt G 0 t (stW s) = v)) 9330), h2, h3, ?_, ?_, G, Inv_scr (frX_fr k2 tW_g) f2⟩
      · simp (disch := first | omega | rfl | assumption) only [bX10_back_0, bX10_back_4, bX10_back_10, bX10_back_18, bX10_back_24, bX10_back_25, bX10_back_34, bX10_back_41, bX10_back_48, rX10_back, c_rowOf, rowX_w hv, c_noTongue (h := h) _ nl c a1, g1, c.1 10090 2 rfl, e1, c1.1 10090 2 rfl, f1, c2.1 10090 2 rfl, ec, q_cl, q_ps, q_pn, bI_t, bI_f, gI_same, gI_ne, gR_pI, gJ_pI, gV_pI, gN_pI, gC_pI, gS_pI, gI_pJ, gR_pJ, gV_pJ, gN_pJ, gJ_same, gJ_ne, gI_pR, gJ_pR, gV_pR, gN_pR, gR_same, gR_ne, zin_t, zin_f, x_ltt, x_ltf, x_let, x_lef, x_eqt, x_eqf, n_0, n_1, n_2, n_3, n_4, n_5, n_6, n_7, n_8, n_9, n_10, n_11, n_12, n_16, n_19, n_20, n_24, n_25, n_32, n_40, n_48, n_50, n_60, n_64, n_80, n_96, n_114, n_684, n_1000, n_9330, n_16806, n_1000000, n_5764800, ↓n_m, m_ltI, m_leI, m_lt', m_le', m_eq, m_eq', m_add, m_sub, mm_lt, mm_le, mm_eq, q_sub, nI_add, q_mul, nI_clamp, bz_0, bz_1, q_bzb, b_0, b_1, b_ft, b_tf, ne_eq, not_true_eq_false, not_false_eq_true, decide_true, decide_false, Bool.and_self, Bool.false_and, Bool.and_false, Bool.and_true, Bool.true_and, Bool.not_true, Bool.not_false, ↓reduceIte]
      · rw [stN_0] at k1
        simp (disch := first | omega | rfl | assumption) only [bX11_back_0, bX11_back_5, bX11_back_12, bX11_back_15, bX11_back_21, bX11_back_22, bX11_back_43, bX11_back_51, bX11_back_52, bX11_back_59, bX11_back_64, rX11_back, m_isTongue (h := h2) _ nl a22, g1, m_isWord, g2, q_cl, q_ps, q_pn, bI_t, bI_f, gI_same, gI_ne, gR_pI, gJ_pI, gV_pI, gN_pI, gC_pI, gS_pI, gI_pJ, gR_pJ, gV_pJ, gN_pJ, gJ_same, gJ_ne, gI_pR, gJ_pR, gV_pR, gN_pR, gR_same, gR_ne, zin_t, zin_f, x_ltt, x_ltf, x_let, x_lef, x_eqt, x_eqf, n_0, n_1, n_2, n_3, n_4, n_5, n_6, n_7, n_8, n_9, n_10, n_11, n_12, n_16, n_19, n_20, n_24, n_25, n_32, n_40, n_48, n_50, n_60, n_64, n_80, n_96, n_114, n_684, n_1000, n_9330, n_16806, n_1000000, n_5764800, ↓n_m, m_ltI, m_leI, m_lt', m_le', m_eq, m_eq', m_add, m_sub, mm_lt, mm_le, mm_eq, q_sub, nI_add, q_mul, nI_clamp, bz_0, bz_1, q_bzb, b_0, b_1, b_ft, b_tf, ne_eq, not_true_eq_false, not_false_eq_true, decide_true, decide_false, Bool.and_self, Bool.false_and, Bool.and_false, Bool.and_true, Bool.true_and, Bool.not_true, Bool.not_false, ↓reduceIte]
        exact k1
theorem m_stem_loop (d : Nat) {G : Gh} {t : Nat} (ht : t < gnT G) {v : List Nat} (hv : isW v) (x3 : Int32) : ∀ (r s l : Nat) (h : z_H), s + r = 9330 → l < 2 ^ 31 → mT h G 0 →
    ∃ h', EX (d + 20) 188 32 [z_R 49100 0, z_I (nI t), z_I (nI (wN v)), z_I x3, z_I (nI l), z_I (nI (stN s))] [] h = (match nthF (fun s => decide (wrt G 0 t (stW s) = v)) r s l with | some k => some (some (z_I (nI (stN k))), h') | none => some (some (z_I (-1000004)), pI h' 49100 0 35 (gI h' 49100 0 35 + nI 1))) ∧ fr tW h h' := by
  intro r
  induction r with
  | zero =>
    intro s l h hs hl m
    have : s = 9330 := by omega
    subst this
    refine ⟨h, ?_, fr_rfl _ _⟩
    rw [stN_9330, bX11_stem_32]
    simp (disch := first | omega | rfl | assumption) only [bX11_stem_72, m_finding, bX11_stem_78, q_cl, q_ps, q_pn, bI_t, bI_f, gI_same, gI_ne, gR_pI, gJ_pI, gV_pI, gN_pI, gC_pI, gS_pI, gI_pJ, gR_pJ, gV_pJ, gN_pJ, gJ_same, gJ_ne, gI_pR, gJ_pR, gV_pR, gN_pR, gR_same, gR_ne, zin_t, zin_f, x_ltt, x_ltf, x_let, x_lef, x_eqt, x_eqf, n_0, n_1, n_2, n_3, n_4, n_5, n_6, n_7, n_8, n_9, n_10, n_11, n_12, n_16, n_19, n_20, n_24, n_25, n_32, n_40, n_48, n_50, n_60, n_64, n_80, n_96, n_114, n_684, n_1000, n_9330, n_16806, n_1000000, n_5764800, ↓n_m, m_ltI, m_leI, m_lt', m_le', m_eq, m_eq', m_add, m_sub, mm_lt, mm_le, mm_eq, q_sub, nI_add, q_mul, nI_clamp, bz_0, bz_1, q_bzb, b_0, b_1, b_ft, b_tf, ne_eq, not_true_eq_false, not_false_eq_true, decide_true, decide_false, Bool.and_self, Bool.false_and, Bool.and_false, Bool.and_true, Bool.true_and, Bool.not_true, Bool.not_false, ↓reduceIte]
    rfl
  | succ r ih =>
    intro s l h hs hl m
    have hsW : isW (stW s) := st_isW (by omega)
    have hwo := wrt_ok m.1 0 ht hsW
    have l1 := wN_lt hwo
    have l2 := wN_lt hv
    have h8 := m.1.2.2.2.1
    obtain ⟨s1, s2⟩ := stN_le (show s < 9330 by omega)
    obtain ⟨h1, e1, e2⟩ := m_writtenOf (G := G) (mu := 0) (by decide) (D := d + 20) ht (by omega) m hsW
    rw [show wN (stW s) = stN s from rfl] at e1
    have e3 : nthF (fun s => decide (wrt G 0 t (stW s) = v)) (r + 1) s l = if decide (wrt G 0 t (stW s) = v) = true then (if l = 0 then some s else nthF (fun s => decide (wrt G 0 t (stW s) = v)) r (s + 1) (l - 1)) else nthF (fun s => decide (wrt G 0 t (stW s) = v)) r (s + 1) l := rfl
    by_cases hq : wrt G 0 t (stW s) = v
    · rw [if_pos (by simpa using hq)] at e3
      have hN : wN (wrt G 0 t (stW s)) = wN v := by rw [hq]
      by_cases hl0 : l = 0
      · rw [if_pos hl0] at e3
        rw [e3]
        refine ⟨h1, ?_, e2⟩
        rw [bX11_stem_32]
        simp (disch := first | omega | rfl | assumption) only [e1, bX11_stem_47, hN, q_cl, q_ps, q_pn, bI_t, bI_f, gI_same, gI_ne, gR_pI, gJ_pI, gV_pI, gN_pI, gC_pI, gS_pI, gI_pJ, gR_pJ, gV_pJ, gN_pJ, gJ_same, gJ_ne, gI_pR, gJ_pR, gV_pR, gN_pR, gR_same, gR_ne, zin_t, zin_f, x_ltt, x_ltf, x_let, x_lef, x_eqt, x_eqf, n_0, n_1, n_2, n_3, n_4, n_5, n_6, n_7, n_8, n_9, n_10, n_11, n_12, n_16, n_19, n_20, n_24, n_25, n_32, n_40, n_48, n_50, n_60, n_64, n_80, n_96, n_114, n_684, n_1000, n_9330, n_16806, n_1000000, n_5764800, ↓n_m, m_ltI, m_leI, m_lt', m_le', m_eq, m_eq', m_add, m_sub, mm_lt, mm_le, mm_eq, q_sub, nI_add, q_mul, nI_clamp, bz_0, bz_1, q_bzb, b_0, b_1, b_ft, b_tf, ne_eq, not_true_eq_false, not_false_eq_true, decide_true, decide_false, Bool.and_self, Bool.false_and, Bool.and_false, Bool.and_true, Bool.true_and, Bool.not_true, Bool.not_false, ↓reduceIte]
      · rw [if_neg hl0] at e3
        obtain ⟨h', q1, q2⟩ := ih (s + 1) (l - 1) h1 (by omega) (by omega) (mT_tW e2 m)
        rw [e3]
        refine ⟨h', ?_, fr_trans e2 q2⟩
        rw [bX11_stem_32]
        simp (disch := first | omega | rfl | assumption) only [e1, bX11_stem_47, hN, bX11_stem_59, m_dec hl0, bX11_stem_62, m_nextStem (d + 17) (show s < 9330 by omega), bX11_stem_67, q_cl, q_ps, q_pn, bI_t, bI_f, gI_same, gI_ne, gR_pI, gJ_pI, gV_pI, gN_pI, gC_pI, gS_pI, gI_pJ, gR_pJ, gV_pJ, gN_pJ, gJ_same, gJ_ne, gI_pR, gJ_pR, gV_pR, gN_pR, gR_same, gR_ne, zin_t, zin_f, x_ltt, x_ltf, x_let, x_lef, x_eqt, x_eqf, n_0, n_1, n_2, n_3, n_4, n_5, n_6, n_7, n_8, n_9, n_10, n_11, n_12, n_16, n_19, n_20, n_24, n_25, n_32, n_40, n_48, n_50, n_60, n_64, n_80, n_96, n_114, n_684, n_1000, n_9330, n_16806, n_1000000, n_5764800, ↓n_m, m_ltI, m_leI, m_lt', m_le', m_eq, m_eq', m_add, m_sub, mm_lt, mm_le, mm_eq, q_sub, nI_add, q_mul, nI_clamp, bz_0, bz_1, q_bzb, b_0, b_1, b_ft, b_tf, ne_eq, not_true_eq_false, not_false_eq_true, decide_true, decide_false, Bool.and_self, Bool.false_and, Bool.and_false, Bool.and_true, Bool.true_and, Bool.not_true, Bool.not_false, ↓reduceIte]
        exact q1
    · rw [if_neg (by simpa using hq)] at e3
      have hN : ¬ wN (wrt G 0 t (stW s)) = wN v := fun z => hq (wN_inj hwo hv z)
      obtain ⟨h', q1, q2⟩ := ih (s + 1) l h1 (by omega) hl (mT_tW e2 m)
      rw [e3]
      refine ⟨h', ?_, fr_trans e2 q2⟩
      rw [bX11_stem_32]
      simp (disch := first | omega | rfl | assumption) only [e1, bX11_stem_47, bX11_stem_62, m_nextStem (d + 17) (show s < 9330 by omega), bX11_stem_67, q_cl, q_ps, q_pn, bI_t, bI_f, gI_same, gI_ne, gR_pI, gJ_pI, gV_pI, gN_pI, gC_pI, gS_pI, gI_pJ, gR_pJ, gV_pJ, gN_pJ, gJ_same, gJ_ne, gI_pR, gJ_pR, gV_pR, gN_pR, gR_same, gR_ne, zin_t, zin_f, x_ltt, x_ltf, x_let, x_lef, x_eqt, x_eqf, n_0, n_1, n_2, n_3, n_4, n_5, n_6, n_7, n_8, n_9, n_10, n_11, n_12, n_16, n_19, n_20, n_24, n_25, n_32, n_40, n_48, n_50, n_60, n_64, n_80, n_96, n_114, n_684, n_1000, n_9330, n_16806, n_1000000, n_5764800, ↓n_m, m_ltI, m_leI, m_lt', m_le', m_eq, m_eq', m_add, m_sub, mm_lt, mm_le, mm_eq, q_sub, nI_add, q_mul, nI_clamp, bz_0, bz_1, q_bzb, b_0, b_1, b_ft, b_tf, ne_eq, not_true_eq_false, not_false_eq_true, decide_true, decide_false, Bool.and_self, Bool.false_and, Bool.and_false, Bool.and_true, Bool.true_and, Bool.not_true, Bool.not_false, ↓reduceIte]
      exact q1
theorem op_stem {N : Nat} {xs : Nat → Int32} (d : Nat) {h : z_H} (hI : Inv h N xs) (x1 x2 x3 : Int32) : OKc N xs (d + 60) 99 188 [z_I x1, z_I x2, z_I x3] h := by
  obtain ⟨G, hG⟩ := hI
  have m := I_m hG
  have c := I_c hG
  obtain ⟨a1, a2, a3, -⟩ := I_T hG
  have nl : gnT G < 2 ^ 31 := by omega
  cases g1 : z_in x1 (gnT G) with
  | false => exact OK_ref2 hG (-1000001) (by simp (disch := first | omega | rfl | assumption) only [bX10_stem_0, bX10_stem_4, bX10_stem_11, bX10_stem_24, bX10_stem_30, bX10_stem_31, bX10_stem_41, bX10_stem_48, bX10_stem_56, bX10_stem_70, bX10_stem_73, bX10_stem_78, rX10_stem, c_rowOf, c_noTongue (h := h) _ nl c a1, g1, c_finding, q_cl, q_ps, q_pn, bI_t, bI_f, gI_same, gI_ne, gR_pI, gJ_pI, gV_pI, gN_pI, gC_pI, gS_pI, gI_pJ, gR_pJ, gV_pJ, gN_pJ, gJ_same, gJ_ne, gI_pR, gJ_pR, gV_pR, gN_pR, gR_same, gR_ne, zin_t, zin_f, x_ltt, x_ltf, x_let, x_lef, x_eqt, x_eqf, n_0, n_1, n_2, n_3, n_4, n_5, n_6, n_7, n_8, n_9, n_10, n_11, n_12, n_16, n_19, n_20, n_24, n_25, n_32, n_40, n_48, n_50, n_60, n_64, n_80, n_96, n_114, n_684, n_1000, n_9330, n_16806, n_1000000, n_5764800, ↓n_m, m_ltI, m_leI, m_lt', m_le', m_eq, m_eq', m_add, m_sub, mm_lt, mm_le, mm_eq, q_sub, nI_add, q_mul, nI_clamp, bz_0, bz_1, q_bzb, b_0, b_1, b_ft, b_tf, ne_eq, not_true_eq_false, not_false_eq_true, decide_true, decide_false, Bool.and_self, Bool.false_and, Bool.and_false, Bool.and_true, Bool.true_and, Bool.not_true, Bool.not_false, ↓reduceIte]) (by simp (disch := first | omega | rfl | assumption) only [bX11_stem_0, bX11_stem_5, bX11_stem_12, bX11_stem_19, bX11_stem_25, bX11_stem_26, bX11_stem_47, bX11_stem_59, bX11_stem_62, bX11_stem_67, bX11_stem_72, bX11_stem_78, rX11_stem, m_isTongue (h := (pI h 10090 0 9 (gI h 10090 0 9 + nI 1))) _ nl (by simp (disch := first | omega | rfl | assumption) only [a2, q_cl, q_ps, q_pn, bI_t, bI_f, gI_same, gI_ne, gR_pI, gJ_pI, gV_pI, gN_pI, gC_pI, gS_pI, gI_pJ, gR_pJ, gV_pJ, gN_pJ, gJ_same, gJ_ne, gI_pR, gJ_pR, gV_pR, gN_pR, gR_same, gR_ne, zin_t, zin_f, x_ltt, x_ltf, x_let, x_lef, x_eqt, x_eqf, n_0, n_1, n_2, n_3, n_4, n_5, n_6, n_7, n_8, n_9, n_10, n_11, n_12, n_16, n_19, n_20, n_24, n_25, n_32, n_40, n_48, n_50, n_60, n_64, n_80, n_96, n_114, n_684, n_1000, n_9330, n_16806, n_1000000, n_5764800, ↓n_m, m_ltI, m_leI, m_lt', m_le', m_eq, m_eq', m_add, m_sub, mm_lt, mm_le, mm_eq, q_sub, nI_add, q_mul, nI_clamp, bz_0, bz_1, q_bzb, b_0, b_1, b_ft, b_tf, ne_eq, not_true_eq_false, not_false_eq_true, decide_true, decide_false, Bool.and_self, Bool.false_and, Bool.and_false, Bool.and_true, Bool.true_and, Bool.not_true, Bool.not_false, ↓reduceIte]), g1, m_finding, q_cl, q_ps, q_pn, bI_t, bI_f, gI_same, gI_ne, gR_pI, gJ_pI, gV_pI, gN_pI, gC_pI, gS_pI, gI_pJ, gR_pJ, gV_pJ, gN_pJ, gJ_same, gJ_ne, gI_pR, gJ_pR, gV_pR, gN_pR, gR_same, gR_ne, zin_t, zin_f, x_ltt, x_ltf, x_let, x_lef, x_eqt, x_eqf, n_0, n_1, n_2, n_3, n_4, n_5, n_6, n_7, n_8, n_9, n_10, n_11, n_12, n_16, n_19, n_20, n_24, n_25, n_32, n_40, n_48, n_50, n_60, n_64, n_80, n_96, n_114, n_684, n_1000, n_9330, n_16806, n_1000000, n_5764800, ↓n_m, m_ltI, m_leI, m_lt', m_le', m_eq, m_eq', m_add, m_sub, mm_lt, mm_le, mm_eq, q_sub, nI_add, q_mul, nI_clamp, bz_0, bz_1, q_bzb, b_0, b_1, b_ft, b_tf, ne_eq, not_true_eq_false, not_false_eq_true, decide_true, decide_false, Bool.and_self, Bool.false_and, Bool.and_false, Bool.and_true, Bool.true_and, Bool.not_true, Bool.not_false, ↓reduceIte])
  | true =>
    obtain ⟨t, ht, -, rfl⟩ := zin_of g1
    cases g2 : isX x2 with
    | false => exact OK_ref2 hG (-1000001) (by simp (disch := first | omega | rfl | assumption) only [bX10_stem_0, bX10_stem_4, bX10_stem_11, bX10_stem_24, bX10_stem_30, bX10_stem_31, bX10_stem_41, bX10_stem_48, bX10_stem_56, bX10_stem_70, bX10_stem_73, bX10_stem_78, rX10_stem, c_rowOf, rowX_no g2, c_noTongue (h := h) _ nl c a1, g1, c_finding, q_cl, q_ps, q_pn, bI_t, bI_f, gI_same, gI_ne, gR_pI, gJ_pI, gV_pI, gN_pI, gC_pI, gS_pI, gI_pJ, gR_pJ, gV_pJ, gN_pJ, gJ_same, gJ_ne, gI_pR, gJ_pR, gV_pR, gN_pR, gR_same, gR_ne, zin_t, zin_f, x_ltt, x_ltf, x_let, x_lef, x_eqt, x_eqf, n_0, n_1, n_2, n_3, n_4, n_5, n_6, n_7, n_8, n_9, n_10, n_11, n_12, n_16, n_19, n_20, n_24, n_25, n_32, n_40, n_48, n_50, n_60, n_64, n_80, n_96, n_114, n_684, n_1000, n_9330, n_16806, n_1000000, n_5764800, ↓n_m, m_ltI, m_leI, m_lt', m_le', m_eq, m_eq', m_add, m_sub, mm_lt, mm_le, mm_eq, q_sub, nI_add, q_mul, nI_clamp, bz_0, bz_1, q_bzb, b_0, b_1, b_ft, b_tf, ne_eq, not_true_eq_false, not_false_eq_true, decide_true, decide_false, Bool.and_self, Bool.false_and, Bool.and_false, Bool.and_true, Bool.true_and, Bool.not_true, Bool.not_false, ↓reduceIte]) (by simp (disch := first | omega | rfl | assumption) only [bX11_stem_0, bX11_stem_5, bX11_stem_12, bX11_stem_19, bX11_stem_25, bX11_stem_26, bX11_stem_47, bX11_stem_59, bX11_stem_62, bX11_stem_67, bX11_stem_72, bX11_stem_78, rX11_stem, m_isTongue (h := (pI h 10090 0 9 (gI h 10090 0 9 + nI 1))) _ nl (by simp (disch := first | omega | rfl | assumption) only [a2, q_cl, q_ps, q_pn, bI_t, bI_f, gI_same, gI_ne, gR_pI, gJ_pI, gV_pI, gN_pI, gC_pI, gS_pI, gI_pJ, gR_pJ, gV_pJ, gN_pJ, gJ_same, gJ_ne, gI_pR, gJ_pR, gV_pR, gN_pR, gR_same, gR_ne, zin_t, zin_f, x_ltt, x_ltf, x_let, x_lef, x_eqt, x_eqf, n_0, n_1, n_2, n_3, n_4, n_5, n_6, n_7, n_8, n_9, n_10, n_11, n_12, n_16, n_19, n_20, n_24, n_25, n_32, n_40, n_48, n_50, n_60, n_64, n_80, n_96, n_114, n_684, n_1000, n_9330, n_16806, n_1000000, n_5764800, ↓n_m, m_ltI, m_leI, m_lt', m_le', m_eq, m_eq', m_add, m_sub, mm_lt, mm_le, mm_eq, q_sub, nI_add, q_mul, nI_clamp, bz_0, bz_1, q_bzb, b_0, b_1, b_ft, b_tf, ne_eq, not_true_eq_false, not_false_eq_true, decide_true, decide_false, Bool.and_self, Bool.false_and, Bool.and_false, Bool.and_true, Bool.true_and, Bool.not_true, Bool.not_false, ↓reduceIte]), g1, m_isWord, g2, m_finding, q_cl, q_ps, q_pn, bI_t, bI_f, gI_same, gI_ne, gR_pI, gJ_pI, gV_pI, gN_pI, gC_pI, gS_pI, gI_pJ, gR_pJ, gV_pJ, gN_pJ, gJ_same, gJ_ne, gI_pR, gJ_pR, gV_pR, gN_pR, gR_same, gR_ne, zin_t, zin_f, x_ltt, x_ltf, x_let, x_lef, x_eqt, x_eqf, n_0, n_1, n_2, n_3, n_4, n_5, n_6, n_7, n_8, n_9, n_10, n_11, n_12, n_16, n_19, n_20, n_24, n_25, n_32, n_40, n_48, n_50, n_60, n_64, n_80, n_96, n_114, n_684, n_1000, n_9330, n_16806, n_1000000, n_5764800, ↓n_m, m_ltI, m_leI, m_lt', m_le', m_eq, m_eq', m_add, m_sub, mm_lt, mm_le, mm_eq, q_sub, nI_add, q_mul, nI_clamp, bz_0, bz_1, q_bzb, b_0, b_1, b_ft, b_tf, ne_eq, not_true_eq_false, not_false_eq_true, decide_true, decide_false, Bool.and_self, Bool.false_and, Bool.and_false, Bool.and_true, Bool.true_and, Bool.not_true, Bool.not_false, ↓reduceIte])
    | true =>
      obtain ⟨v, hv, rfl⟩ := isX_of g2
      have hlt := rowN_lt' hv
      have hlw := wN_lt hv
      rcases neg_or x3 with hx | ⟨l, hl, rfl⟩
      · have hx2 := neg_le hx
        exact OK_ref2 hG (-1000001) (by simp (disch := first | omega | rfl | assumption) only [bX10_stem_0, bX10_stem_4, bX10_stem_11, bX10_stem_24, bX10_stem_30, bX10_stem_31, bX10_stem_41, bX10_stem_48, bX10_stem_56, bX10_stem_70, bX10_stem_73, bX10_stem_78, rX10_stem, c_rowOf, rowX_w hv, c_noTongue (h := h) _ nl c a1, g1, hx, hx2, c_finding, q_cl, q_ps, q_pn, bI_t, bI_f, gI_same, gI_ne, gR_pI, gJ_pI, gV_pI, gN_pI, gC_pI, gS_pI, gI_pJ, gR_pJ, gV_pJ, gN_pJ, gJ_same, gJ_ne, gI_pR, gJ_pR, gV_pR, gN_pR, gR_same, gR_ne, zin_t, zin_f, x_ltt, x_ltf, x_let, x_lef, x_eqt, x_eqf, n_0, n_1, n_2, n_3, n_4, n_5, n_6, n_7, n_8, n_9, n_10, n_11, n_12, n_16, n_19, n_20, n_24, n_25, n_32, n_40, n_48, n_50, n_60, n_64, n_80, n_96, n_114, n_684, n_1000, n_9330, n_16806, n_1000000, n_5764800, ↓n_m, m_ltI, m_leI, m_lt', m_le', m_eq, m_eq', m_add, m_sub, mm_lt, mm_le, mm_eq, q_sub, nI_add, q_mul, nI_clamp, bz_0, bz_1, q_bzb, b_0, b_1, b_ft, b_tf, ne_eq, not_true_eq_false, not_false_eq_true, decide_true, decide_false, Bool.and_self, Bool.false_and, Bool.and_false, Bool.and_true, Bool.true_and, Bool.not_true, Bool.not_false, ↓reduceIte]) (by simp (disch := first | omega | rfl | assumption) only [bX11_stem_0, bX11_stem_5, bX11_stem_12, bX11_stem_19, bX11_stem_25, bX11_stem_26, bX11_stem_47, bX11_stem_59, bX11_stem_62, bX11_stem_67, bX11_stem_72, bX11_stem_78, rX11_stem, m_isTongue (h := (pI h 10090 0 9 (gI h 10090 0 9 + nI 1))) _ nl (by simp (disch := first | omega | rfl | assumption) only [a2, q_cl, q_ps, q_pn, bI_t, bI_f, gI_same, gI_ne, gR_pI, gJ_pI, gV_pI, gN_pI, gC_pI, gS_pI, gI_pJ, gR_pJ, gV_pJ, gN_pJ, gJ_same, gJ_ne, gI_pR, gJ_pR, gV_pR, gN_pR, gR_same, gR_ne, zin_t, zin_f, x_ltt, x_ltf, x_let, x_lef, x_eqt, x_eqf, n_0, n_1, n_2, n_3, n_4, n_5, n_6, n_7, n_8, n_9, n_10, n_11, n_12, n_16, n_19, n_20, n_24, n_25, n_32, n_40, n_48, n_50, n_60, n_64, n_80, n_96, n_114, n_684, n_1000, n_9330, n_16806, n_1000000, n_5764800, ↓n_m, m_ltI, m_leI, m_lt', m_le', m_eq, m_eq', m_add, m_sub, mm_lt, mm_le, mm_eq, q_sub, nI_add, q_mul, nI_clamp, bz_0, bz_1, q_bzb, b_0, b_1, b_ft, b_tf, ne_eq, not_true_eq_false, not_false_eq_true, decide_true, decide_false, Bool.and_self, Bool.false_and, Bool.and_false, Bool.and_true, Bool.true_and, Bool.not_true, Bool.not_false, ↓reduceIte]), g1, m_isWord, g2, hx2, m_finding, q_cl, q_ps, q_pn, bI_t, bI_f, gI_same, gI_ne, gR_pI, gJ_pI, gV_pI, gN_pI, gC_pI, gS_pI, gI_pJ, gR_pJ, gV_pJ, gN_pJ, gJ_same, gJ_ne, gI_pR, gJ_pR, gV_pR, gN_pR, gR_same, gR_ne, zin_t, zin_f, x_ltt, x_ltf, x_let, x_lef, x_eqt, x_eqf, n_0, n_1, n_2, n_3, n_4, n_5, n_6, n_7, n_8, n_9, n_10, n_11, n_12, n_16, n_19, n_20, n_24, n_25, n_32, n_40, n_48, n_50, n_60, n_64, n_80, n_96, n_114, n_684, n_1000, n_9330, n_16806, n_1000000, n_5764800, ↓n_m, m_ltI, m_leI, m_lt', m_le', m_eq, m_eq', m_add, m_sub, mm_lt, mm_le, mm_eq, q_sub, nI_add, q_mul, nI_clamp, bz_0, bz_1, q_bzb, b_0, b_1, b_ft, b_tf, ne_eq, not_true_eq_false, not_false_eq_true, decide_true, decide_false, Bool.and_self, Bool.false_and, Bool.and_false, Bool.and_true, Bool.true_and, Bool.not_true, Bool.not_false, ↓reduceIte])
      · obtain ⟨h1, e1, e2, e3⟩ := c_wantIn (d + 57) c (show t < 8 by omega) v
        have I1 := Inv_scr (frX_fr e3 fr8121_g) hG
        have c1 := I_c I1
        obtain ⟨h2, f1, f2, f3, f4, f5, f6, f7, f8⟩ := c_weigh (d + 53) I1 (want := fun u => if u = t then some v else none) (fun u _ w hw => by
          by_cases hu : u = t
          · simp only [hu, if_true] at hw; cases hw; exact hv
          · simp only [hu, if_false] at hw; cases hw) (fun u hu => e2 u (by omega))
        have c2 := I_c f2
        have hwg := wgd_of a3 f3 f4 f5
        have hnth : nthF (fun k => decide ((fun s => fitC G 0 (fun u => if u = t then some v else none) s (gnT G)) k = cntW (fun u => if u = t then some v else none) (gnT G))) 9330 0 l = nthF (fun s => decide (wrt G 0 t (stW s) = v)) 9330 0 l := by
          apply nthF_congr
          intro k _ _
          show decide (fitC G 0 (fun u => if u = t then some v else none) k (gnT G) = _) = _
          rw [fit_dec, moB_one]
          simp [ht]
        have ec := c_fitAt (d + 58) hwg hl
        rw [hnth] at ec
        cases hk : nthF (fun s => decide (wrt G 0 t (stW s) = v)) 9330 0 l with
        | none =>
          rw [hk] at ec
          have ec' : Rn (d + 59) 23 [z_R 9010 0, z_I (nI l)] h2 = some (some (z_I mI), h2) := ec
          have I3 := Inv_cf f2
          have mt3 := mT_of I3
          have a23 : gI (pI h2 10090 0 9 (gI h2 10090 0 9 + nI 1)) 49100 0 9 = nI (gnT G) := mt3.2.2.2.2.2.1
          obtain ⟨h3, k1, k2⟩ := m_stem_loop (d + 39) ht hv (nI l) 9330 0 l _ (by omega) hl mt3
          rw [hk, stN_0] at k1
          refine OK_fin (G := G) (h1 := h2) (h2 := h3) (-1000004) ?_ ?_ (Inv_scr (frX_fr k2 tW_g) I3)
          · simp (disch := first | omega | rfl | assumption) only [bX10_stem_0, bX10_stem_4, bX10_stem_11, bX10_stem_24, bX10_stem_30, bX10_stem_31, bX10_stem_41, bX10_stem_48, bX10_stem_56, bX10_stem_70, bX10_stem_73, bX10_stem_78, rX10_stem, c_rowOf, rowX_w hv, c_noTongue (h := h) _ nl c a1, g1, c.1 10090 2 rfl, e1, c1.1 10090 2 rfl, f1, c2.1 10090 2 rfl, ec', c_finding, q_cl, q_ps, q_pn, bI_t, bI_f, gI_same, gI_ne, gR_pI, gJ_pI, gV_pI, gN_pI, gC_pI, gS_pI, gI_pJ, gR_pJ, gV_pJ, gN_pJ, gJ_same, gJ_ne, gI_pR, gJ_pR, gV_pR, gN_pR, gR_same, gR_ne, zin_t, zin_f, x_ltt, x_ltf, x_let, x_lef, x_eqt, x_eqf, n_0, n_1, n_2, n_3, n_4, n_5, n_6, n_7, n_8, n_9, n_10, n_11, n_12, n_16, n_19, n_20, n_24, n_25, n_32, n_40, n_48, n_50, n_60, n_64, n_80, n_96, n_114, n_684, n_1000, n_9330, n_16806, n_1000000, n_5764800, ↓n_m, m_ltI, m_leI, m_lt', m_le', m_eq, m_eq', m_add, m_sub, mm_lt, mm_le, mm_eq, q_sub, nI_add, q_mul, nI_clamp, bz_0, bz_1, q_bzb, b_0, b_1, b_ft, b_tf, ne_eq, not_true_eq_false, not_false_eq_true, decide_true, decide_false, Bool.and_self, Bool.false_and, Bool.and_false, Bool.and_true, Bool.true_and, Bool.not_true, Bool.not_false, ↓reduceIte]
          · simp (disch := first | omega | rfl | assumption) only [bX11_stem_0, bX11_stem_5, bX11_stem_12, bX11_stem_19, bX11_stem_25, bX11_stem_26, bX11_stem_47, bX11_stem_59, bX11_stem_62, bX11_stem_67, bX11_stem_72, bX11_stem_78, rX11_stem, m_isTongue (h := pI h2 10090 0 9 (gI h2 10090 0 9 + nI 1)) _ nl a23, g1, m_isWord, g2, q_cl, q_ps, q_pn, bI_t, bI_f, gI_same, gI_ne, gR_pI, gJ_pI, gV_pI, gN_pI, gC_pI, gS_pI, gI_pJ, gR_pJ, gV_pJ, gN_pJ, gJ_same, gJ_ne, gI_pR, gJ_pR, gV_pR, gN_pR, gR_same, gR_ne, zin_t, zin_f, x_ltt, x_ltf, x_let, x_lef, x_eqt, x_eqf, n_0, n_1, n_2, n_3, n_4, n_5, n_6, n_7, n_8, n_9, n_10, n_11, n_12, n_16, n_19, n_20, n_24, n_25, n_32, n_40, n_48, n_50, n_60, n_64, n_80, n_96, n_114, n_684, n_1000, n_9330, n_16806, n_1000000, n_5764800, ↓n_m, m_ltI, m_leI, m_lt', m_le', m_eq, m_eq', m_add, m_sub, mm_lt, mm_le, mm_eq, q_sub, nI_add, q_mul, nI_clamp, bz_0, bz_1, q_bzb, b_0, b_1, b_ft, b_tf, ne_eq, not_true_eq_false, not_false_eq_true, decide_true, decide_false, Bool.and_self, Bool.false_and, Bool.and_false, Bool.and_true, Bool.true_and, Bool.not_true, Bool.not_false, ↓reduceIte]
            exact k1
        | some k =>
          rw [hk] at ec
          have hkl := nthF_lt _ _ _ _ hk
          have hkW : isW (stW k) := st_isW (by omega)
          have hkr := rowN_lt' hkW
          have ec' : Rn (d + 59) 23 [z_R 9010 0, z_I (nI l)] h2 = some (some (z_I (nI (rowN (stW k)))), h2) := ec
          have mt2 := mT_of f2
          have a22 : gI h2 49100 0 9 = nI (gnT G) := mt2.2.2.2.2.2.1
          obtain ⟨h3, k1, k2⟩ := m_stem_loop (d + 39) ht hv (nI l) 9330 0 l h2 (by omega) hl mt2
          rw [hk, stN_0] at k1
          refine ⟨nI (stN k), h2, h3, ?_, ?_, G, Inv_scr (frX_fr k2 tW_g) f2⟩
          · simp (disch := first | omega | rfl | assumption) only [bX10_stem_0, bX10_stem_4, bX10_stem_11, bX10_stem_24, bX10_stem_30, bX10_stem_31, bX10_stem_41, bX10_stem_48, bX10_stem_56, bX10_stem_70, bX10_stem_73, bX10_stem_78, rX10_stem, c_rowOf, rowX_w hv, c_noTongue (h := h) _ nl c a1, g1, c.1 10090 2 rfl, e1, c1.1 10090 2 rfl, f1, c2.1 10090 2 rfl, ec', c_numberOf _ hkW, q_cl, q_ps, q_pn, bI_t, bI_f, gI_same, gI_ne, gR_pI, gJ_pI, gV_pI, gN_pI, gC_pI, gS_pI, gI_pJ, gR_pJ, gV_pJ, gN_pJ, gJ_same, gJ_ne, gI_pR, gJ_pR, gV_pR, gN_pR, gR_same, gR_ne, zin_t, zin_f, x_ltt, x_ltf, x_let, x_lef, x_eqt, x_eqf, n_0, n_1, n_2, n_3, n_4, n_5, n_6, n_7, n_8, n_9, n_10, n_11, n_12, n_16, n_19, n_20, n_24, n_25, n_32, n_40, n_48, n_50, n_60, n_64, n_80, n_96, n_114, n_684, n_1000, n_9330, n_16806, n_1000000, n_5764800, ↓n_m, m_ltI, m_leI, m_lt', m_le', m_eq, m_eq', m_add, m_sub, mm_lt, mm_le, mm_eq, q_sub, nI_add, q_mul, nI_clamp, bz_0, bz_1, q_bzb, b_0, b_1, b_ft, b_tf, ne_eq, not_true_eq_false, not_false_eq_true, decide_true, decide_false, Bool.and_self, Bool.false_and, Bool.and_false, Bool.and_true, Bool.true_and, Bool.not_true, Bool.not_false, ↓reduceIte]
            rfl
          · simp (disch := first | omega | rfl | assumption) only [bX11_stem_0, bX11_stem_5, bX11_stem_12, bX11_stem_19, bX11_stem_25, bX11_stem_26, bX11_stem_47, bX11_stem_59, bX11_stem_62, bX11_stem_67, bX11_stem_72, bX11_stem_78, rX11_stem, m_isTongue (h := h2) _ nl a22, g1, m_isWord, g2, q_cl, q_ps, q_pn, bI_t, bI_f, gI_same, gI_ne, gR_pI, gJ_pI, gV_pI, gN_pI, gC_pI, gS_pI, gI_pJ, gR_pJ, gV_pJ, gN_pJ, gJ_same, gJ_ne, gI_pR, gJ_pR, gV_pR, gN_pR, gR_same, gR_ne, zin_t, zin_f, x_ltt, x_ltf, x_let, x_lef, x_eqt, x_eqf, n_0, n_1, n_2, n_3, n_4, n_5, n_6, n_7, n_8, n_9, n_10, n_11, n_12, n_16, n_19, n_20, n_24, n_25, n_32, n_40, n_48, n_50, n_60, n_64, n_80, n_96, n_114, n_684, n_1000, n_9330, n_16806, n_1000000, n_5764800, ↓n_m, m_ltI, m_leI, m_lt', m_le', m_eq, m_eq', m_add, m_sub, mm_lt, mm_le, mm_eq, q_sub, nI_add, q_mul, nI_clamp, bz_0, bz_1, q_bzb, b_0, b_1, b_ft, b_tf, ne_eq, not_true_eq_false, not_false_eq_true, decide_true, decide_false, Bool.and_self, Bool.false_and, Bool.and_false, Bool.and_true, Bool.true_and, Bool.not_true, Bool.not_false, ↓reduceIte]
            exact k1
