/-! ===== the class's search: two laws ===== -/
def qS (V n : Nat) (pf pt : Nat → List Nat) (s : Nat) : Bool := (fstS V n (fun p => runW V (sL s) (pf p)) pt).isSome
theorem cC_cp {h h' : z_H} {r V : Nat} {L : Lw} (e : ∀ k, gI h' 6000 r k = gI h 6000 r k) (m : cC h r V L) : cC h' r V L := by
  obtain ⟨d0, d1, d2, d3, d4, d5⟩ := m
  exact ⟨(e _).trans d0, (e _).trans d1, (e _).trans d2, (e _).trans d3, (e _).trans d4, (e _).trans d5⟩
theorem c_mid_loop (d : Nat) {V n f t p : Nat} {pf pt : Nat → List Nat} (hV : V < 64) (hf : 1 ≤ f ∧ f ≤ 6) (ht : t ≤ 6) (hp : p < 19) : ∀ (r i : Nat) (h : z_H), i + r = n → cPr h n pf pt → cC h 100 V (smL f t p) → (∀ j, j < i → gI h 6341 0 j = nI (rowN (runW V (smL f t p) (pf j)))) →
    ∃ h', EX (d + 3) 58 46 [z_R 8050 0, z_I (nI V), z_I (nI f), z_I (nI t), z_I (nI p), z_I (nI i)] [] h = EX (d + 3) 58 82 [z_R 8050 0, z_I (nI V), z_I (nI f), z_I (nI t), z_I (nI p), z_I (nI n)] [] h' ∧ (∀ j, j < n → gI h' 6341 0 j = nI (rowN (runW V (smL f t p) (pf j)))) ∧ fr pPr h h' := by
  intro r
  induction r with
  | zero =>
    intro i h hi m hC hj
    obtain ⟨a1, a2, a3, a4⟩ := m
    have : i = n := by omega
    subst this
    refine ⟨h, ?_, hj, fr_rfl _ _⟩
    rw [bX5_opens_46]
    simp (disch := first | omega | rfl | assumption) only [a3, q_cl, q_ps, q_pn, bI_t, bI_f, gI_same, gI_ne, gR_pI, gJ_pI, gV_pI, gN_pI, gC_pI, gS_pI, gI_pJ, gR_pJ, gV_pJ, gN_pJ, gJ_same, gJ_ne, gI_pR, gJ_pR, gV_pR, gN_pR, gR_same, gR_ne, zin_t, zin_f, x_ltt, x_ltf, x_let, x_lef, x_eqt, x_eqf, n_0, n_1, n_2, n_3, n_4, n_5, n_6, n_7, n_8, n_9, n_10, n_11, n_12, n_16, n_19, n_20, n_24, n_25, n_32, n_40, n_48, n_50, n_60, n_64, n_80, n_96, n_114, n_684, n_1000, n_9330, n_16806, n_1000000, n_5764800, ↓n_m, m_ltI, m_leI, m_lt', m_le', m_eq, m_eq', m_add, m_sub, mm_lt, mm_le, mm_eq, q_sub, nI_add, q_mul, nI_clamp, bz_0, bz_1, q_bzb, b_0, b_1, b_ft, b_tf, ne_eq, not_true_eq_false, not_false_eq_true, decide_true, decide_false, Bool.and_self, Bool.false_and, Bool.and_false, Bool.and_true, Bool.true_and, Bool.not_true, Bool.not_false, ↓reduceIte]
  | succ r ih =>
    intro i h hi m hC hj
    have m' := m
    obtain ⟨a1, a2, a3, a4⟩ := m
    obtain ⟨w1, w2, w3, w4⟩ := a4 i (by omega)
    have e1 := c_over d hV (smL_ok hf ht hp) hC w1
    have f0 : fr pPr h (pI h 6341 0 i (nI (rowN (runW V (smL f t p) (pf i))))) := fr_pI h _ (Or.inr (Or.inr rfl))
    obtain ⟨h', q1, q2, q3⟩ := ih (i + 1) _ (by omega) (cPr_fr f0 m') (cC_cp (fun k => by simp (disch := first | omega | rfl | assumption) only [q_cl, q_ps, q_pn, bI_t, bI_f, gI_same, gI_ne, gR_pI, gJ_pI, gV_pI, gN_pI, gC_pI, gS_pI, gI_pJ, gR_pJ, gV_pJ, gN_pJ, gJ_same, gJ_ne, gI_pR, gJ_pR, gV_pR, gN_pR, gR_same, gR_ne, zin_t, zin_f, x_ltt, x_ltf, x_let, x_lef, x_eqt, x_eqf, n_0, n_1, n_2, n_3, n_4, n_5, n_6, n_7, n_8, n_9, n_10, n_11, n_12, n_16, n_19, n_20, n_24, n_25, n_32, n_40, n_48, n_50, n_60, n_64, n_80, n_96, n_114, n_684, n_1000, n_9330, n_16806, n_1000000, n_5764800, ↓n_m, m_ltI, m_leI, m_lt', m_le', m_eq, m_eq', m_add, m_sub, mm_lt, mm_le, mm_eq, q_sub, nI_add, q_mul, nI_clamp, bz_0, bz_1, q_bzb, b_0, b_1, b_ft, b_tf, ne_eq, not_true_eq_false, not_false_eq_true, decide_true, decide_false, Bool.and_self, Bool.false_and, Bool.and_false, Bool.and_true, Bool.true_and, Bool.not_true, Bool.not_false, ↓reduceIte]) hC) (fun j hj' => by
      by_cases e : j = i
      · subst e; simp (disch := first | omega | rfl | assumption) only [q_cl, q_ps, q_pn, bI_t, bI_f, gI_same, gI_ne, gR_pI, gJ_pI, gV_pI, gN_pI, gC_pI, gS_pI, gI_pJ, gR_pJ, gV_pJ, gN_pJ, gJ_same, gJ_ne, gI_pR, gJ_pR, gV_pR, gN_pR, gR_same, gR_ne, zin_t, zin_f, x_ltt, x_ltf, x_let, x_lef, x_eqt, x_eqf, n_0, n_1, n_2, n_3, n_4, n_5, n_6, n_7, n_8, n_9, n_10, n_11, n_12, n_16, n_19, n_20, n_24, n_25, n_32, n_40, n_48, n_50, n_60, n_64, n_80, n_96, n_114, n_684, n_1000, n_9330, n_16806, n_1000000, n_5764800, ↓n_m, m_ltI, m_leI, m_lt', m_le', m_eq, m_eq', m_add, m_sub, mm_lt, mm_le, mm_eq, q_sub, nI_add, q_mul, nI_clamp, bz_0, bz_1, q_bzb, b_0, b_1, b_ft, b_tf, ne_eq, not_true_eq_false, not_false_eq_true, decide_true, decide_false, Bool.and_self, Bool.false_and, Bool.and_false, Bool.and_true, Bool.true_and, Bool.not_true, Bool.not_false, ↓reduceIte]
      · simp (disch := first | omega | rfl | assumption) only [hj j (by omega), q_cl, q_ps, q_pn, bI_t, bI_f, gI_same, gI_ne, gR_pI, gJ_pI, gV_pI, gN_pI, gC_pI, gS_pI, gI_pJ, gR_pJ, gV_pJ, gN_pJ, gJ_same, gJ_ne, gI_pR, gJ_pR, gV_pR, gN_pR, gR_same, gR_ne, zin_t, zin_f, x_ltt, x_ltf, x_let, x_lef, x_eqt, x_eqf, n_0, n_1, n_2, n_3, n_4, n_5, n_6, n_7, n_8, n_9, n_10, n_11, n_12, n_16, n_19, n_20, n_24, n_25, n_32, n_40, n_48, n_50, n_60, n_64, n_80, n_96, n_114, n_684, n_1000, n_9330, n_16806, n_1000000, n_5764800, ↓n_m, m_ltI, m_leI, m_lt', m_le', m_eq, m_eq', m_add, m_sub, mm_lt, mm_le, mm_eq, q_sub, nI_add, q_mul, nI_clamp, bz_0, bz_1, q_bzb, b_0, b_1, b_ft, b_tf, ne_eq, not_true_eq_false, not_false_eq_true, decide_true, decide_false, Bool.and_self, Bool.false_and, Bool.and_false, Bool.and_true, Bool.true_and, Bool.not_true, Bool.not_false, ↓reduceIte])
    refine ⟨h', ?_, q2, fr_trans f0 q3⟩
    rw [bX5_opens_46]
    simp (disch := first | omega | rfl | assumption) only [a3, a1.1 8050 6 rfl, a1.2.1, a1.1 8050 4 rfl, w3, e1, bX5_opens_75, q_cl, q_ps, q_pn, bI_t, bI_f, gI_same, gI_ne, gR_pI, gJ_pI, gV_pI, gN_pI, gC_pI, gS_pI, gI_pJ, gR_pJ, gV_pJ, gN_pJ, gJ_same, gJ_ne, gI_pR, gJ_pR, gV_pR, gN_pR, gR_same, gR_ne, zin_t, zin_f, x_ltt, x_ltf, x_let, x_lef, x_eqt, x_eqf, n_0, n_1, n_2, n_3, n_4, n_5, n_6, n_7, n_8, n_9, n_10, n_11, n_12, n_16, n_19, n_20, n_24, n_25, n_32, n_40, n_48, n_50, n_60, n_64, n_80, n_96, n_114, n_684, n_1000, n_9330, n_16806, n_1000000, n_5764800, ↓n_m, m_ltI, m_leI, m_lt', m_le', m_eq, m_eq', m_add, m_sub, mm_lt, mm_le, mm_eq, q_sub, nI_add, q_mul, nI_clamp, bz_0, bz_1, q_bzb, b_0, b_1, b_ft, b_tf, ne_eq, not_true_eq_false, not_false_eq_true, decide_true, decide_false, Bool.and_self, Bool.false_and, Bool.and_false, Bool.and_true, Bool.true_and, Bool.not_true, Bool.not_false, ↓reduceIte]
    exact q1
theorem pcl_pPr {sl : Nat} : ∀ q i k, (pC 100 q i k ∨ pKp sl q i k) → pPr q i k := by
  rintro q i k (z | z)
  · exact Or.inl z
  · exact Or.inr (Or.inl z.1)
theorem c_try (d : Nat) {V n f t p : Nat} {pf pt : Nat → List Nat} (hV : V < 64) (hf : 1 ≤ f ∧ f ≤ 6) (ht : t ≤ 6) (hft : t ≠ f) (hp : p < 19) {h : z_H} (m : cPr h n pf pt) (hno : fstS V n pf pt = none) (u5 : z_V) :
    ∃ h', fr pPr h h' ∧ ((qS V n pf pt (sN f t p) = true ∧ ans h' 0 (sN f t p) ∧ (∀ s2, fstS V n (fun i => runW V (sL (sN f t p)) (pf i)) pt = some s2 → ans h' 1 s2) ∧ EX (d + 5) 58 19 [z_R 8050 0, z_I (nI V), z_I (nI f), z_I (nI t), z_I (nI p), u5] [] h = some (some (z_I (nI 1)), h')) ∨
      (qS V n pf pt (sN f t p) = false ∧ EX (d + 5) 58 19 [z_R 8050 0, z_I (nI V), z_I (nI f), z_I (nI t), z_I (nI p), u5] [] h = EX (d + 5) 58 19 [z_R 8050 0, z_I (nI V), z_I (nI f), z_I (nI t), z_I (nI (p + 1)), z_I (nI n)] [] h')) := by
  obtain ⟨h1, p1, p2, p3⟩ := c_setSimple (d + 3) hV hf ht hp 100 h
  have f1 := fr_mono p3 pC_pPr
  have m1 := cPr_fr f1 m
  obtain ⟨h2, q1, q2, q3⟩ := c_mid_loop (d + 2) hV hf ht hp n 0 h1 (by omega) m1 p2 (fun j hj => by omega)
  have m2 := cPr_fr q3 m1
  obtain ⟨a1, a2, a3, a4⟩ := m2
  have es := sL_sN hf ht hft hp
  obtain ⟨s1, -, -, -⟩ := sN_ok hf ht hft hp
  have hns : same n (fun i => runW V (sL (sN f t p)) (pf i)) pt = false := by
    cases hx : same n (fun i => runW V (sL (sN f t p)) (pf i)) pt with
    | false => rfl
    | true =>
      have z := fnd_none.mp hno _ s1
      have z2 : mkAll V n (sN f t p) pf pt = true := by
        rw [mkAll_eq, mkS_iff]
        intro i hi
        exact same_iff.mp hx i hi
      rw [z2] at z
      cases z
  obtain ⟨h3, k1, k2, k3⟩ := c_closes_b d (sl := 1) (ws := fun i => runW V (sL (sN f t p)) (pf i)) hV (by decide) a1 a2 a3 (fun i hi => ⟨by rw [es]; exact runW_ok (smL_ok hf ht hp).1 (a4 i hi).1, by rw [es]; exact q2 i hi⟩) (fun i hi => ⟨(a4 i hi).2.1, (a4 i hi).2.2.2⟩) hns
  have f3 := fr_mono k1 pcl_pPr
  have ck3 := fr_cOK k1 a1
  have q1' : EX (d + 5) 58 46 [z_R 8050 0, z_I (nI V), z_I (nI f), z_I (nI t), z_I (nI p), z_I (nI 0)] [] h1 = EX (d + 5) 58 82 [z_R 8050 0, z_I (nI V), z_I (nI f), z_I (nI t), z_I (nI p), z_I (nI n)] [] h2 := q1
  have step : EX (d + 5) 58 19 [z_R 8050 0, z_I (nI V), z_I (nI f), z_I (nI t), z_I (nI p), u5] [] h = EX (d + 5) 58 92 [z_R 8050 0, z_I (nI V), z_I (nI f), z_I (nI t), z_I (nI p), z_I (nI n)] [z_I (bI (qS V n pf pt (sN f t p)))] h3 := by
    have k2' : Rn (d + 5) 59 [z_R 8050 0, z_R 6341 0, z_I (nI 1), z_I (nI V)] h2 = some (some (z_I (bI (qS V n pf pt (sN f t p)))), h3) := k2
    rw [bX5_opens_19]
    simp (disch := first | omega | rfl | assumption) only [m.1.2.1, p1, bX5_opens_43, q_cl, q_ps, q_pn, bI_t, bI_f, gI_same, gI_ne, gR_pI, gJ_pI, gV_pI, gN_pI, gC_pI, gS_pI, gI_pJ, gR_pJ, gV_pJ, gN_pJ, gJ_same, gJ_ne, gI_pR, gJ_pR, gV_pR, gN_pR, gR_same, gR_ne, zin_t, zin_f, x_ltt, x_ltf, x_let, x_lef, x_eqt, x_eqf, n_0, n_1, n_2, n_3, n_4, n_5, n_6, n_7, n_8, n_9, n_10, n_11, n_12, n_16, n_19, n_20, n_24, n_25, n_32, n_40, n_48, n_50, n_60, n_64, n_80, n_96, n_114, n_684, n_1000, n_9330, n_16806, n_1000000, n_5764800, ↓n_m, m_ltI, m_leI, m_lt', m_le', m_eq, m_eq', m_add, m_sub, mm_lt, mm_le, mm_eq, q_sub, nI_add, q_mul, nI_clamp, bz_0, bz_1, q_bzb, b_0, b_1, b_ft, b_tf, ne_eq, not_true_eq_false, not_false_eq_true, decide_true, decide_false, Bool.and_self, Bool.false_and, Bool.and_false, Bool.and_true, Bool.true_and, Bool.not_true, Bool.not_false, ↓reduceIte]
    rw [q1', bX5_opens_82]
    simp (disch := first | omega | rfl | assumption) only [a1.1 8050 6 rfl, k2', q_cl, q_ps, q_pn, bI_t, bI_f, gI_same, gI_ne, gR_pI, gJ_pI, gV_pI, gN_pI, gC_pI, gS_pI, gI_pJ, gR_pJ, gV_pJ, gN_pJ, gJ_same, gJ_ne, gI_pR, gJ_pR, gV_pR, gN_pR, gR_same, gR_ne, zin_t, zin_f, x_ltt, x_ltf, x_let, x_lef, x_eqt, x_eqf, n_0, n_1, n_2, n_3, n_4, n_5, n_6, n_7, n_8, n_9, n_10, n_11, n_12, n_16, n_19, n_20, n_24, n_25, n_32, n_40, n_48, n_50, n_60, n_64, n_80, n_96, n_114, n_684, n_1000, n_9330, n_16806, n_1000000, n_5764800, ↓n_m, m_ltI, m_leI, m_lt', m_le', m_eq, m_eq', m_add, m_sub, mm_lt, mm_le, mm_eq, q_sub, nI_add, q_mul, nI_clamp, bz_0, bz_1, q_bzb, b_0, b_1, b_ft, b_tf, ne_eq, not_true_eq_false, not_false_eq_true, decide_true, decide_false, Bool.and_self, Bool.false_and, Bool.and_false, Bool.and_true, Bool.true_and, Bool.not_true, Bool.not_false, ↓reduceIte]
  cases hq : qS V n pf pt (sN f t p) with
  | true =>
    obtain ⟨h4, r1, r2, r3⟩ := c_keep (d + 4) ck3 (i := 0) (by decide) hf ht hft hp
    refine ⟨h4, fr_trans f1 (fr_trans q3 (fr_trans f3 (fr_mono r3 (fun q i k z => Or.inr (Or.inl z.1))))), Or.inl ⟨rfl, r2, fun s2 hs2 => ?_, ?_⟩⟩
    · obtain ⟨b1, b2, b3, b4⟩ := k3 s2 hs2
      have kk : ∀ k, 3 ≤ k → gI h4 6311 0 k = gI h3 6311 0 k := fun k hk => r3.2 _ _ _ (fun z => by have := z.2; omega)
      exact ⟨b1, (kk _ (by omega)).trans b2, (kk _ (by omega)).trans b3, (kk _ (by omega)).trans b4⟩
    · rw [step, hq, bX5_opens_92]
      simp (disch := first | omega | rfl | assumption) only [r1, bX5_opens_104, q_cl, q_ps, q_pn, bI_t, bI_f, gI_same, gI_ne, gR_pI, gJ_pI, gV_pI, gN_pI, gC_pI, gS_pI, gI_pJ, gR_pJ, gV_pJ, gN_pJ, gJ_same, gJ_ne, gI_pR, gJ_pR, gV_pR, gN_pR, gR_same, gR_ne, zin_t, zin_f, x_ltt, x_ltf, x_let, x_lef, x_eqt, x_eqf, n_0, n_1, n_2, n_3, n_4, n_5, n_6, n_7, n_8, n_9, n_10, n_11, n_12, n_16, n_19, n_20, n_24, n_25, n_32, n_40, n_48, n_50, n_60, n_64, n_80, n_96, n_114, n_684, n_1000, n_9330, n_16806, n_1000000, n_5764800, ↓n_m, m_ltI, m_leI, m_lt', m_le', m_eq, m_eq', m_add, m_sub, mm_lt, mm_le, mm_eq, q_sub, nI_add, q_mul, nI_clamp, bz_0, bz_1, q_bzb, b_0, b_1, b_ft, b_tf, ne_eq, not_true_eq_false, not_false_eq_true, decide_true, decide_false, Bool.and_self, Bool.false_and, Bool.and_false, Bool.and_true, Bool.true_and, Bool.not_true, Bool.not_false, ↓reduceIte]
  | false =>
    refine ⟨h3, fr_trans f1 (fr_trans q3 f3), Or.inr ⟨rfl, ?_⟩⟩
    rw [step, hq, bX5_opens_92]
    simp (disch := first | omega | rfl | assumption) only [bX5_opens_106, q_cl, q_ps, q_pn, bI_t, bI_f, gI_same, gI_ne, gR_pI, gJ_pI, gV_pI, gN_pI, gC_pI, gS_pI, gI_pJ, gR_pJ, gV_pJ, gN_pJ, gJ_same, gJ_ne, gI_pR, gJ_pR, gV_pR, gN_pR, gR_same, gR_ne, zin_t, zin_f, x_ltt, x_ltf, x_let, x_lef, x_eqt, x_eqf, n_0, n_1, n_2, n_3, n_4, n_5, n_6, n_7, n_8, n_9, n_10, n_11, n_12, n_16, n_19, n_20, n_24, n_25, n_32, n_40, n_48, n_50, n_60, n_64, n_80, n_96, n_114, n_684, n_1000, n_9330, n_16806, n_1000000, n_5764800, ↓n_m, m_ltI, m_leI, m_lt', m_le', m_eq, m_eq', m_add, m_sub, mm_lt, mm_le, mm_eq, q_sub, nI_add, q_mul, nI_clamp, bz_0, bz_1, q_bzb, b_0, b_1, b_ft, b_tf, ne_eq, not_true_eq_false, not_false_eq_true, decide_true, decide_false, Bool.and_self, Bool.false_and, Bool.and_false, Bool.and_true, Bool.true_and, Bool.not_true, Bool.not_false, ↓reduceIte]
/-- two laws are found -/
def fndO (V n : Nat) (pf pt : Nat → List Nat) (h : z_H) : Prop := ∃ s, s < 684 ∧ qS V n pf pt s = true ∧ (∀ j, j < s → qS V n pf pt j = false) ∧ ans h 0 s ∧ ∀ s2, fstS V n (fun i => runW V (sL s) (pf i)) pt = some s2 → ans h 1 s2
theorem c_op_p (d : Nat) {V n f t : Nat} {pf pt : Nat → List Nat} (hV : V < 64) (hf : 1 ≤ f ∧ f ≤ 6) (ht : t ≤ 6) (hft : t ≠ f) (hno : fstS V n pf pt = none) : ∀ (r p : Nat) (u5 : z_V) (h : z_H), p + r = 19 → cPr h n pf pt → (∀ s, s < sN f t 0 + p → qS V n pf pt s = false) →
    ∃ h', fr pPr h h' ∧ ((fndO V n pf pt h' ∧ EX (d + 5) 58 19 [z_R 8050 0, z_I (nI V), z_I (nI f), z_I (nI t), z_I (nI p), u5] [] h = some (some (z_I (nI 1)), h')) ∨
      ((∀ s, s < sN f t 0 + 19 → qS V n pf pt s = false) ∧ ∃ v5, EX (d + 5) 58 19 [z_R 8050 0, z_I (nI V), z_I (nI f), z_I (nI t), z_I (nI p), u5] [] h = EX (d + 5) 58 112 [z_R 8050 0, z_I (nI V), z_I (nI f), z_I (nI t), z_I (nI 19), v5] [] h')) := by
  intro r
  induction r with
  | zero =>
    intro p u5 h hp m hb
    have : p = 19 := by omega
    subst this
    refine ⟨h, fr_rfl _ _, Or.inr ⟨hb, u5, ?_⟩⟩
    rw [bX5_opens_19]
    simp (disch := first | omega | rfl | assumption) only [q_cl, q_ps, q_pn, bI_t, bI_f, gI_same, gI_ne, gR_pI, gJ_pI, gV_pI, gN_pI, gC_pI, gS_pI, gI_pJ, gR_pJ, gV_pJ, gN_pJ, gJ_same, gJ_ne, gI_pR, gJ_pR, gV_pR, gN_pR, gR_same, gR_ne, zin_t, zin_f, x_ltt, x_ltf, x_let, x_lef, x_eqt, x_eqf, n_0, n_1, n_2, n_3, n_4, n_5, n_6, n_7, n_8, n_9, n_10, n_11, n_12, n_16, n_19, n_20, n_24, n_25, n_32, n_40, n_48, n_50, n_60, n_64, n_80, n_96, n_114, n_684, n_1000, n_9330, n_16806, n_1000000, n_5764800, ↓n_m, m_ltI, m_leI, m_lt', m_le', m_eq, m_eq', m_add, m_sub, mm_lt, mm_le, mm_eq, q_sub, nI_add, q_mul, nI_clamp, bz_0, bz_1, q_bzb, b_0, b_1, b_ft, b_tf, ne_eq, not_true_eq_false, not_false_eq_true, decide_true, decide_false, Bool.and_self, Bool.false_and, Bool.and_false, Bool.and_true, Bool.true_and, Bool.not_true, Bool.not_false, ↓reduceIte]
  | succ r ih =>
    intro p u5 h hp m hb
    have e0 : sN f t p = sN f t 0 + p := by unfold sN; omega
    obtain ⟨s1, -, -, -⟩ := sN_ok hf ht hft (show p < 19 by omega)
    obtain ⟨h1, f1, g⟩ := c_try d hV hf ht hft (show p < 19 by omega) m hno u5
    rcases g with ⟨g1, g2, g3, g4⟩ | ⟨g1, g2⟩
    · exact ⟨h1, f1, Or.inl ⟨⟨sN f t p, s1, g1, fun j hj => hb j (by omega), g2, g3⟩, g4⟩⟩
    · obtain ⟨h', f2, g3⟩ := ih (p + 1) (z_I (nI n)) h1 (by omega) (cPr_fr f1 m) (fun s hs => by
        by_cases z : s = sN f t p
        · rw [z]; exact g1
        · exact hb s (by omega))
      refine ⟨h', fr_trans f1 f2, ?_⟩
      rw [g2]
      exact g3
def lbN (f t : Nat) : Nat := 114 * (f - 1) + 19 * (if t ≤ f then t else t - 1)
theorem c_op_t (d : Nat) {V n f : Nat} {pf pt : Nat → List Nat} (hV : V < 64) (hf : 1 ≤ f ∧ f ≤ 6) (hno : fstS V n pf pt = none) : ∀ (r t : Nat) (u4 u5 : z_V) (h : z_H), t + r = 7 → cPr h n pf pt → (∀ s, s < lbN f t → qS V n pf pt s = false) →
    ∃ h', fr pPr h h' ∧ ((fndO V n pf pt h' ∧ EX (d + 5) 58 10 [z_R 8050 0, z_I (nI V), z_I (nI f), z_I (nI t), u4, u5] [] h = some (some (z_I (nI 1)), h')) ∨
      ((∀ s, s < 114 * f → qS V n pf pt s = false) ∧ ∃ v4 v5, EX (d + 5) 58 10 [z_R 8050 0, z_I (nI V), z_I (nI f), z_I (nI t), u4, u5] [] h = EX (d + 5) 58 118 [z_R 8050 0, z_I (nI V), z_I (nI f), z_I (nI 7), v4, v5] [] h')) := by
  intro r
  induction r with
  | zero =>
    intro t u4 u5 h ht m hb
    have : t = 7 := by omega
    subst this
    refine ⟨h, fr_rfl _ _, Or.inr ⟨fun s hs => hb s ?_, u4, u5, ?_⟩⟩
    · unfold lbN
      rw [if_neg (by omega)]
      omega
    · rw [bX5_opens_10]
      simp (disch := first | omega | rfl | assumption) only [q_cl, q_ps, q_pn, bI_t, bI_f, gI_same, gI_ne, gR_pI, gJ_pI, gV_pI, gN_pI, gC_pI, gS_pI, gI_pJ, gR_pJ, gV_pJ, gN_pJ, gJ_same, gJ_ne, gI_pR, gJ_pR, gV_pR, gN_pR, gR_same, gR_ne, zin_t, zin_f, x_ltt, x_ltf, x_let, x_lef, x_eqt, x_eqf, n_0, n_1, n_2, n_3, n_4, n_5, n_6, n_7, n_8, n_9, n_10, n_11, n_12, n_16, n_19, n_20, n_24, n_25, n_32, n_40, n_48, n_50, n_60, n_64, n_80, n_96, n_114, n_684, n_1000, n_9330, n_16806, n_1000000, n_5764800, ↓n_m, m_ltI, m_leI, m_lt', m_le', m_eq, m_eq', m_add, m_sub, mm_lt, mm_le, mm_eq, q_sub, nI_add, q_mul, nI_clamp, bz_0, bz_1, q_bzb, b_0, b_1, b_ft, b_tf, ne_eq, not_true_eq_false, not_false_eq_true, decide_true, decide_false, Bool.and_self, Bool.false_and, Bool.and_false, Bool.and_true, Bool.true_and, Bool.not_true, Bool.not_false, ↓reduceIte]
  | succ r ih =>
    intro t u4 u5 h ht m hb
    by_cases hft : t = f
    · obtain ⟨h', f2, g3⟩ := ih (t + 1) (z_I (nI 0)) u5 h (by omega) m (fun s hs => hb s (by
        unfold lbN at hs ⊢
        rw [if_neg (by omega)] at hs
        rw [if_pos (by omega)]
        omega))
      refine ⟨h', f2, ?_⟩
      have step : EX (d + 5) 58 10 [z_R 8050 0, z_I (nI V), z_I (nI f), z_I (nI t), u4, u5] [] h = EX (d + 5) 58 10 [z_R 8050 0, z_I (nI V), z_I (nI f), z_I (nI (t + 1)), z_I (nI 0), u5] [] h := by
        rw [bX5_opens_10]
        simp (disch := first | omega | rfl | assumption) only [bX5_opens_19, bX5_opens_112, q_cl, q_ps, q_pn, bI_t, bI_f, gI_same, gI_ne, gR_pI, gJ_pI, gV_pI, gN_pI, gC_pI, gS_pI, gI_pJ, gR_pJ, gV_pJ, gN_pJ, gJ_same, gJ_ne, gI_pR, gJ_pR, gV_pR, gN_pR, gR_same, gR_ne, zin_t, zin_f, x_ltt, x_ltf, x_let, x_lef, x_eqt, x_eqf, n_0, n_1, n_2, n_3, n_4, n_5, n_6, n_7, n_8, n_9, n_10, n_11, n_12, n_16, n_19, n_20, n_24, n_25, n_32, n_40, n_48, n_50, n_60, n_64, n_80, n_96, n_114, n_684, n_1000, n_9330, n_16806, n_1000000, n_5764800, ↓n_m, m_ltI, m_leI, m_lt', m_le', m_eq, m_eq', m_add, m_sub, mm_lt, mm_le, mm_eq, q_sub, nI_add, q_mul, nI_clamp, bz_0, bz_1, q_bzb, b_0, b_1, b_ft, b_tf, ne_eq, not_true_eq_false, not_false_eq_true, decide_true, decide_false, Bool.and_self, Bool.false_and, Bool.and_false, Bool.and_true, Bool.true_and, Bool.not_true, Bool.not_false, ↓reduceIte]
      rw [step]
      exact g3
    · have e0 : sN f t 0 = lbN f t := by
        unfold sN lbN
        by_cases z : t < f
        · rw [if_pos z, if_pos (by omega)]
          omega
        · rw [if_neg z, if_neg (by omega)]
          omega
      have e1 : lbN f (t + 1) = sN f t 0 + 19 := by
        rw [e0]
        unfold lbN
        by_cases z : t < f
        · rw [if_pos (show t + 1 ≤ f by omega), if_pos (show t ≤ f by omega)]
          omega
        · rw [if_neg (show ¬ t + 1 ≤ f by omega), if_neg (show ¬ t ≤ f by omega)]
          omega
      have step : EX (d + 5) 58 10 [z_R 8050 0, z_I (nI V), z_I (nI f), z_I (nI t), u4, u5] [] h = EX (d + 5) 58 19 [z_R 8050 0, z_I (nI V), z_I (nI f), z_I (nI t), z_I (nI 0), u5] [] h := by
        rw [bX5_opens_10]
        simp (disch := first | omega | rfl | assumption) only [q_cl, q_ps, q_pn, bI_t, bI_f, gI_same, gI_ne, gR_pI, gJ_pI, gV_pI, gN_pI, gC_pI, gS_pI, gI_pJ, gR_pJ, gV_pJ, gN_pJ, gJ_same, gJ_ne, gI_pR, gJ_pR, gV_pR, gN_pR, gR_same, gR_ne, zin_t, zin_f, x_ltt, x_ltf, x_let, x_lef, x_eqt, x_eqf, n_0, n_1, n_2, n_3, n_4, n_5, n_6, n_7, n_8, n_9, n_10, n_11, n_12, n_16, n_19, n_20, n_24, n_25, n_32, n_40, n_48, n_50, n_60, n_64, n_80, n_96, n_114, n_684, n_1000, n_9330, n_16806, n_1000000, n_5764800, ↓n_m, m_ltI, m_leI, m_lt', m_le', m_eq, m_eq', m_add, m_sub, mm_lt, mm_le, mm_eq, q_sub, nI_add, q_mul, nI_clamp, bz_0, bz_1, q_bzb, b_0, b_1, b_ft, b_tf, ne_eq, not_true_eq_false, not_false_eq_true, decide_true, decide_false, Bool.and_self, Bool.false_and, Bool.and_false, Bool.and_true, Bool.true_and, Bool.not_true, Bool.not_false, ↓reduceIte]
      obtain ⟨h1, f1, g⟩ := c_op_p d hV hf (show t ≤ 6 by omega) hft hno 19 0 u5 h (by omega) m (fun s hs => hb s (by omega))
      rw [step]
      rcases g with ⟨g1, g2⟩ | ⟨g1, v5, g2⟩
      · exact ⟨h1, f1, Or.inl ⟨g1, g2⟩⟩
      · obtain ⟨h', f2, g3⟩ := ih (t + 1) (z_I (nI 19)) v5 h1 (by omega) (cPr_fr f1 m) (fun s hs => g1 s (by omega))
        refine ⟨h', fr_trans f1 f2, ?_⟩
        rw [g2, bX5_opens_112]
        simp (disch := first | omega | rfl | assumption) only [q_cl, q_ps, q_pn, bI_t, bI_f, gI_same, gI_ne, gR_pI, gJ_pI, gV_pI, gN_pI, gC_pI, gS_pI, gI_pJ, gR_pJ, gV_pJ, gN_pJ, gJ_same, gJ_ne, gI_pR, gJ_pR, gV_pR, gN_pR, gR_same, gR_ne, zin_t, zin_f, x_ltt, x_ltf, x_let, x_lef, x_eqt, x_eqf, n_0, n_1, n_2, n_3, n_4, n_5, n_6, n_7, n_8, n_9, n_10, n_11, n_12, n_16, n_19, n_20, n_24, n_25, n_32, n_40, n_48, n_50, n_60, n_64, n_80, n_96, n_114, n_684, n_1000, n_9330, n_16806, n_1000000, n_5764800, ↓n_m, m_ltI, m_leI, m_lt', m_le', m_eq, m_eq', m_add, m_sub, mm_lt, mm_le, mm_eq, q_sub, nI_add, q_mul, nI_clamp, bz_0, bz_1, q_bzb, b_0, b_1, b_ft, b_tf, ne_eq, not_true_eq_false, not_false_eq_true, decide_true, decide_false, Bool.and_self, Bool.false_and, Bool.and_false, Bool.and_true, Bool.true_and, Bool.not_true, Bool.not_false, ↓reduceIte]
        exact g3
theorem c_op_f (d : Nat) {V n : Nat} {pf pt : Nat → List Nat} (hV : V < 64) (hno : fstS V n pf pt = none) : ∀ (r f : Nat) (u3 u4 u5 : z_V) (h : z_H), f + r = 7 → 1 ≤ f → cPr h n pf pt → (∀ s, s < 114 * (f - 1) → qS V n pf pt s = false) →
    ∃ h', fr pPr h h' ∧ ((fndO V n pf pt h' ∧ EX (d + 5) 58 2 [z_R 8050 0, z_I (nI V), z_I (nI f), u3, u4, u5] [] h = some (some (z_I (nI 1)), h')) ∨
      ((∀ s, s < 684 → qS V n pf pt s = false) ∧ EX (d + 5) 58 2 [z_R 8050 0, z_I (nI V), z_I (nI f), u3, u4, u5] [] h = some (some (z_I (nI 0)), h'))) := by
  intro r
  induction r with
  | zero =>
    intro f u3 u4 u5 h hf h1 m hb
    have : f = 7 := by omega
    subst this
    refine ⟨h, fr_rfl _ _, Or.inr ⟨hb, ?_⟩⟩
    rw [bX5_opens_2]
    simp (disch := first | omega | rfl | assumption) only [bX5_opens_124, q_cl, q_ps, q_pn, bI_t, bI_f, gI_same, gI_ne, gR_pI, gJ_pI, gV_pI, gN_pI, gC_pI, gS_pI, gI_pJ, gR_pJ, gV_pJ, gN_pJ, gJ_same, gJ_ne, gI_pR, gJ_pR, gV_pR, gN_pR, gR_same, gR_ne, zin_t, zin_f, x_ltt, x_ltf, x_let, x_lef, x_eqt, x_eqf, n_0, n_1, n_2, n_3, n_4, n_5, n_6, n_7, n_8, n_9, n_10, n_11, n_12, n_16, n_19, n_20, n_24, n_25, n_32, n_40, n_48, n_50, n_60, n_64, n_80, n_96, n_114, n_684, n_1000, n_9330, n_16806, n_1000000, n_5764800, ↓n_m, m_ltI, m_leI, m_lt', m_le', m_eq, m_eq', m_add, m_sub, mm_lt, mm_le, mm_eq, q_sub, nI_add, q_mul, nI_clamp, bz_0, bz_1, q_bzb, b_0, b_1, b_ft, b_tf, ne_eq, not_true_eq_false, not_false_eq_true, decide_true, decide_false, Bool.and_self, Bool.false_and, Bool.and_false, Bool.and_true, Bool.true_and, Bool.not_true, Bool.not_false, ↓reduceIte]
  | succ r ih =>
    intro f u3 u4 u5 h hf h1 m hb
    have step : EX (d + 5) 58 2 [z_R 8050 0, z_I (nI V), z_I (nI f), u3, u4, u5] [] h = EX (d + 5) 58 10 [z_R 8050 0, z_I (nI V), z_I (nI f), z_I (nI 0), u4, u5] [] h := by
      rw [bX5_opens_2]
      simp (disch := first | omega | rfl | assumption) only [q_cl, q_ps, q_pn, bI_t, bI_f, gI_same, gI_ne, gR_pI, gJ_pI, gV_pI, gN_pI, gC_pI, gS_pI, gI_pJ, gR_pJ, gV_pJ, gN_pJ, gJ_same, gJ_ne, gI_pR, gJ_pR, gV_pR, gN_pR, gR_same, gR_ne, zin_t, zin_f, x_ltt, x_ltf, x_let, x_lef, x_eqt, x_eqf, n_0, n_1, n_2, n_3, n_4, n_5, n_6, n_7, n_8, n_9, n_10, n_11, n_12, n_16, n_19, n_20, n_24, n_25, n_32, n_40, n_48, n_50, n_60, n_64, n_80, n_96, n_114, n_684, n_1000, n_9330, n_16806, n_1000000, n_5764800, ↓n_m, m_ltI, m_leI, m_lt', m_le', m_eq, m_eq', m_add, m_sub, mm_lt, mm_le, mm_eq, q_sub, nI_add, q_mul, nI_clamp, bz_0, bz_1, q_bzb, b_0, b_1, b_ft, b_tf, ne_eq, not_true_eq_false, not_false_eq_true, decide_true, decide_false, Bool.and_self, Bool.false_and, Bool.and_false, Bool.and_true, Bool.true_and, Bool.not_true, Bool.not_false, ↓reduceIte]
    obtain ⟨h1', f1, g⟩ := c_op_t d hV (show 1 ≤ f ∧ f ≤ 6 by omega) hno 7 0 u4 u5 h (by omega) m (fun s hs => hb s (by
      unfold lbN at hs
      rw [if_pos (by omega)] at hs
      omega))
    rw [step]
    rcases g with ⟨g1, g2⟩ | ⟨g1, v4, v5, g2⟩
    · exact ⟨h1', f1, Or.inl ⟨g1, g2⟩⟩
    · obtain ⟨h', f2, g3⟩ := ih (f + 1) (z_I (nI 7)) v4 v5 h1' (by omega) (by omega) (cPr_fr f1 m) (fun s hs => g1 s (by omega))
      refine ⟨h', fr_trans f1 f2, ?_⟩
      rw [g2, bX5_opens_118]
      simp (disch := first | omega | rfl | assumption) only [q_cl, q_ps, q_pn, bI_t, bI_f, gI_same, gI_ne, gR_pI, gJ_pI, gV_pI, gN_pI, gC_pI, gS_pI, gI_pJ, gR_pJ, gV_pJ, gN_pJ, gJ_same, gJ_ne, gI_pR, gJ_pR, gV_pR, gN_pR, gR_same, gR_ne, zin_t, zin_f, x_ltt, x_ltf, x_let, x_lef, x_eqt, x_eqf, n_0, n_1, n_2, n_3, n_4, n_5, n_6, n_7, n_8, n_9, n_10, n_11, n_12, n_16, n_19, n_20, n_24, n_25, n_32, n_40, n_48, n_50, n_60, n_64, n_80, n_96, n_114, n_684, n_1000, n_9330, n_16806, n_1000000, n_5764800, ↓n_m, m_ltI, m_leI, m_lt', m_le', m_eq, m_eq', m_add, m_sub, mm_lt, mm_le, mm_eq, q_sub, nI_add, q_mul, nI_clamp, bz_0, bz_1, q_bzb, b_0, b_1, b_ft, b_tf, ne_eq, not_true_eq_false, not_false_eq_true, decide_true, decide_false, Bool.and_self, Bool.false_and, Bool.and_false, Bool.and_true, Bool.true_and, Bool.not_true, Bool.not_false, ↓reduceIte]
      exact g3
abbrev pSe : Nat → Nat → Nat → Prop := fun p i k => pPr p i k ∨ (p = 8050 ∧ (k = 1 ∨ k = 2))
theorem skR_same {V n : Nat} {pf pt : Nat → List Nat} (h : same n pf pt = true) : skR V n pf pt = some [] := if_pos h
theorem skR_one {V n s : Nat} {pf pt : Nat → List Nat} (h : same n pf pt = false) (h1 : fstS V n pf pt = some s) : skR V n pf pt = some [s] := by
  unfold skR
  rw [if_neg (by rw [h]; decide), h1]
theorem skR_two {V n s s2 : Nat} {pf pt : Nat → List Nat} (h : same n pf pt = false) (h1 : fstS V n pf pt = none) (hs : s < 684) (h2 : qS V n pf pt s = true) (h3 : ∀ j, j < s → qS V n pf pt j = false) (h4 : fstS V n (fun i => runW V (sL s) (pf i)) pt = some s2) : skR V n pf pt = some [s, s2] := by
  have hf : (List.range 684).find? (fun s => (fstS V n (fun p => runW V (sL s) (pf p)) pt).isSome) = some s := fnd_some.mpr ⟨h2, hs, h3⟩
  unfold skR
  rw [if_neg (by rw [h]; decide), h1, hf]
  show some [s, (fstS V n (fun p => runW V (sL s) (pf p)) pt).getD 0] = _
  rw [h4]
  rfl
theorem skR_none {V n : Nat} {pf pt : Nat → List Nat} (h : same n pf pt = false) (h1 : fstS V n pf pt = none) (h3 : ∀ j, j < 684 → qS V n pf pt j = false) : skR V n pf pt = none := by
  have hf : (List.range 684).find? (fun s => (fstS V n (fun p => runW V (sL s) (pf p)) pt).isSome) = none := fnd_none.mpr h3
  unfold skR
  rw [if_neg (by rw [h]; decide), h1, hf]
theorem ans_8050 {h : z_H} {i s k : Nat} {v : Int32} (m : ans h i s) : ans (pI h 8050 0 k v) i s := by
  obtain ⟨a1, a2, a3, a4⟩ := m
  exact ⟨a1, by simp (disch := first | omega | rfl | assumption) only [a2, q_cl, q_ps, q_pn, bI_t, bI_f, gI_same, gI_ne, gR_pI, gJ_pI, gV_pI, gN_pI, gC_pI, gS_pI, gI_pJ, gR_pJ, gV_pJ, gN_pJ, gJ_same, gJ_ne, gI_pR, gJ_pR, gV_pR, gN_pR, gR_same, gR_ne, zin_t, zin_f, x_ltt, x_ltf, x_let, x_lef, x_eqt, x_eqf, n_0, n_1, n_2, n_3, n_4, n_5, n_6, n_7, n_8, n_9, n_10, n_11, n_12, n_16, n_19, n_20, n_24, n_25, n_32, n_40, n_48, n_50, n_60, n_64, n_80, n_96, n_114, n_684, n_1000, n_9330, n_16806, n_1000000, n_5764800, ↓n_m, m_ltI, m_leI, m_lt', m_le', m_eq, m_eq', m_add, m_sub, mm_lt, mm_le, mm_eq, q_sub, nI_add, q_mul, nI_clamp, bz_0, bz_1, q_bzb, b_0, b_1, b_ft, b_tf, ne_eq, not_true_eq_false, not_false_eq_true, decide_true, decide_false, Bool.and_self, Bool.false_and, Bool.and_false, Bool.and_true, Bool.true_and, Bool.not_true, Bool.not_false, ↓reduceIte], by simp (disch := first | omega | rfl | assumption) only [a3, q_cl, q_ps, q_pn, bI_t, bI_f, gI_same, gI_ne, gR_pI, gJ_pI, gV_pI, gN_pI, gC_pI, gS_pI, gI_pJ, gR_pJ, gV_pJ, gN_pJ, gJ_same, gJ_ne, gI_pR, gJ_pR, gV_pR, gN_pR, gR_same, gR_ne, zin_t, zin_f, x_ltt, x_ltf, x_let, x_lef, x_eqt, x_eqf, n_0, n_1, n_2, n_3, n_4, n_5, n_6, n_7, n_8, n_9, n_10, n_11, n_12, n_16, n_19, n_20, n_24, n_25, n_32, n_40, n_48, n_50, n_60, n_64, n_80, n_96, n_114, n_684, n_1000, n_9330, n_16806, n_1000000, n_5764800, ↓n_m, m_ltI, m_leI, m_lt', m_le', m_eq, m_eq', m_add, m_sub, mm_lt, mm_le, mm_eq, q_sub, nI_add, q_mul, nI_clamp, bz_0, bz_1, q_bzb, b_0, b_1, b_ft, b_tf, ne_eq, not_true_eq_false, not_false_eq_true, decide_true, decide_false, Bool.and_self, Bool.false_and, Bool.and_false, Bool.and_true, Bool.true_and, Bool.not_true, Bool.not_false, ↓reduceIte], by simp (disch := first | omega | rfl | assumption) only [a4, q_cl, q_ps, q_pn, bI_t, bI_f, gI_same, gI_ne, gR_pI, gJ_pI, gV_pI, gN_pI, gC_pI, gS_pI, gI_pJ, gR_pJ, gV_pJ, gN_pJ, gJ_same, gJ_ne, gI_pR, gJ_pR, gV_pR, gN_pR, gR_same, gR_ne, zin_t, zin_f, x_ltt, x_ltf, x_let, x_lef, x_eqt, x_eqf, n_0, n_1, n_2, n_3, n_4, n_5, n_6, n_7, n_8, n_9, n_10, n_11, n_12, n_16, n_19, n_20, n_24, n_25, n_32, n_40, n_48, n_50, n_60, n_64, n_80, n_96, n_114, n_684, n_1000, n_9330, n_16806, n_1000000, n_5764800, ↓n_m, m_ltI, m_leI, m_lt', m_le', m_eq, m_eq', m_add, m_sub, mm_lt, mm_le, mm_eq, q_sub, nI_add, q_mul, nI_clamp, bz_0, bz_1, q_bzb, b_0, b_1, b_ft, b_tf, ne_eq, not_true_eq_false, not_false_eq_true, decide_true, decide_false, Bool.and_self, Bool.false_and, Bool.and_false, Bool.and_true, Bool.true_and, Bool.not_true, Bool.not_false, ↓reduceIte]⟩
theorem c_search (d : Nat) {V n : Nat} {pf pt : Nat → List Nat} (hV : V < 64) {h : z_H} (m : cPr h n pf pt) (hs : gI h 8050 0 2 = nI 1 ∨ (gI h 8050 0 2 = nI 0 ∧ cSk h (skR V n pf pt))) :
    ∃ h', Rn (d + 7) 57 [z_R 8050 0, z_I (nI V)] h = some (none, h') ∧ gI h' 8050 0 2 = nI 0 ∧ cSk h' (skR V n pf pt) ∧ fr pSe h h' := by
  rcases hs with hs | ⟨hs, hsk⟩
  · obtain ⟨a1, a2, a3, a4⟩ := m
    have f0 : fr pSe h (pI h 8050 0 2 (nI 0)) := fr_pI h _ (Or.inr ⟨rfl, Or.inr rfl⟩)
    have ckA := fr_cOK f0 a1
    have a3A : gI (pI h 8050 0 2 (nI 0)) 8050 0 0 = nI n := by simp (disch := first | omega | rfl | assumption) only [a3, q_cl, q_ps, q_pn, bI_t, bI_f, gI_same, gI_ne, gR_pI, gJ_pI, gV_pI, gN_pI, gC_pI, gS_pI, gI_pJ, gR_pJ, gV_pJ, gN_pJ, gJ_same, gJ_ne, gI_pR, gJ_pR, gV_pR, gN_pR, gR_same, gR_ne, zin_t, zin_f, x_ltt, x_ltf, x_let, x_lef, x_eqt, x_eqf, n_0, n_1, n_2, n_3, n_4, n_5, n_6, n_7, n_8, n_9, n_10, n_11, n_12, n_16, n_19, n_20, n_24, n_25, n_32, n_40, n_48, n_50, n_60, n_64, n_80, n_96, n_114, n_684, n_1000, n_9330, n_16806, n_1000000, n_5764800, ↓n_m, m_ltI, m_leI, m_lt', m_le', m_eq, m_eq', m_add, m_sub, mm_lt, mm_le, mm_eq, q_sub, nI_add, q_mul, nI_clamp, bz_0, bz_1, q_bzb, b_0, b_1, b_ft, b_tf, ne_eq, not_true_eq_false, not_false_eq_true, decide_true, decide_false, Bool.and_self, Bool.false_and, Bool.and_false, Bool.and_true, Bool.true_and, Bool.not_true, Bool.not_false, ↓reduceIte]
    have hwA : ∀ i, i < n → isW (pf i) ∧ gI (pI h 8050 0 2 (nI 0)) 6321 0 i = nI (rowN (pf i)) := fun i hi => ⟨(a4 i hi).1, by simp (disch := first | omega | rfl | assumption) only [(a4 i hi).2.2.1, q_cl, q_ps, q_pn, bI_t, bI_f, gI_same, gI_ne, gR_pI, gJ_pI, gV_pI, gN_pI, gC_pI, gS_pI, gI_pJ, gR_pJ, gV_pJ, gN_pJ, gJ_same, gJ_ne, gI_pR, gJ_pR, gV_pR, gN_pR, gR_same, gR_ne, zin_t, zin_f, x_ltt, x_ltf, x_let, x_lef, x_eqt, x_eqf, n_0, n_1, n_2, n_3, n_4, n_5, n_6, n_7, n_8, n_9, n_10, n_11, n_12, n_16, n_19, n_20, n_24, n_25, n_32, n_40, n_48, n_50, n_60, n_64, n_80, n_96, n_114, n_684, n_1000, n_9330, n_16806, n_1000000, n_5764800, ↓n_m, m_ltI, m_leI, m_lt', m_le', m_eq, m_eq', m_add, m_sub, mm_lt, mm_le, mm_eq, q_sub, nI_add, q_mul, nI_clamp, bz_0, bz_1, q_bzb, b_0, b_1, b_ft, b_tf, ne_eq, not_true_eq_false, not_false_eq_true, decide_true, decide_false, Bool.and_self, Bool.false_and, Bool.and_false, Bool.and_true, Bool.true_and, Bool.not_true, Bool.not_false, ↓reduceIte]⟩
    have hoA : ∀ i, i < n → isW (pt i) ∧ gI (pI h 8050 0 2 (nI 0)) 6331 0 i = nI (rowN (pt i)) := fun i hi => ⟨(a4 i hi).2.1, by simp (disch := first | omega | rfl | assumption) only [(a4 i hi).2.2.2, q_cl, q_ps, q_pn, bI_t, bI_f, gI_same, gI_ne, gR_pI, gJ_pI, gV_pI, gN_pI, gC_pI, gS_pI, gI_pJ, gR_pJ, gV_pJ, gN_pJ, gJ_same, gJ_ne, gI_pR, gJ_pR, gV_pR, gN_pR, gR_same, gR_ne, zin_t, zin_f, x_ltt, x_ltf, x_let, x_lef, x_eqt, x_eqf, n_0, n_1, n_2, n_3, n_4, n_5, n_6, n_7, n_8, n_9, n_10, n_11, n_12, n_16, n_19, n_20, n_24, n_25, n_32, n_40, n_48, n_50, n_60, n_64, n_80, n_96, n_114, n_684, n_1000, n_9330, n_16806, n_1000000, n_5764800, ↓n_m, m_ltI, m_leI, m_lt', m_le', m_eq, m_eq', m_add, m_sub, mm_lt, mm_le, mm_eq, q_sub, nI_add, q_mul, nI_clamp, bz_0, bz_1, q_bzb, b_0, b_1, b_ft, b_tf, ne_eq, not_true_eq_false, not_false_eq_true, decide_true, decide_false, Bool.and_self, Bool.false_and, Bool.and_false, Bool.and_true, Bool.true_and, Bool.not_true, Bool.not_false, ↓reduceIte]⟩
    obtain ⟨u, q1, q2, q3, q4⟩ := c_unl_a (d + 5) ckA a2 a3A hwA hoA
    by_cases hu : u = n
    · have hsame : same n pf pt = true := same_iff.mpr (fun i hi => q2 i (by omega))
      refine ⟨pI (pI h 8050 0 2 (nI 0)) 8050 0 1 (nI 0), ?_, by simp (disch := first | omega | rfl | assumption) only [q_cl, q_ps, q_pn, bI_t, bI_f, gI_same, gI_ne, gR_pI, gJ_pI, gV_pI, gN_pI, gC_pI, gS_pI, gI_pJ, gR_pJ, gV_pJ, gN_pJ, gJ_same, gJ_ne, gI_pR, gJ_pR, gV_pR, gN_pR, gR_same, gR_ne, zin_t, zin_f, x_ltt, x_ltf, x_let, x_lef, x_eqt, x_eqf, n_0, n_1, n_2, n_3, n_4, n_5, n_6, n_7, n_8, n_9, n_10, n_11, n_12, n_16, n_19, n_20, n_24, n_25, n_32, n_40, n_48, n_50, n_60, n_64, n_80, n_96, n_114, n_684, n_1000, n_9330, n_16806, n_1000000, n_5764800, ↓n_m, m_ltI, m_leI, m_lt', m_le', m_eq, m_eq', m_add, m_sub, mm_lt, mm_le, mm_eq, q_sub, nI_add, q_mul, nI_clamp, bz_0, bz_1, q_bzb, b_0, b_1, b_ft, b_tf, ne_eq, not_true_eq_false, not_false_eq_true, decide_true, decide_false, Bool.and_self, Bool.false_and, Bool.and_false, Bool.and_true, Bool.true_and, Bool.not_true, Bool.not_false, ↓reduceIte], ?_, fr_trans f0 (fr_pI _ _ (Or.inr ⟨rfl, Or.inl rfl⟩))⟩
      · rw [rX5_search, bX5_search_0]
        simp (disch := first | omega | rfl | assumption) only [hs, bX5_search_8, a1.1 8050 4 rfl, q4, bX5_search_21, a3, hu, bX5_search_74, q_cl, q_ps, q_pn, bI_t, bI_f, gI_same, gI_ne, gR_pI, gJ_pI, gV_pI, gN_pI, gC_pI, gS_pI, gI_pJ, gR_pJ, gV_pJ, gN_pJ, gJ_same, gJ_ne, gI_pR, gJ_pR, gV_pR, gN_pR, gR_same, gR_ne, zin_t, zin_f, x_ltt, x_ltf, x_let, x_lef, x_eqt, x_eqf, n_0, n_1, n_2, n_3, n_4, n_5, n_6, n_7, n_8, n_9, n_10, n_11, n_12, n_16, n_19, n_20, n_24, n_25, n_32, n_40, n_48, n_50, n_60, n_64, n_80, n_96, n_114, n_684, n_1000, n_9330, n_16806, n_1000000, n_5764800, ↓n_m, m_ltI, m_leI, m_lt', m_le', m_eq, m_eq', m_add, m_sub, mm_lt, mm_le, mm_eq, q_sub, nI_add, q_mul, nI_clamp, bz_0, bz_1, q_bzb, b_0, b_1, b_ft, b_tf, ne_eq, not_true_eq_false, not_false_eq_true, decide_true, decide_false, Bool.and_self, Bool.false_and, Bool.and_false, Bool.and_true, Bool.true_and, Bool.not_true, Bool.not_false, ↓reduceIte]
      · rw [skR_same hsame]
        exact ⟨by simp (disch := first | omega | rfl | assumption) only [List.length_nil, q_cl, q_ps, q_pn, bI_t, bI_f, gI_same, gI_ne, gR_pI, gJ_pI, gV_pI, gN_pI, gC_pI, gS_pI, gI_pJ, gR_pJ, gV_pJ, gN_pJ, gJ_same, gJ_ne, gI_pR, gJ_pR, gV_pR, gN_pR, gR_same, gR_ne, zin_t, zin_f, x_ltt, x_ltf, x_let, x_lef, x_eqt, x_eqf, n_0, n_1, n_2, n_3, n_4, n_5, n_6, n_7, n_8, n_9, n_10, n_11, n_12, n_16, n_19, n_20, n_24, n_25, n_32, n_40, n_48, n_50, n_60, n_64, n_80, n_96, n_114, n_684, n_1000, n_9330, n_16806, n_1000000, n_5764800, ↓n_m, m_ltI, m_leI, m_lt', m_le', m_eq, m_eq', m_add, m_sub, mm_lt, mm_le, mm_eq, q_sub, nI_add, q_mul, nI_clamp, bz_0, bz_1, q_bzb, b_0, b_1, b_ft, b_tf, ne_eq, not_true_eq_false, not_false_eq_true, decide_true, decide_false, Bool.and_self, Bool.false_and, Bool.and_false, Bool.and_true, Bool.true_and, Bool.not_true, Bool.not_false, ↓reduceIte], fun i s z => by simp at z⟩
    · have hsame : same n pf pt = false := by
        cases hx : same n pf pt with
        | false => rfl
        | true => exact absurd (same_iff.mp hx u (by omega)) (q3 (by omega))
      obtain ⟨h1, k1, k2, k3⟩ := c_closes_a (d + 1) (sl := 0) hV (by decide) ckA a2 a3A hwA hoA hsame
      have f1 : fr pSe (pI h 8050 0 2 (nI 0)) h1 := fr_mono k1 (fun q i k z => Or.inl (pcl_pPr q i k z))
      have st1 : gI h1 8050 0 2 = nI 0 := (k1.2 _ _ _ (fun z => by
        rcases z with z | z
        · have : (8050 : Nat) = 6000 := z.1
          omega
        · have : (8050 : Nat) = 6311 := z.1
          omega)).trans (by simp (disch := first | omega | rfl | assumption) only [q_cl, q_ps, q_pn, bI_t, bI_f, gI_same, gI_ne, gR_pI, gJ_pI, gV_pI, gN_pI, gC_pI, gS_pI, gI_pJ, gR_pJ, gV_pJ, gN_pJ, gJ_same, gJ_ne, gI_pR, gJ_pR, gV_pR, gN_pR, gR_same, gR_ne, zin_t, zin_f, x_ltt, x_ltf, x_let, x_lef, x_eqt, x_eqf, n_0, n_1, n_2, n_3, n_4, n_5, n_6, n_7, n_8, n_9, n_10, n_11, n_12, n_16, n_19, n_20, n_24, n_25, n_32, n_40, n_48, n_50, n_60, n_64, n_80, n_96, n_114, n_684, n_1000, n_9330, n_16806, n_1000000, n_5764800, ↓n_m, m_ltI, m_leI, m_lt', m_le', m_eq, m_eq', m_add, m_sub, mm_lt, mm_le, mm_eq, q_sub, nI_add, q_mul, nI_clamp, bz_0, bz_1, q_bzb, b_0, b_1, b_ft, b_tf, ne_eq, not_true_eq_false, not_false_eq_true, decide_true, decide_false, Bool.and_self, Bool.false_and, Bool.and_false, Bool.and_true, Bool.true_and, Bool.not_true, Bool.not_false, ↓reduceIte])
      have ck1 := fr_cOK k1 ckA
      have step : Rn (d + 7) 57 [z_R 8050 0, z_I (nI V)] h = EX (d + 6) 57 46 [z_R 8050 0, z_I (nI V)] [z_I (bI (fstS V n pf pt).isSome)] h1 := by
        have k2' : Rn (d + 6) 59 [z_R 8050 0, z_R 6321 0, z_I (nI 0), z_I (nI V)] (pI h 8050 0 2 (nI 0)) = some (some (z_I (bI (fstS V n pf pt).isSome)), h1) := k2
        rw [rX5_search, bX5_search_0]
        simp (disch := first | omega | rfl | assumption) only [hs, bX5_search_8, a1.1 8050 4 rfl, q4, bX5_search_21, a3, bX5_search_36, k2', q_cl, q_ps, q_pn, bI_t, bI_f, gI_same, gI_ne, gR_pI, gJ_pI, gV_pI, gN_pI, gC_pI, gS_pI, gI_pJ, gR_pJ, gV_pJ, gN_pJ, gJ_same, gJ_ne, gI_pR, gJ_pR, gV_pR, gN_pR, gR_same, gR_ne, zin_t, zin_f, x_ltt, x_ltf, x_let, x_lef, x_eqt, x_eqf, n_0, n_1, n_2, n_3, n_4, n_5, n_6, n_7, n_8, n_9, n_10, n_11, n_12, n_16, n_19, n_20, n_24, n_25, n_32, n_40, n_48, n_50, n_60, n_64, n_80, n_96, n_114, n_684, n_1000, n_9330, n_16806, n_1000000, n_5764800, ↓n_m, m_ltI, m_leI, m_lt', m_le', m_eq, m_eq', m_add, m_sub, mm_lt, mm_le, mm_eq, q_sub, nI_add, q_mul, nI_clamp, bz_0, bz_1, q_bzb, b_0, b_1, b_ft, b_tf, ne_eq, not_true_eq_false, not_false_eq_true, decide_true, decide_false, Bool.and_self, Bool.false_and, Bool.and_false, Bool.and_true, Bool.true_and, Bool.not_true, Bool.not_false, ↓reduceIte]
      cases hF : fstS V n pf pt with
      | some s =>
        refine ⟨pI h1 8050 0 1 (nI 1), ?_, by simp (disch := first | omega | rfl | assumption) only [st1, q_cl, q_ps, q_pn, bI_t, bI_f, gI_same, gI_ne, gR_pI, gJ_pI, gV_pI, gN_pI, gC_pI, gS_pI, gI_pJ, gR_pJ, gV_pJ, gN_pJ, gJ_same, gJ_ne, gI_pR, gJ_pR, gV_pR, gN_pR, gR_same, gR_ne, zin_t, zin_f, x_ltt, x_ltf, x_let, x_lef, x_eqt, x_eqf, n_0, n_1, n_2, n_3, n_4, n_5, n_6, n_7, n_8, n_9, n_10, n_11, n_12, n_16, n_19, n_20, n_24, n_25, n_32, n_40, n_48, n_50, n_60, n_64, n_80, n_96, n_114, n_684, n_1000, n_9330, n_16806, n_1000000, n_5764800, ↓n_m, m_ltI, m_leI, m_lt', m_le', m_eq, m_eq', m_add, m_sub, mm_lt, mm_le, mm_eq, q_sub, nI_add, q_mul, nI_clamp, bz_0, bz_1, q_bzb, b_0, b_1, b_ft, b_tf, ne_eq, not_true_eq_false, not_false_eq_true, decide_true, decide_false, Bool.and_self, Bool.false_and, Bool.and_false, Bool.and_true, Bool.true_and, Bool.not_true, Bool.not_false, ↓reduceIte], ?_, fr_trans f0 (fr_trans f1 (fr_pI _ _ (Or.inr ⟨rfl, Or.inl rfl⟩)))⟩
        · rw [step, hF, Option.isSome_some, bX5_search_46]
          simp (disch := first | omega | rfl | assumption) only [bX5_search_74, q_cl, q_ps, q_pn, bI_t, bI_f, gI_same, gI_ne, gR_pI, gJ_pI, gV_pI, gN_pI, gC_pI, gS_pI, gI_pJ, gR_pJ, gV_pJ, gN_pJ, gJ_same, gJ_ne, gI_pR, gJ_pR, gV_pR, gN_pR, gR_same, gR_ne, zin_t, zin_f, x_ltt, x_ltf, x_let, x_lef, x_eqt, x_eqf, n_0, n_1, n_2, n_3, n_4, n_5, n_6, n_7, n_8, n_9, n_10, n_11, n_12, n_16, n_19, n_20, n_24, n_25, n_32, n_40, n_48, n_50, n_60, n_64, n_80, n_96, n_114, n_684, n_1000, n_9330, n_16806, n_1000000, n_5764800, ↓n_m, m_ltI, m_leI, m_lt', m_le', m_eq, m_eq', m_add, m_sub, mm_lt, mm_le, mm_eq, q_sub, nI_add, q_mul, nI_clamp, bz_0, bz_1, q_bzb, b_0, b_1, b_ft, b_tf, ne_eq, not_true_eq_false, not_false_eq_true, decide_true, decide_false, Bool.and_self, Bool.false_and, Bool.and_false, Bool.and_true, Bool.true_and, Bool.not_true, Bool.not_false, ↓reduceIte]
        · rw [skR_one hsame hF]
          refine ⟨by simp (disch := first | omega | rfl | assumption) only [List.length_cons, List.length_nil, q_cl, q_ps, q_pn, bI_t, bI_f, gI_same, gI_ne, gR_pI, gJ_pI, gV_pI, gN_pI, gC_pI, gS_pI, gI_pJ, gR_pJ, gV_pJ, gN_pJ, gJ_same, gJ_ne, gI_pR, gJ_pR, gV_pR, gN_pR, gR_same, gR_ne, zin_t, zin_f, x_ltt, x_ltf, x_let, x_lef, x_eqt, x_eqf, n_0, n_1, n_2, n_3, n_4, n_5, n_6, n_7, n_8, n_9, n_10, n_11, n_12, n_16, n_19, n_20, n_24, n_25, n_32, n_40, n_48, n_50, n_60, n_64, n_80, n_96, n_114, n_684, n_1000, n_9330, n_16806, n_1000000, n_5764800, ↓n_m, m_ltI, m_leI, m_lt', m_le', m_eq, m_eq', m_add, m_sub, mm_lt, mm_le, mm_eq, q_sub, nI_add, q_mul, nI_clamp, bz_0, bz_1, q_bzb, b_0, b_1, b_ft, b_tf, ne_eq, not_true_eq_false, not_false_eq_true, decide_true, decide_false, Bool.and_self, Bool.false_and, Bool.and_false, Bool.and_true, Bool.true_and, Bool.not_true, Bool.not_false, ↓reduceIte], fun i s' z => ?_⟩
          have hi : i = 0 ∧ s = s' := by
            cases i with
            | zero => exact ⟨rfl, by simpa using z⟩
            | succ i => simp at z
          obtain ⟨rfl, rfl⟩ := hi
          exact ans_8050 (k3 s hF)
      | none =>
        have m1 : cPr h1 n pf pt := cPr_fr (fr_mono k1 pcl_pPr) ⟨ckA, a2, a3A, fun i hi => ⟨(a4 i hi).1, (a4 i hi).2.1, (hwA i hi).2, (hoA i hi).2⟩⟩
        obtain ⟨h2, f2, g⟩ := c_op_f d hV hF 6 1 z_U z_U z_U h1 (by omega) (by omega) m1 (fun s hs => by omega)
        have f2' : fr pSe h1 h2 := fr_mono f2 (fun q i k z => Or.inl z)
        have st2 : gI h2 8050 0 2 = nI 0 := (pPr_kp f2 _ _ _ (by decide) (by decide) (by decide)).trans st1
        have step2 : Rn (d + 7) 57 [z_R 8050 0, z_I (nI V)] h = z_cl (EX (d + 5) 58 2 [z_R 8050 0, z_I (nI V), z_I (nI 1), z_U, z_U, z_U] [] h1) (fun v h' => EX (d + 6) 57 63 [z_R 8050 0, z_I (nI V)] (z_ps v [z_R 8050 0]) h') := by
          rw [step, hF, Option.isSome_none, bX5_search_46]
          simp (disch := first | omega | rfl | assumption) only [bX5_search_57, rX5_opens, bX5_opens_0, q_cl, q_ps, q_pn, bI_t, bI_f, gI_same, gI_ne, gR_pI, gJ_pI, gV_pI, gN_pI, gC_pI, gS_pI, gI_pJ, gR_pJ, gV_pJ, gN_pJ, gJ_same, gJ_ne, gI_pR, gJ_pR, gV_pR, gN_pR, gR_same, gR_ne, zin_t, zin_f, x_ltt, x_ltf, x_let, x_lef, x_eqt, x_eqf, n_0, n_1, n_2, n_3, n_4, n_5, n_6, n_7, n_8, n_9, n_10, n_11, n_12, n_16, n_19, n_20, n_24, n_25, n_32, n_40, n_48, n_50, n_60, n_64, n_80, n_96, n_114, n_684, n_1000, n_9330, n_16806, n_1000000, n_5764800, ↓n_m, m_ltI, m_leI, m_lt', m_le', m_eq, m_eq', m_add, m_sub, mm_lt, mm_le, mm_eq, q_sub, nI_add, q_mul, nI_clamp, bz_0, bz_1, q_bzb, b_0, b_1, b_ft, b_tf, ne_eq, not_true_eq_false, not_false_eq_true, decide_true, decide_false, Bool.and_self, Bool.false_and, Bool.and_false, Bool.and_true, Bool.true_and, Bool.not_true, Bool.not_false, ↓reduceIte]
        rcases g with ⟨⟨s, g1, g2, g3, g4, g5⟩, g6⟩ | ⟨g1, g2⟩
        · obtain ⟨s2, hs2⟩ : ∃ s2, fstS V n (fun i => runW V (sL s) (pf i)) pt = some s2 := Option.isSome_iff_exists.mp g2
          refine ⟨pI h2 8050 0 1 (nI 2), ?_, by simp (disch := first | omega | rfl | assumption) only [st2, q_cl, q_ps, q_pn, bI_t, bI_f, gI_same, gI_ne, gR_pI, gJ_pI, gV_pI, gN_pI, gC_pI, gS_pI, gI_pJ, gR_pJ, gV_pJ, gN_pJ, gJ_same, gJ_ne, gI_pR, gJ_pR, gV_pR, gN_pR, gR_same, gR_ne, zin_t, zin_f, x_ltt, x_ltf, x_let, x_lef, x_eqt, x_eqf, n_0, n_1, n_2, n_3, n_4, n_5, n_6, n_7, n_8, n_9, n_10, n_11, n_12, n_16, n_19, n_20, n_24, n_25, n_32, n_40, n_48, n_50, n_60, n_64, n_80, n_96, n_114, n_684, n_1000, n_9330, n_16806, n_1000000, n_5764800, ↓n_m, m_ltI, m_leI, m_lt', m_le', m_eq, m_eq', m_add, m_sub, mm_lt, mm_le, mm_eq, q_sub, nI_add, q_mul, nI_clamp, bz_0, bz_1, q_bzb, b_0, b_1, b_ft, b_tf, ne_eq, not_true_eq_false, not_false_eq_true, decide_true, decide_false, Bool.and_self, Bool.false_and, Bool.and_false, Bool.and_true, Bool.true_and, Bool.not_true, Bool.not_false, ↓reduceIte], ?_, fr_trans f0 (fr_trans f1 (fr_trans f2' (fr_pI _ _ (Or.inr ⟨rfl, Or.inl rfl⟩))))⟩
          · rw [step2, g6, q_cl, q_ps, bX5_search_63]
            simp (disch := first | omega | rfl | assumption) only [bX5_search_71, bX5_search_74, q_cl, q_ps, q_pn, bI_t, bI_f, gI_same, gI_ne, gR_pI, gJ_pI, gV_pI, gN_pI, gC_pI, gS_pI, gI_pJ, gR_pJ, gV_pJ, gN_pJ, gJ_same, gJ_ne, gI_pR, gJ_pR, gV_pR, gN_pR, gR_same, gR_ne, zin_t, zin_f, x_ltt, x_ltf, x_let, x_lef, x_eqt, x_eqf, n_0, n_1, n_2, n_3, n_4, n_5, n_6, n_7, n_8, n_9, n_10, n_11, n_12, n_16, n_19, n_20, n_24, n_25, n_32, n_40, n_48, n_50, n_60, n_64, n_80, n_96, n_114, n_684, n_1000, n_9330, n_16806, n_1000000, n_5764800, ↓n_m, m_ltI, m_leI, m_lt', m_le', m_eq, m_eq', m_add, m_sub, mm_lt, mm_le, mm_eq, q_sub, nI_add, q_mul, nI_clamp, bz_0, bz_1, q_bzb, b_0, b_1, b_ft, b_tf, ne_eq, not_true_eq_false, not_false_eq_true, decide_true, decide_false, Bool.and_self, Bool.false_and, Bool.and_false, Bool.and_true, Bool.true_and, Bool.not_true, Bool.not_false, ↓reduceIte]
          · rw [skR_two hsame hF g1 g2 g3 hs2]
            refine ⟨by simp (disch := first | omega | rfl | assumption) only [List.length_cons, List.length_nil, q_cl, q_ps, q_pn, bI_t, bI_f, gI_same, gI_ne, gR_pI, gJ_pI, gV_pI, gN_pI, gC_pI, gS_pI, gI_pJ, gR_pJ, gV_pJ, gN_pJ, gJ_same, gJ_ne, gI_pR, gJ_pR, gV_pR, gN_pR, gR_same, gR_ne, zin_t, zin_f, x_ltt, x_ltf, x_let, x_lef, x_eqt, x_eqf, n_0, n_1, n_2, n_3, n_4, n_5, n_6, n_7, n_8, n_9, n_10, n_11, n_12, n_16, n_19, n_20, n_24, n_25, n_32, n_40, n_48, n_50, n_60, n_64, n_80, n_96, n_114, n_684, n_1000, n_9330, n_16806, n_1000000, n_5764800, ↓n_m, m_ltI, m_leI, m_lt', m_le', m_eq, m_eq', m_add, m_sub, mm_lt, mm_le, mm_eq, q_sub, nI_add, q_mul, nI_clamp, bz_0, bz_1, q_bzb, b_0, b_1, b_ft, b_tf, ne_eq, not_true_eq_false, not_false_eq_true, decide_true, decide_false, Bool.and_self, Bool.false_and, Bool.and_false, Bool.and_true, Bool.true_and, Bool.not_true, Bool.not_false, ↓reduceIte], fun i s' z => ?_⟩
            cases i with
            | zero =>
              have : s = s' := by simpa using z
              subst this
              exact ans_8050 g4
            | succ i =>
              cases i with
              | zero =>
                have : s2 = s' := by simpa using z
                subst this
                exact ans_8050 (g5 s2 hs2)
              | succ i => simp at z
        · refine ⟨pI h2 8050 0 1 mI, ?_, by simp (disch := first | omega | rfl | assumption) only [st2, q_cl, q_ps, q_pn, bI_t, bI_f, gI_same, gI_ne, gR_pI, gJ_pI, gV_pI, gN_pI, gC_pI, gS_pI, gI_pJ, gR_pJ, gV_pJ, gN_pJ, gJ_same, gJ_ne, gI_pR, gJ_pR, gV_pR, gN_pR, gR_same, gR_ne, zin_t, zin_f, x_ltt, x_ltf, x_let, x_lef, x_eqt, x_eqf, n_0, n_1, n_2, n_3, n_4, n_5, n_6, n_7, n_8, n_9, n_10, n_11, n_12, n_16, n_19, n_20, n_24, n_25, n_32, n_40, n_48, n_50, n_60, n_64, n_80, n_96, n_114, n_684, n_1000, n_9330, n_16806, n_1000000, n_5764800, ↓n_m, m_ltI, m_leI, m_lt', m_le', m_eq, m_eq', m_add, m_sub, mm_lt, mm_le, mm_eq, q_sub, nI_add, q_mul, nI_clamp, bz_0, bz_1, q_bzb, b_0, b_1, b_ft, b_tf, ne_eq, not_true_eq_false, not_false_eq_true, decide_true, decide_false, Bool.and_self, Bool.false_and, Bool.and_false, Bool.and_true, Bool.true_and, Bool.not_true, Bool.not_false, ↓reduceIte], ?_, fr_trans f0 (fr_trans f1 (fr_trans f2' (fr_pI _ _ (Or.inr ⟨rfl, Or.inl rfl⟩))))⟩
          · rw [step2, g2, q_cl, q_ps, bX5_search_63]
            simp (disch := first | omega | rfl | assumption) only [bX5_search_70, bX5_search_71, bX5_search_74, q_cl, q_ps, q_pn, bI_t, bI_f, gI_same, gI_ne, gR_pI, gJ_pI, gV_pI, gN_pI, gC_pI, gS_pI, gI_pJ, gR_pJ, gV_pJ, gN_pJ, gJ_same, gJ_ne, gI_pR, gJ_pR, gV_pR, gN_pR, gR_same, gR_ne, zin_t, zin_f, x_ltt, x_ltf, x_let, x_lef, x_eqt, x_eqf, n_0, n_1, n_2, n_3, n_4, n_5, n_6, n_7, n_8, n_9, n_10, n_11, n_12, n_16, n_19, n_20, n_24, n_25, n_32, n_40, n_48, n_50, n_60, n_64, n_80, n_96, n_114, n_684, n_1000, n_9330, n_16806, n_1000000, n_5764800, ↓n_m, m_ltI, m_leI, m_lt', m_le', m_eq, m_eq', m_add, m_sub, mm_lt, mm_le, mm_eq, q_sub, nI_add, q_mul, nI_clamp, bz_0, bz_1, q_bzb, b_0, b_1, b_ft, b_tf, ne_eq, not_true_eq_false, not_false_eq_true, decide_true, decide_false, Bool.and_self, Bool.false_and, Bool.and_false, Bool.and_true, Bool.true_and, Bool.not_true, Bool.not_false, ↓reduceIte]
          · rw [skR_none hsame hF g1]
            show gI (pI h2 8050 0 1 mI) 8050 0 1 = mI
            simp (disch := first | omega | rfl | assumption) only [q_cl, q_ps, q_pn, bI_t, bI_f, gI_same, gI_ne, gR_pI, gJ_pI, gV_pI, gN_pI, gC_pI, gS_pI, gI_pJ, gR_pJ, gV_pJ, gN_pJ, gJ_same, gJ_ne, gI_pR, gJ_pR, gV_pR, gN_pR, gR_same, gR_ne, zin_t, zin_f, x_ltt, x_ltf, x_let, x_lef, x_eqt, x_eqf, n_0, n_1, n_2, n_3, n_4, n_5, n_6, n_7, n_8, n_9, n_10, n_11, n_12, n_16, n_19, n_20, n_24, n_25, n_32, n_40, n_48, n_50, n_60, n_64, n_80, n_96, n_114, n_684, n_1000, n_9330, n_16806, n_1000000, n_5764800, ↓n_m, m_ltI, m_leI, m_lt', m_le', m_eq, m_eq', m_add, m_sub, mm_lt, mm_le, mm_eq, q_sub, nI_add, q_mul, nI_clamp, bz_0, bz_1, q_bzb, b_0, b_1, b_ft, b_tf, ne_eq, not_true_eq_false, not_false_eq_true, decide_true, decide_false, Bool.and_self, Bool.false_and, Bool.and_false, Bool.and_true, Bool.true_and, Bool.not_true, Bool.not_false, ↓reduceIte]
  · refine ⟨h, ?_, hs, hsk, fr_rfl _ _⟩
    rw [rX5_search, bX5_search_0]
    simp (disch := first | omega | rfl | assumption) only [hs, q_cl, q_ps, q_pn, bI_t, bI_f, gI_same, gI_ne, gR_pI, gJ_pI, gV_pI, gN_pI, gC_pI, gS_pI, gI_pJ, gR_pJ, gV_pJ, gN_pJ, gJ_same, gJ_ne, gI_pR, gJ_pR, gV_pR, gN_pR, gR_same, gR_ne, zin_t, zin_f, x_ltt, x_ltf, x_let, x_lef, x_eqt, x_eqf, n_0, n_1, n_2, n_3, n_4, n_5, n_6, n_7, n_8, n_9, n_10, n_11, n_12, n_16, n_19, n_20, n_24, n_25, n_32, n_40, n_48, n_50, n_60, n_64, n_80, n_96, n_114, n_684, n_1000, n_9330, n_16806, n_1000000, n_5764800, ↓n_m, m_ltI, m_leI, m_lt', m_le', m_eq, m_eq', m_add, m_sub, mm_lt, mm_le, mm_eq, q_sub, nI_add, q_mul, nI_clamp, bz_0, bz_1, q_bzb, b_0, b_1, b_ft, b_tf, ne_eq, not_true_eq_false, not_false_eq_true, decide_true, decide_false, Bool.and_self, Bool.false_and, Bool.and_false, Bool.and_true, Bool.true_and, Bool.not_true, Bool.not_false, ↓reduceIte]
