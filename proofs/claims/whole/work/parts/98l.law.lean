/-! ===== the law: a call of each kind ===== -/
/-- behind a call the next one is due, and all stands -/
def stP (N : Nat) (xs : Nat → Int32) (d i : Nat) (t : Option z_A) : Prop := ∃ h2, Inv h2 N xs ∧ t = EX (d + 60) 250 18 [z_R 7 0, z_R 10090 0, z_R 49100 0, z_I (nI (i + 6))] [] h2
theorem stP_if {N : Nat} {xs : Nat → Int32} {d i : Nat} {c : Prop} [Decidable c] {x y : Option z_A} (hx : stP N xs d i x) (hy : stP N xs d i y) : stP N xs d i (if c then x else y) := by
  split
  · exact hx
  · exact hy
theorem I_sc {h : z_H} {N : Nat} {xs : Nat → Int32} (hI : Inv h N xs) : gN h 7 = N ∧ ∀ k, gI h 7 0 k = xs k := by
  obtain ⟨G, hG⟩ := hI
  exact hG.2.2.1
section
variable {N : Nat} {xs : Nat → Int32} (d : Nat) {h : z_H} (hI : Inv h N xs) {i : Nat} (hi : i + 6 ≤ N) (hN : N ≤ 3072)
theorem cs_vowel (hI : Inv h N xs) (hi : i + 6 ≤ N) (hN : N ≤ 3072) : stP N xs d i (EX (d + 60) 250 232 [z_R 7 0, z_R 10090 0, z_R 49100 0, z_I (nI i)] [] h) := by
  obtain ⟨s1, s2⟩ := I_sc hI
  by_cases hz : xs (i + 2) = nI 0
  · obtain ⟨r, h1, h2, e1, e2, I2⟩ := op_vowel d hI (xs (i + 1)) false
    have g7 := Rn_g7 (d + 60) _ _ _ _ _ e1
    have t1 : gN h1 7 = N := g7.2.trans s1
    have t2 : ∀ k, gI h1 7 0 k = xs k := fun k => (g7.1 k).trans (s2 k)
    have e1' : Rn (d + 60) 82 [z_R 10090 0, z_I (xs (i + 1)), z_I (nI 0)] h = some (some (z_I r), h1) := e1
    have e2' : Rn (d + 60) 155 [z_R 49100 0, z_I (xs (i + 1)), z_I (nI 0)] h1 = some (some (z_I r), h2) := e2
    refine ⟨h2, I2, ?_⟩
    rw [bL_law_232]
    simp (disch := first | omega | rfl | assumption) only [s1, s2, hz, e1', t1, t2, e2', bL_law_250, bL_law_251, bL_law_254, bL_law_272, bL_law_273, bL_law_276, bL_law_1806, eq_self, q_cl, q_ps, q_pn, bI_t, bI_f, gI_same, gI_ne, gR_pI, gJ_pI, gV_pI, gN_pI, gC_pI, gS_pI, gI_pJ, gR_pJ, gV_pJ, gN_pJ, gJ_same, gJ_ne, gI_pR, gJ_pR, gV_pR, gN_pR, gR_same, gR_ne, zin_t, zin_f, x_ltt, x_ltf, x_let, x_lef, x_eqt, x_eqf, n_0, n_1, n_2, n_3, n_4, n_5, n_6, n_7, n_8, n_9, n_10, n_11, n_12, n_16, n_19, n_20, n_24, n_25, n_32, n_40, n_48, n_50, n_60, n_64, n_80, n_96, n_114, n_684, n_1000, n_9330, n_16806, n_1000000, n_5764800, ↓n_m, m_ltI, m_leI, m_lt', m_le', m_eq, m_eq', m_add, m_sub, mm_lt, mm_le, mm_eq, q_sub, nI_add, q_mul, nI_clamp, bz_0, bz_1, q_bzb, b_0, b_1, b_ft, b_tf, ne_eq, not_true_eq_false, not_false_eq_true, decide_true, decide_false, Bool.and_self, Bool.false_and, Bool.and_false, Bool.and_true, Bool.true_and, Bool.not_true, Bool.not_false, ↓reduceIte]
  · obtain ⟨r, h1, h2, e1, e2, I2⟩ := op_vowel d hI (xs (i + 1)) true
    have g7 := Rn_g7 (d + 60) _ _ _ _ _ e1
    have t1 : gN h1 7 = N := g7.2.trans s1
    have t2 : ∀ k, gI h1 7 0 k = xs k := fun k => (g7.1 k).trans (s2 k)
    have e1' : Rn (d + 60) 82 [z_R 10090 0, z_I (xs (i + 1)), z_I (nI 1)] h = some (some (z_I r), h1) := e1
    have e2' : Rn (d + 60) 155 [z_R 49100 0, z_I (xs (i + 1)), z_I (nI 1)] h1 = some (some (z_I r), h2) := e2
    refine ⟨h2, I2, ?_⟩
    rw [bL_law_232]
    simp (disch := first | omega | rfl | assumption) only [s1, s2, hz, e1', t1, t2, e2', bL_law_250, bL_law_251, bL_law_254, bL_law_272, bL_law_273, bL_law_276, bL_law_1806, eq_self, q_cl, q_ps, q_pn, bI_t, bI_f, gI_same, gI_ne, gR_pI, gJ_pI, gV_pI, gN_pI, gC_pI, gS_pI, gI_pJ, gR_pJ, gV_pJ, gN_pJ, gJ_same, gJ_ne, gI_pR, gJ_pR, gV_pR, gN_pR, gR_same, gR_ne, zin_t, zin_f, x_ltt, x_ltf, x_let, x_lef, x_eqt, x_eqf, n_0, n_1, n_2, n_3, n_4, n_5, n_6, n_7, n_8, n_9, n_10, n_11, n_12, n_16, n_19, n_20, n_24, n_25, n_32, n_40, n_48, n_50, n_60, n_64, n_80, n_96, n_114, n_684, n_1000, n_9330, n_16806, n_1000000, n_5764800, ↓n_m, m_ltI, m_leI, m_lt', m_le', m_eq, m_eq', m_add, m_sub, mm_lt, mm_le, mm_eq, q_sub, nI_add, q_mul, nI_clamp, bz_0, bz_1, q_bzb, b_0, b_1, b_ft, b_tf, ne_eq, not_true_eq_false, not_false_eq_true, decide_true, decide_false, Bool.and_self, Bool.false_and, Bool.and_false, Bool.and_true, Bool.true_and, Bool.not_true, Bool.not_false, ↓reduceIte]
theorem cs_feed (hI : Inv h N xs) (hi : i + 6 ≤ N) (hN : N ≤ 3072) : stP N xs d i (EX (d + 60) 250 281 [z_R 7 0, z_R 10090 0, z_R 49100 0, z_I (nI i)] [] h) := by
  obtain ⟨s1, s2⟩ := I_sc hI
  obtain ⟨r, h1, h2, e1, e2, I2⟩ := op_feed d hI ((Int32.toInt64 (xs (i + 1)) <<< (Int32.toInt64 (nI 32) &&& 63)) ||| (Int32.toInt64 (xs (i + 2)) &&& 4294967295)) (xs (i + 3))
  have g7 := Rn_g7 (d + 60) _ _ _ _ _ e1
  have t1 : gN h1 7 = N := g7.2.trans s1
  have t2 : ∀ k, gI h1 7 0 k = xs k := fun k => (g7.1 k).trans (s2 k)
  refine ⟨h2, I2, ?_⟩
  rw [bL_law_281]
  simp (disch := first | omega | rfl | assumption) only [s1, s2, e1, t1, t2, e2, bL_law_310, bL_law_339, bL_law_1806, eq_self, q_cl, q_ps, q_pn, bI_t, bI_f, gI_same, gI_ne, gR_pI, gJ_pI, gV_pI, gN_pI, gC_pI, gS_pI, gI_pJ, gR_pJ, gV_pJ, gN_pJ, gJ_same, gJ_ne, gI_pR, gJ_pR, gV_pR, gN_pR, gR_same, gR_ne, zin_t, zin_f, x_ltt, x_ltf, x_let, x_lef, x_eqt, x_eqf, n_0, n_1, n_2, n_3, n_4, n_5, n_6, n_7, n_8, n_9, n_10, n_11, n_12, n_16, n_19, n_20, n_24, n_25, n_32, n_40, n_48, n_50, n_60, n_64, n_80, n_96, n_114, n_684, n_1000, n_9330, n_16806, n_1000000, n_5764800, ↓n_m, m_ltI, m_leI, m_lt', m_le', m_eq, m_eq', m_add, m_sub, mm_lt, mm_le, mm_eq, q_sub, nI_add, q_mul, nI_clamp, bz_0, bz_1, q_bzb, b_0, b_1, b_ft, b_tf, ne_eq, not_true_eq_false, not_false_eq_true, decide_true, decide_false, Bool.and_self, Bool.false_and, Bool.and_false, Bool.and_true, Bool.true_and, Bool.not_true, Bool.not_false, ↓reduceIte]
theorem cs_law (hI : Inv h N xs) (hi : i + 6 ≤ N) (hN : N ≤ 3072) : stP N xs d i (EX (d + 60) 250 344 [z_R 7 0, z_R 10090 0, z_R 49100 0, z_I (nI i)] [] h) := by
  obtain ⟨s1, s2⟩ := I_sc hI
  obtain ⟨r, h1, h2, e1, e2, I2⟩ := op_law d hI 
  have g7 := Rn_g7 (d + 60) _ _ _ _ _ e1
  have t1 : gN h1 7 = N := g7.2.trans s1
  have t2 : ∀ k, gI h1 7 0 k = xs k := fun k => (g7.1 k).trans (s2 k)
  refine ⟨h2, I2, ?_⟩
  rw [bL_law_344]
  simp (disch := first | omega | rfl | assumption) only [s1, s2, e1, t1, t2, e2, bL_law_348, bL_law_352, bL_law_1806, eq_self, q_cl, q_ps, q_pn, bI_t, bI_f, gI_same, gI_ne, gR_pI, gJ_pI, gV_pI, gN_pI, gC_pI, gS_pI, gI_pJ, gR_pJ, gV_pJ, gN_pJ, gJ_same, gJ_ne, gI_pR, gJ_pR, gV_pR, gN_pR, gR_same, gR_ne, zin_t, zin_f, x_ltt, x_ltf, x_let, x_lef, x_eqt, x_eqf, n_0, n_1, n_2, n_3, n_4, n_5, n_6, n_7, n_8, n_9, n_10, n_11, n_12, n_16, n_19, n_20, n_24, n_25, n_32, n_40, n_48, n_50, n_60, n_64, n_80, n_96, n_114, n_684, n_1000, n_9330, n_16806, n_1000000, n_5764800, ↓n_m, m_ltI, m_leI, m_lt', m_le', m_eq, m_eq', m_add, m_sub, mm_lt, mm_le, mm_eq, q_sub, nI_add, q_mul, nI_clamp, bz_0, bz_1, q_bzb, b_0, b_1, b_ft, b_tf, ne_eq, not_true_eq_false, not_false_eq_true, decide_true, decide_false, Bool.and_self, Bool.false_and, Bool.and_false, Bool.and_true, Bool.true_and, Bool.not_true, Bool.not_false, ↓reduceIte]
theorem cs_as (hI : Inv h N xs) (hi : i + 6 ≤ N) (hN : N ≤ 3072) : stP N xs d i (EX (d + 60) 250 357 [z_R 7 0, z_R 10090 0, z_R 49100 0, z_I (nI i)] [] h) := by
  obtain ⟨s1, s2⟩ := I_sc hI
  obtain ⟨r, h1, h2, e1, e2, I2⟩ := op_as d hI (xs (i + 1)) (xs (i + 2))
  have g7 := Rn_g7 (d + 60) _ _ _ _ _ e1
  have t1 : gN h1 7 = N := g7.2.trans s1
  have t2 : ∀ k, gI h1 7 0 k = xs k := fun k => (g7.1 k).trans (s2 k)
  refine ⟨h2, I2, ?_⟩
  rw [bL_law_357]
  simp (disch := first | omega | rfl | assumption) only [s1, s2, e1, t1, t2, e2, bL_law_371, bL_law_385, bL_law_1806, eq_self, q_cl, q_ps, q_pn, bI_t, bI_f, gI_same, gI_ne, gR_pI, gJ_pI, gV_pI, gN_pI, gC_pI, gS_pI, gI_pJ, gR_pJ, gV_pJ, gN_pJ, gJ_same, gJ_ne, gI_pR, gJ_pR, gV_pR, gN_pR, gR_same, gR_ne, zin_t, zin_f, x_ltt, x_ltf, x_let, x_lef, x_eqt, x_eqf, n_0, n_1, n_2, n_3, n_4, n_5, n_6, n_7, n_8, n_9, n_10, n_11, n_12, n_16, n_19, n_20, n_24, n_25, n_32, n_40, n_48, n_50, n_60, n_64, n_80, n_96, n_114, n_684, n_1000, n_9330, n_16806, n_1000000, n_5764800, ↓n_m, m_ltI, m_leI, m_lt', m_le', m_eq, m_eq', m_add, m_sub, mm_lt, mm_le, mm_eq, q_sub, nI_add, q_mul, nI_clamp, bz_0, bz_1, q_bzb, b_0, b_1, b_ft, b_tf, ne_eq, not_true_eq_false, not_false_eq_true, decide_true, decide_false, Bool.and_self, Bool.false_and, Bool.and_false, Bool.and_true, Bool.true_and, Bool.not_true, Bool.not_false, ↓reduceIte]
theorem cs_about (hI : Inv h N xs) (hi : i + 6 ≤ N) (hN : N ≤ 3072) : stP N xs d i (EX (d + 60) 250 390 [z_R 7 0, z_R 10090 0, z_R 49100 0, z_I (nI i)] [] h) := by
  obtain ⟨s1, s2⟩ := I_sc hI
  obtain ⟨r, h1, h2, e1, e2, I2⟩ := op_about d hI (xs (i + 1)) (xs (i + 2))
  have g7 := Rn_g7 (d + 60) _ _ _ _ _ e1
  have t1 : gN h1 7 = N := g7.2.trans s1
  have t2 : ∀ k, gI h1 7 0 k = xs k := fun k => (g7.1 k).trans (s2 k)
  refine ⟨h2, I2, ?_⟩
  rw [bL_law_390]
  simp (disch := first | omega | rfl | assumption) only [s1, s2, e1, t1, t2, e2, bL_law_404, bL_law_418, bL_law_1806, eq_self, q_cl, q_ps, q_pn, bI_t, bI_f, gI_same, gI_ne, gR_pI, gJ_pI, gV_pI, gN_pI, gC_pI, gS_pI, gI_pJ, gR_pJ, gV_pJ, gN_pJ, gJ_same, gJ_ne, gI_pR, gJ_pR, gV_pR, gN_pR, gR_same, gR_ne, zin_t, zin_f, x_ltt, x_ltf, x_let, x_lef, x_eqt, x_eqf, n_0, n_1, n_2, n_3, n_4, n_5, n_6, n_7, n_8, n_9, n_10, n_11, n_12, n_16, n_19, n_20, n_24, n_25, n_32, n_40, n_48, n_50, n_60, n_64, n_80, n_96, n_114, n_684, n_1000, n_9330, n_16806, n_1000000, n_5764800, ↓n_m, m_ltI, m_leI, m_lt', m_le', m_eq, m_eq', m_add, m_sub, mm_lt, mm_le, mm_eq, q_sub, nI_add, q_mul, nI_clamp, bz_0, bz_1, q_bzb, b_0, b_1, b_ft, b_tf, ne_eq, not_true_eq_false, not_false_eq_true, decide_true, decide_false, Bool.and_self, Bool.false_and, Bool.and_false, Bool.and_true, Bool.true_and, Bool.not_true, Bool.not_false, ↓reduceIte]
theorem cs_run (hI : Inv h N xs) (hi : i + 6 ≤ N) (hN : N ≤ 3072) : stP N xs d i (EX (d + 60) 250 423 [z_R 7 0, z_R 10090 0, z_R 49100 0, z_I (nI i)] [] h) := by
  obtain ⟨s1, s2⟩ := I_sc hI
  obtain ⟨r, h1, h2, e1, e2, I2⟩ := op_run d hI (xs (i + 1)) (xs (i + 2))
  have g7 := Rn_g7 (d + 60) _ _ _ _ _ e1
  have t1 : gN h1 7 = N := g7.2.trans s1
  have t2 : ∀ k, gI h1 7 0 k = xs k := fun k => (g7.1 k).trans (s2 k)
  refine ⟨h2, I2, ?_⟩
  rw [bL_law_423]
  simp (disch := first | omega | rfl | assumption) only [s1, s2, e1, t1, t2, e2, bL_law_437, bL_law_451, bL_law_1806, eq_self, q_cl, q_ps, q_pn, bI_t, bI_f, gI_same, gI_ne, gR_pI, gJ_pI, gV_pI, gN_pI, gC_pI, gS_pI, gI_pJ, gR_pJ, gV_pJ, gN_pJ, gJ_same, gJ_ne, gI_pR, gJ_pR, gV_pR, gN_pR, gR_same, gR_ne, zin_t, zin_f, x_ltt, x_ltf, x_let, x_lef, x_eqt, x_eqf, n_0, n_1, n_2, n_3, n_4, n_5, n_6, n_7, n_8, n_9, n_10, n_11, n_12, n_16, n_19, n_20, n_24, n_25, n_32, n_40, n_48, n_50, n_60, n_64, n_80, n_96, n_114, n_684, n_1000, n_9330, n_16806, n_1000000, n_5764800, ↓n_m, m_ltI, m_leI, m_lt', m_le', m_eq, m_eq', m_add, m_sub, mm_lt, mm_le, mm_eq, q_sub, nI_add, q_mul, nI_clamp, bz_0, bz_1, q_bzb, b_0, b_1, b_ft, b_tf, ne_eq, not_true_eq_false, not_false_eq_true, decide_true, decide_false, Bool.and_self, Bool.false_and, Bool.and_false, Bool.and_true, Bool.true_and, Bool.not_true, Bool.not_false, ↓reduceIte]
theorem cs_holds (hI : Inv h N xs) (hi : i + 6 ≤ N) (hN : N ≤ 3072) : stP N xs d i (EX (d + 60) 250 456 [z_R 7 0, z_R 10090 0, z_R 49100 0, z_I (nI i)] [] h) := by
  obtain ⟨s1, s2⟩ := I_sc hI
  obtain ⟨r, h1, h2, e1, e2, I2⟩ := op_holds d hI (xs (i + 1)) (xs (i + 2))
  have g7 := Rn_g7 (d + 60) _ _ _ _ _ e1
  have t1 : gN h1 7 = N := g7.2.trans s1
  have t2 : ∀ k, gI h1 7 0 k = xs k := fun k => (g7.1 k).trans (s2 k)
  refine ⟨h2, I2, ?_⟩
  rw [bL_law_456]
  simp (disch := first | omega | rfl | assumption) only [s1, s2, e1, t1, t2, e2, bL_law_470, bL_law_484, bL_law_1806, eq_self, q_cl, q_ps, q_pn, bI_t, bI_f, gI_same, gI_ne, gR_pI, gJ_pI, gV_pI, gN_pI, gC_pI, gS_pI, gI_pJ, gR_pJ, gV_pJ, gN_pJ, gJ_same, gJ_ne, gI_pR, gJ_pR, gV_pR, gN_pR, gR_same, gR_ne, zin_t, zin_f, x_ltt, x_ltf, x_let, x_lef, x_eqt, x_eqf, n_0, n_1, n_2, n_3, n_4, n_5, n_6, n_7, n_8, n_9, n_10, n_11, n_12, n_16, n_19, n_20, n_24, n_25, n_32, n_40, n_48, n_50, n_60, n_64, n_80, n_96, n_114, n_684, n_1000, n_9330, n_16806, n_1000000, n_5764800, ↓n_m, m_ltI, m_leI, m_lt', m_le', m_eq, m_eq', m_add, m_sub, mm_lt, mm_le, mm_eq, q_sub, nI_add, q_mul, nI_clamp, bz_0, bz_1, q_bzb, b_0, b_1, b_ft, b_tf, ne_eq, not_true_eq_false, not_false_eq_true, decide_true, decide_false, Bool.and_self, Bool.false_and, Bool.and_false, Bool.and_true, Bool.true_and, Bool.not_true, Bool.not_false, ↓reduceIte]
theorem cs_tongue (hI : Inv h N xs) (hi : i + 6 ≤ N) (hN : N ≤ 3072) : stP N xs d i (EX (d + 60) 250 489 [z_R 7 0, z_R 10090 0, z_R 49100 0, z_I (nI i)] [] h) := by
  obtain ⟨s1, s2⟩ := I_sc hI
  obtain ⟨r, h1, h2, e1, e2, I2⟩ := op_tongue d hI (xs (i + 1))
  have g7 := Rn_g7 (d + 60) _ _ _ _ _ e1
  have t1 : gN h1 7 = N := g7.2.trans s1
  have t2 : ∀ k, gI h1 7 0 k = xs k := fun k => (g7.1 k).trans (s2 k)
  refine ⟨h2, I2, ?_⟩
  rw [bL_law_489]
  simp (disch := first | omega | rfl | assumption) only [s1, s2, e1, t1, t2, e2, bL_law_498, bL_law_507, bL_law_1806, eq_self, q_cl, q_ps, q_pn, bI_t, bI_f, gI_same, gI_ne, gR_pI, gJ_pI, gV_pI, gN_pI, gC_pI, gS_pI, gI_pJ, gR_pJ, gV_pJ, gN_pJ, gJ_same, gJ_ne, gI_pR, gJ_pR, gV_pR, gN_pR, gR_same, gR_ne, zin_t, zin_f, x_ltt, x_ltf, x_let, x_lef, x_eqt, x_eqf, n_0, n_1, n_2, n_3, n_4, n_5, n_6, n_7, n_8, n_9, n_10, n_11, n_12, n_16, n_19, n_20, n_24, n_25, n_32, n_40, n_48, n_50, n_60, n_64, n_80, n_96, n_114, n_684, n_1000, n_9330, n_16806, n_1000000, n_5764800, ↓n_m, m_ltI, m_leI, m_lt', m_le', m_eq, m_eq', m_add, m_sub, mm_lt, mm_le, mm_eq, q_sub, nI_add, q_mul, nI_clamp, bz_0, bz_1, q_bzb, b_0, b_1, b_ft, b_tf, ne_eq, not_true_eq_false, not_false_eq_true, decide_true, decide_false, Bool.and_self, Bool.false_and, Bool.and_false, Bool.and_true, Bool.true_and, Bool.not_true, Bool.not_false, ↓reduceIte]
theorem cs_take (hI : Inv h N xs) (hi : i + 6 ≤ N) (hN : N ≤ 3072) : stP N xs d i (EX (d + 60) 250 512 [z_R 7 0, z_R 10090 0, z_R 49100 0, z_I (nI i)] [] h) := by
  obtain ⟨s1, s2⟩ := I_sc hI
  obtain ⟨r, h1, h2, e1, e2, I2⟩ := op_take d hI (xs (i + 1)) (xs (i + 2))
  have g7 := Rn_g7 (d + 60) _ _ _ _ _ e1
  have t1 : gN h1 7 = N := g7.2.trans s1
  have t2 : ∀ k, gI h1 7 0 k = xs k := fun k => (g7.1 k).trans (s2 k)
  refine ⟨h2, I2, ?_⟩
  rw [bL_law_512]
  simp (disch := first | omega | rfl | assumption) only [s1, s2, e1, t1, t2, e2, bL_law_526, bL_law_540, bL_law_1806, eq_self, q_cl, q_ps, q_pn, bI_t, bI_f, gI_same, gI_ne, gR_pI, gJ_pI, gV_pI, gN_pI, gC_pI, gS_pI, gI_pJ, gR_pJ, gV_pJ, gN_pJ, gJ_same, gJ_ne, gI_pR, gJ_pR, gV_pR, gN_pR, gR_same, gR_ne, zin_t, zin_f, x_ltt, x_ltf, x_let, x_lef, x_eqt, x_eqf, n_0, n_1, n_2, n_3, n_4, n_5, n_6, n_7, n_8, n_9, n_10, n_11, n_12, n_16, n_19, n_20, n_24, n_25, n_32, n_40, n_48, n_50, n_60, n_64, n_80, n_96, n_114, n_684, n_1000, n_9330, n_16806, n_1000000, n_5764800, ↓n_m, m_ltI, m_leI, m_lt', m_le', m_eq, m_eq', m_add, m_sub, mm_lt, mm_le, mm_eq, q_sub, nI_add, q_mul, nI_clamp, bz_0, bz_1, q_bzb, b_0, b_1, b_ft, b_tf, ne_eq, not_true_eq_false, not_false_eq_true, decide_true, decide_false, Bool.and_self, Bool.false_and, Bool.and_false, Bool.and_true, Bool.true_and, Bool.not_true, Bool.not_false, ↓reduceIte]
theorem cs_leave (hI : Inv h N xs) (hi : i + 6 ≤ N) (hN : N ≤ 3072) : stP N xs d i (EX (d + 60) 250 545 [z_R 7 0, z_R 10090 0, z_R 49100 0, z_I (nI i)] [] h) := by
  obtain ⟨s1, s2⟩ := I_sc hI
  obtain ⟨r, h1, h2, e1, e2, I2⟩ := op_leave d hI (xs (i + 1))
  have g7 := Rn_g7 (d + 60) _ _ _ _ _ e1
  have t1 : gN h1 7 = N := g7.2.trans s1
  have t2 : ∀ k, gI h1 7 0 k = xs k := fun k => (g7.1 k).trans (s2 k)
  refine ⟨h2, I2, ?_⟩
  rw [bL_law_545]
  simp (disch := first | omega | rfl | assumption) only [s1, s2, e1, t1, t2, e2, bL_law_554, bL_law_563, bL_law_1806, eq_self, q_cl, q_ps, q_pn, bI_t, bI_f, gI_same, gI_ne, gR_pI, gJ_pI, gV_pI, gN_pI, gC_pI, gS_pI, gI_pJ, gR_pJ, gV_pJ, gN_pJ, gJ_same, gJ_ne, gI_pR, gJ_pR, gV_pR, gN_pR, gR_same, gR_ne, zin_t, zin_f, x_ltt, x_ltf, x_let, x_lef, x_eqt, x_eqf, n_0, n_1, n_2, n_3, n_4, n_5, n_6, n_7, n_8, n_9, n_10, n_11, n_12, n_16, n_19, n_20, n_24, n_25, n_32, n_40, n_48, n_50, n_60, n_64, n_80, n_96, n_114, n_684, n_1000, n_9330, n_16806, n_1000000, n_5764800, ↓n_m, m_ltI, m_leI, m_lt', m_le', m_eq, m_eq', m_add, m_sub, mm_lt, mm_le, mm_eq, q_sub, nI_add, q_mul, nI_clamp, bz_0, bz_1, q_bzb, b_0, b_1, b_ft, b_tf, ne_eq, not_true_eq_false, not_false_eq_true, decide_true, decide_false, Bool.and_self, Bool.false_and, Bool.and_false, Bool.and_true, Bool.true_and, Bool.not_true, Bool.not_false, ↓reduceIte]
theorem cs_swap (hI : Inv h N xs) (hi : i + 6 ≤ N) (hN : N ≤ 3072) : stP N xs d i (EX (d + 60) 250 568 [z_R 7 0, z_R 10090 0, z_R 49100 0, z_I (nI i)] [] h) := by
  obtain ⟨s1, s2⟩ := I_sc hI
  obtain ⟨r, h1, h2, e1, e2, I2⟩ := op_swap d hI (xs (i + 1)) (xs (i + 2))
  have g7 := Rn_g7 (d + 60) _ _ _ _ _ e1
  have t1 : gN h1 7 = N := g7.2.trans s1
  have t2 : ∀ k, gI h1 7 0 k = xs k := fun k => (g7.1 k).trans (s2 k)
  refine ⟨h2, I2, ?_⟩
  rw [bL_law_568]
  simp (disch := first | omega | rfl | assumption) only [s1, s2, e1, t1, t2, e2, bL_law_582, bL_law_596, bL_law_1806, eq_self, q_cl, q_ps, q_pn, bI_t, bI_f, gI_same, gI_ne, gR_pI, gJ_pI, gV_pI, gN_pI, gC_pI, gS_pI, gI_pJ, gR_pJ, gV_pJ, gN_pJ, gJ_same, gJ_ne, gI_pR, gJ_pR, gV_pR, gN_pR, gR_same, gR_ne, zin_t, zin_f, x_ltt, x_ltf, x_let, x_lef, x_eqt, x_eqf, n_0, n_1, n_2, n_3, n_4, n_5, n_6, n_7, n_8, n_9, n_10, n_11, n_12, n_16, n_19, n_20, n_24, n_25, n_32, n_40, n_48, n_50, n_60, n_64, n_80, n_96, n_114, n_684, n_1000, n_9330, n_16806, n_1000000, n_5764800, ↓n_m, m_ltI, m_leI, m_lt', m_le', m_eq, m_eq', m_add, m_sub, mm_lt, mm_le, mm_eq, q_sub, nI_add, q_mul, nI_clamp, bz_0, bz_1, q_bzb, b_0, b_1, b_ft, b_tf, ne_eq, not_true_eq_false, not_false_eq_true, decide_true, decide_false, Bool.and_self, Bool.false_and, Bool.and_false, Bool.and_true, Bool.true_and, Bool.not_true, Bool.not_false, ↓reduceIte]
theorem cs_own (hI : Inv h N xs) (hi : i + 6 ≤ N) (hN : N ≤ 3072) : stP N xs d i (EX (d + 60) 250 601 [z_R 7 0, z_R 10090 0, z_R 49100 0, z_I (nI i)] [] h) := by
  obtain ⟨s1, s2⟩ := I_sc hI
  obtain ⟨r, h1, h2, e1, e2, I2⟩ := op_own d hI (xs (i + 1)) (xs (i + 2))
  have g7 := Rn_g7 (d + 60) _ _ _ _ _ e1
  have t1 : gN h1 7 = N := g7.2.trans s1
  have t2 : ∀ k, gI h1 7 0 k = xs k := fun k => (g7.1 k).trans (s2 k)
  refine ⟨h2, I2, ?_⟩
  rw [bL_law_601]
  simp (disch := first | omega | rfl | assumption) only [s1, s2, e1, t1, t2, e2, bL_law_615, bL_law_629, bL_law_1806, eq_self, q_cl, q_ps, q_pn, bI_t, bI_f, gI_same, gI_ne, gR_pI, gJ_pI, gV_pI, gN_pI, gC_pI, gS_pI, gI_pJ, gR_pJ, gV_pJ, gN_pJ, gJ_same, gJ_ne, gI_pR, gJ_pR, gV_pR, gN_pR, gR_same, gR_ne, zin_t, zin_f, x_ltt, x_ltf, x_let, x_lef, x_eqt, x_eqf, n_0, n_1, n_2, n_3, n_4, n_5, n_6, n_7, n_8, n_9, n_10, n_11, n_12, n_16, n_19, n_20, n_24, n_25, n_32, n_40, n_48, n_50, n_60, n_64, n_80, n_96, n_114, n_684, n_1000, n_9330, n_16806, n_1000000, n_5764800, ↓n_m, m_ltI, m_leI, m_lt', m_le', m_eq, m_eq', m_add, m_sub, mm_lt, mm_le, mm_eq, q_sub, nI_add, q_mul, nI_clamp, bz_0, bz_1, q_bzb, b_0, b_1, b_ft, b_tf, ne_eq, not_true_eq_false, not_false_eq_true, decide_true, decide_false, Bool.and_self, Bool.false_and, Bool.and_false, Bool.and_true, Bool.true_and, Bool.not_true, Bool.not_false, ↓reduceIte]
theorem cs_form (hI : Inv h N xs) (hi : i + 6 ≤ N) (hN : N ≤ 3072) : stP N xs d i (EX (d + 60) 250 634 [z_R 7 0, z_R 10090 0, z_R 49100 0, z_I (nI i)] [] h) := by
  obtain ⟨s1, s2⟩ := I_sc hI
  obtain ⟨r, h1, h2, e1, e2, I2⟩ := op_form d hI (xs (i + 1)) (xs (i + 2))
  have g7 := Rn_g7 (d + 60) _ _ _ _ _ e1
  have t1 : gN h1 7 = N := g7.2.trans s1
  have t2 : ∀ k, gI h1 7 0 k = xs k := fun k => (g7.1 k).trans (s2 k)
  refine ⟨h2, I2, ?_⟩
  rw [bL_law_634]
  simp (disch := first | omega | rfl | assumption) only [s1, s2, e1, t1, t2, e2, bL_law_648, bL_law_662, bL_law_1806, eq_self, q_cl, q_ps, q_pn, bI_t, bI_f, gI_same, gI_ne, gR_pI, gJ_pI, gV_pI, gN_pI, gC_pI, gS_pI, gI_pJ, gR_pJ, gV_pJ, gN_pJ, gJ_same, gJ_ne, gI_pR, gJ_pR, gV_pR, gN_pR, gR_same, gR_ne, zin_t, zin_f, x_ltt, x_ltf, x_let, x_lef, x_eqt, x_eqf, n_0, n_1, n_2, n_3, n_4, n_5, n_6, n_7, n_8, n_9, n_10, n_11, n_12, n_16, n_19, n_20, n_24, n_25, n_32, n_40, n_48, n_50, n_60, n_64, n_80, n_96, n_114, n_684, n_1000, n_9330, n_16806, n_1000000, n_5764800, ↓n_m, m_ltI, m_leI, m_lt', m_le', m_eq, m_eq', m_add, m_sub, mm_lt, mm_le, mm_eq, q_sub, nI_add, q_mul, nI_clamp, bz_0, bz_1, q_bzb, b_0, b_1, b_ft, b_tf, ne_eq, not_true_eq_false, not_false_eq_true, decide_true, decide_false, Bool.and_self, Bool.false_and, Bool.and_false, Bool.and_true, Bool.true_and, Bool.not_true, Bool.not_false, ↓reduceIte]
theorem cs_order (hI : Inv h N xs) (hi : i + 6 ≤ N) (hN : N ≤ 3072) : stP N xs d i (EX (d + 60) 250 667 [z_R 7 0, z_R 10090 0, z_R 49100 0, z_I (nI i)] [] h) := by
  obtain ⟨s1, s2⟩ := I_sc hI
  obtain ⟨r, h1, h2, e1, e2, I2⟩ := op_order d hI (xs (i + 1)) (xs (i + 2))
  have g7 := Rn_g7 (d + 60) _ _ _ _ _ e1
  have t1 : gN h1 7 = N := g7.2.trans s1
  have t2 : ∀ k, gI h1 7 0 k = xs k := fun k => (g7.1 k).trans (s2 k)
  refine ⟨h2, I2, ?_⟩
  rw [bL_law_667]
  simp (disch := first | omega | rfl | assumption) only [s1, s2, e1, t1, t2, e2, bL_law_681, bL_law_695, bL_law_1806, eq_self, q_cl, q_ps, q_pn, bI_t, bI_f, gI_same, gI_ne, gR_pI, gJ_pI, gV_pI, gN_pI, gC_pI, gS_pI, gI_pJ, gR_pJ, gV_pJ, gN_pJ, gJ_same, gJ_ne, gI_pR, gJ_pR, gV_pR, gN_pR, gR_same, gR_ne, zin_t, zin_f, x_ltt, x_ltf, x_let, x_lef, x_eqt, x_eqf, n_0, n_1, n_2, n_3, n_4, n_5, n_6, n_7, n_8, n_9, n_10, n_11, n_12, n_16, n_19, n_20, n_24, n_25, n_32, n_40, n_48, n_50, n_60, n_64, n_80, n_96, n_114, n_684, n_1000, n_9330, n_16806, n_1000000, n_5764800, ↓n_m, m_ltI, m_leI, m_lt', m_le', m_eq, m_eq', m_add, m_sub, mm_lt, mm_le, mm_eq, q_sub, nI_add, q_mul, nI_clamp, bz_0, bz_1, q_bzb, b_0, b_1, b_ft, b_tf, ne_eq, not_true_eq_false, not_false_eq_true, decide_true, decide_false, Bool.and_self, Bool.false_and, Bool.and_false, Bool.and_true, Bool.true_and, Bool.not_true, Bool.not_false, ↓reduceIte]
theorem cs_script (hI : Inv h N xs) (hi : i + 6 ≤ N) (hN : N ≤ 3072) : stP N xs d i (EX (d + 60) 250 700 [z_R 7 0, z_R 10090 0, z_R 49100 0, z_I (nI i)] [] h) := by
  obtain ⟨s1, s2⟩ := I_sc hI
  obtain ⟨r, h1, h2, e1, e2, I2⟩ := op_script d hI (xs (i + 1)) (xs (i + 2)) (xs (i + 3))
  have g7 := Rn_g7 (d + 60) _ _ _ _ _ e1
  have t1 : gN h1 7 = N := g7.2.trans s1
  have t2 : ∀ k, gI h1 7 0 k = xs k := fun k => (g7.1 k).trans (s2 k)
  refine ⟨h2, I2, ?_⟩
  rw [bL_law_700]
  simp (disch := first | omega | rfl | assumption) only [s1, s2, e1, t1, t2, e2, bL_law_719, bL_law_738, bL_law_1806, eq_self, q_cl, q_ps, q_pn, bI_t, bI_f, gI_same, gI_ne, gR_pI, gJ_pI, gV_pI, gN_pI, gC_pI, gS_pI, gI_pJ, gR_pJ, gV_pJ, gN_pJ, gJ_same, gJ_ne, gI_pR, gJ_pR, gV_pR, gN_pR, gR_same, gR_ne, zin_t, zin_f, x_ltt, x_ltf, x_let, x_lef, x_eqt, x_eqf, n_0, n_1, n_2, n_3, n_4, n_5, n_6, n_7, n_8, n_9, n_10, n_11, n_12, n_16, n_19, n_20, n_24, n_25, n_32, n_40, n_48, n_50, n_60, n_64, n_80, n_96, n_114, n_684, n_1000, n_9330, n_16806, n_1000000, n_5764800, ↓n_m, m_ltI, m_leI, m_lt', m_le', m_eq, m_eq', m_add, m_sub, mm_lt, mm_le, mm_eq, q_sub, nI_add, q_mul, nI_clamp, bz_0, bz_1, q_bzb, b_0, b_1, b_ft, b_tf, ne_eq, not_true_eq_false, not_false_eq_true, decide_true, decide_false, Bool.and_self, Bool.false_and, Bool.and_false, Bool.and_true, Bool.true_and, Bool.not_true, Bool.not_false, ↓reduceIte]
theorem cs_written (hI : Inv h N xs) (hi : i + 6 ≤ N) (hN : N ≤ 3072) : stP N xs d i (EX (d + 60) 250 743 [z_R 7 0, z_R 10090 0, z_R 49100 0, z_I (nI i)] [] h) := by
  obtain ⟨s1, s2⟩ := I_sc hI
  obtain ⟨r, h1, h2, e1, e2, I2⟩ := op_written d hI (xs (i + 1)) (xs (i + 2))
  have g7 := Rn_g7 (d + 60) _ _ _ _ _ e1
  have t1 : gN h1 7 = N := g7.2.trans s1
  have t2 : ∀ k, gI h1 7 0 k = xs k := fun k => (g7.1 k).trans (s2 k)
  refine ⟨h2, I2, ?_⟩
  rw [bL_law_743]
  simp (disch := first | omega | rfl | assumption) only [s1, s2, e1, t1, t2, e2, bL_law_757, bL_law_771, bL_law_1806, eq_self, q_cl, q_ps, q_pn, bI_t, bI_f, gI_same, gI_ne, gR_pI, gJ_pI, gV_pI, gN_pI, gC_pI, gS_pI, gI_pJ, gR_pJ, gV_pJ, gN_pJ, gJ_same, gJ_ne, gI_pR, gJ_pR, gV_pR, gN_pR, gR_same, gR_ne, zin_t, zin_f, x_ltt, x_ltf, x_let, x_lef, x_eqt, x_eqf, n_0, n_1, n_2, n_3, n_4, n_5, n_6, n_7, n_8, n_9, n_10, n_11, n_12, n_16, n_19, n_20, n_24, n_25, n_32, n_40, n_48, n_50, n_60, n_64, n_80, n_96, n_114, n_684, n_1000, n_9330, n_16806, n_1000000, n_5764800, ↓n_m, m_ltI, m_leI, m_lt', m_le', m_eq, m_eq', m_add, m_sub, mm_lt, mm_le, mm_eq, q_sub, nI_add, q_mul, nI_clamp, bz_0, bz_1, q_bzb, b_0, b_1, b_ft, b_tf, ne_eq, not_true_eq_false, not_false_eq_true, decide_true, decide_false, Bool.and_self, Bool.false_and, Bool.and_false, Bool.and_true, Bool.true_and, Bool.not_true, Bool.not_false, ↓reduceIte]
theorem cs_back (hI : Inv h N xs) (hi : i + 6 ≤ N) (hN : N ≤ 3072) : stP N xs d i (EX (d + 60) 250 776 [z_R 7 0, z_R 10090 0, z_R 49100 0, z_I (nI i)] [] h) := by
  obtain ⟨s1, s2⟩ := I_sc hI
  obtain ⟨r, h1, h2, e1, e2, I2⟩ := op_back d hI (xs (i + 1)) (xs (i + 2))
  have g7 := Rn_g7 (d + 60) _ _ _ _ _ e1
  have t1 : gN h1 7 = N := g7.2.trans s1
  have t2 : ∀ k, gI h1 7 0 k = xs k := fun k => (g7.1 k).trans (s2 k)
  refine ⟨h2, I2, ?_⟩
  rw [bL_law_776]
  simp (disch := first | omega | rfl | assumption) only [s1, s2, e1, t1, t2, e2, bL_law_790, bL_law_804, bL_law_1806, eq_self, q_cl, q_ps, q_pn, bI_t, bI_f, gI_same, gI_ne, gR_pI, gJ_pI, gV_pI, gN_pI, gC_pI, gS_pI, gI_pJ, gR_pJ, gV_pJ, gN_pJ, gJ_same, gJ_ne, gI_pR, gJ_pR, gV_pR, gN_pR, gR_same, gR_ne, zin_t, zin_f, x_ltt, x_ltf, x_let, x_lef, x_eqt, x_eqf, n_0, n_1, n_2, n_3, n_4, n_5, n_6, n_7, n_8, n_9, n_10, n_11, n_12, n_16, n_19, n_20, n_24, n_25, n_32, n_40, n_48, n_50, n_60, n_64, n_80, n_96, n_114, n_684, n_1000, n_9330, n_16806, n_1000000, n_5764800, ↓n_m, m_ltI, m_leI, m_lt', m_le', m_eq, m_eq', m_add, m_sub, mm_lt, mm_le, mm_eq, q_sub, nI_add, q_mul, nI_clamp, bz_0, bz_1, q_bzb, b_0, b_1, b_ft, b_tf, ne_eq, not_true_eq_false, not_false_eq_true, decide_true, decide_false, Bool.and_self, Bool.false_and, Bool.and_false, Bool.and_true, Bool.true_and, Bool.not_true, Bool.not_false, ↓reduceIte]
theorem cs_stem (hI : Inv h N xs) (hi : i + 6 ≤ N) (hN : N ≤ 3072) : stP N xs d i (EX (d + 60) 250 809 [z_R 7 0, z_R 10090 0, z_R 49100 0, z_I (nI i)] [] h) := by
  obtain ⟨s1, s2⟩ := I_sc hI
  obtain ⟨r, h1, h2, e1, e2, I2⟩ := op_stem d hI (xs (i + 1)) (xs (i + 2)) (xs (i + 3))
  have g7 := Rn_g7 (d + 60) _ _ _ _ _ e1
  have t1 : gN h1 7 = N := g7.2.trans s1
  have t2 : ∀ k, gI h1 7 0 k = xs k := fun k => (g7.1 k).trans (s2 k)
  refine ⟨h2, I2, ?_⟩
  rw [bL_law_809]
  simp (disch := first | omega | rfl | assumption) only [s1, s2, e1, t1, t2, e2, bL_law_828, bL_law_847, bL_law_1806, eq_self, q_cl, q_ps, q_pn, bI_t, bI_f, gI_same, gI_ne, gR_pI, gJ_pI, gV_pI, gN_pI, gC_pI, gS_pI, gI_pJ, gR_pJ, gV_pJ, gN_pJ, gJ_same, gJ_ne, gI_pR, gJ_pR, gV_pR, gN_pR, gR_same, gR_ne, zin_t, zin_f, x_ltt, x_ltf, x_let, x_lef, x_eqt, x_eqf, n_0, n_1, n_2, n_3, n_4, n_5, n_6, n_7, n_8, n_9, n_10, n_11, n_12, n_16, n_19, n_20, n_24, n_25, n_32, n_40, n_48, n_50, n_60, n_64, n_80, n_96, n_114, n_684, n_1000, n_9330, n_16806, n_1000000, n_5764800, ↓n_m, m_ltI, m_leI, m_lt', m_le', m_eq, m_eq', m_add, m_sub, mm_lt, mm_le, mm_eq, q_sub, nI_add, q_mul, nI_clamp, bz_0, bz_1, q_bzb, b_0, b_1, b_ft, b_tf, ne_eq, not_true_eq_false, not_false_eq_true, decide_true, decide_false, Bool.and_self, Bool.false_and, Bool.and_false, Bool.and_true, Bool.true_and, Bool.not_true, Bool.not_false, ↓reduceIte]
theorem cs_match (hI : Inv h N xs) (hi : i + 6 ≤ N) (hN : N ≤ 3072) : stP N xs d i (EX (d + 60) 250 852 [z_R 7 0, z_R 10090 0, z_R 49100 0, z_I (nI i)] [] h) := by
  obtain ⟨s1, s2⟩ := I_sc hI
  obtain ⟨r, h1, h2, e1, e2, I2⟩ := op_match d hI 
  have g7 := Rn_g7 (d + 60) _ _ _ _ _ e1
  have t1 : gN h1 7 = N := g7.2.trans s1
  have t2 : ∀ k, gI h1 7 0 k = xs k := fun k => (g7.1 k).trans (s2 k)
  refine ⟨h2, I2, ?_⟩
  rw [bL_law_852]
  simp (disch := first | omega | rfl | assumption) only [s1, s2, e1, t1, t2, e2, bL_law_856, bL_law_860, bL_law_1806, eq_self, q_cl, q_ps, q_pn, bI_t, bI_f, gI_same, gI_ne, gR_pI, gJ_pI, gV_pI, gN_pI, gC_pI, gS_pI, gI_pJ, gR_pJ, gV_pJ, gN_pJ, gJ_same, gJ_ne, gI_pR, gJ_pR, gV_pR, gN_pR, gR_same, gR_ne, zin_t, zin_f, x_ltt, x_ltf, x_let, x_lef, x_eqt, x_eqf, n_0, n_1, n_2, n_3, n_4, n_5, n_6, n_7, n_8, n_9, n_10, n_11, n_12, n_16, n_19, n_20, n_24, n_25, n_32, n_40, n_48, n_50, n_60, n_64, n_80, n_96, n_114, n_684, n_1000, n_9330, n_16806, n_1000000, n_5764800, ↓n_m, m_ltI, m_leI, m_lt', m_le', m_eq, m_eq', m_add, m_sub, mm_lt, mm_le, mm_eq, q_sub, nI_add, q_mul, nI_clamp, bz_0, bz_1, q_bzb, b_0, b_1, b_ft, b_tf, ne_eq, not_true_eq_false, not_false_eq_true, decide_true, decide_false, Bool.and_self, Bool.false_and, Bool.and_false, Bool.and_true, Bool.true_and, Bool.not_true, Bool.not_false, ↓reduceIte]
theorem cs_find (hI : Inv h N xs) (hi : i + 6 ≤ N) (hN : N ≤ 3072) : stP N xs d i (EX (d + 60) 250 865 [z_R 7 0, z_R 10090 0, z_R 49100 0, z_I (nI i)] [] h) := by
  obtain ⟨s1, s2⟩ := I_sc hI
  obtain ⟨r, h1, h2, e1, e2, I2⟩ := op_find d hI (xs (i + 1)) (xs (i + 2)) (xs (i + 3)) (xs (i + 4))
  have g7 := Rn_g7 (d + 60) _ _ _ _ _ e1
  have t1 : gN h1 7 = N := g7.2.trans s1
  have t2 : ∀ k, gI h1 7 0 k = xs k := fun k => (g7.1 k).trans (s2 k)
  refine ⟨h2, I2, ?_⟩
  rw [bL_law_865]
  simp (disch := first | omega | rfl | assumption) only [s1, s2, e1, t1, t2, e2, bL_law_889, bL_law_913, bL_law_1806, eq_self, q_cl, q_ps, q_pn, bI_t, bI_f, gI_same, gI_ne, gR_pI, gJ_pI, gV_pI, gN_pI, gC_pI, gS_pI, gI_pJ, gR_pJ, gV_pJ, gN_pJ, gJ_same, gJ_ne, gI_pR, gJ_pR, gV_pR, gN_pR, gR_same, gR_ne, zin_t, zin_f, x_ltt, x_ltf, x_let, x_lef, x_eqt, x_eqf, n_0, n_1, n_2, n_3, n_4, n_5, n_6, n_7, n_8, n_9, n_10, n_11, n_12, n_16, n_19, n_20, n_24, n_25, n_32, n_40, n_48, n_50, n_60, n_64, n_80, n_96, n_114, n_684, n_1000, n_9330, n_16806, n_1000000, n_5764800, ↓n_m, m_ltI, m_leI, m_lt', m_le', m_eq, m_eq', m_add, m_sub, mm_lt, mm_le, mm_eq, q_sub, nI_add, q_mul, nI_clamp, bz_0, bz_1, q_bzb, b_0, b_1, b_ft, b_tf, ne_eq, not_true_eq_false, not_false_eq_true, decide_true, decide_false, Bool.and_self, Bool.false_and, Bool.and_false, Bool.and_true, Bool.true_and, Bool.not_true, Bool.not_false, ↓reduceIte]
theorem cs_known (hI : Inv h N xs) (hi : i + 6 ≤ N) (hN : N ≤ 3072) : stP N xs d i (EX (d + 60) 250 918 [z_R 7 0, z_R 10090 0, z_R 49100 0, z_I (nI i)] [] h) := by
  obtain ⟨s1, s2⟩ := I_sc hI
  obtain ⟨r, h1, h2, e1, e2, I2⟩ := op_known d hI (xs (i + 1)) (xs (i + 2)) (xs (i + 3))
  have g7 := Rn_g7 (d + 60) _ _ _ _ _ e1
  have t1 : gN h1 7 = N := g7.2.trans s1
  have t2 : ∀ k, gI h1 7 0 k = xs k := fun k => (g7.1 k).trans (s2 k)
  refine ⟨h2, I2, ?_⟩
  rw [bL_law_918]
  simp (disch := first | omega | rfl | assumption) only [s1, s2, e1, t1, t2, e2, bL_law_937, bL_law_956, bL_law_1806, eq_self, q_cl, q_ps, q_pn, bI_t, bI_f, gI_same, gI_ne, gR_pI, gJ_pI, gV_pI, gN_pI, gC_pI, gS_pI, gI_pJ, gR_pJ, gV_pJ, gN_pJ, gJ_same, gJ_ne, gI_pR, gJ_pR, gV_pR, gN_pR, gR_same, gR_ne, zin_t, zin_f, x_ltt, x_ltf, x_let, x_lef, x_eqt, x_eqf, n_0, n_1, n_2, n_3, n_4, n_5, n_6, n_7, n_8, n_9, n_10, n_11, n_12, n_16, n_19, n_20, n_24, n_25, n_32, n_40, n_48, n_50, n_60, n_64, n_80, n_96, n_114, n_684, n_1000, n_9330, n_16806, n_1000000, n_5764800, ↓n_m, m_ltI, m_leI, m_lt', m_le', m_eq, m_eq', m_add, m_sub, mm_lt, mm_le, mm_eq, q_sub, nI_add, q_mul, nI_clamp, bz_0, bz_1, q_bzb, b_0, b_1, b_ft, b_tf, ne_eq, not_true_eq_false, not_false_eq_true, decide_true, decide_false, Bool.and_self, Bool.false_and, Bool.and_false, Bool.and_true, Bool.true_and, Bool.not_true, Bool.not_false, ↓reduceIte]
theorem cs_mothers (hI : Inv h N xs) (hi : i + 6 ≤ N) (hN : N ≤ 3072) : stP N xs d i (EX (d + 60) 250 961 [z_R 7 0, z_R 10090 0, z_R 49100 0, z_I (nI i)] [] h) := by
  obtain ⟨s1, s2⟩ := I_sc hI
  obtain ⟨r, h1, h2, e1, e2, I2⟩ := op_mothers d hI (xs (i + 1)) (xs (i + 2))
  have g7 := Rn_g7 (d + 60) _ _ _ _ _ e1
  have t1 : gN h1 7 = N := g7.2.trans s1
  have t2 : ∀ k, gI h1 7 0 k = xs k := fun k => (g7.1 k).trans (s2 k)
  refine ⟨h2, I2, ?_⟩
  rw [bL_law_961]
  simp (disch := first | omega | rfl | assumption) only [s1, s2, e1, t1, t2, e2, bL_law_975, bL_law_989, bL_law_1806, eq_self, q_cl, q_ps, q_pn, bI_t, bI_f, gI_same, gI_ne, gR_pI, gJ_pI, gV_pI, gN_pI, gC_pI, gS_pI, gI_pJ, gR_pJ, gV_pJ, gN_pJ, gJ_same, gJ_ne, gI_pR, gJ_pR, gV_pR, gN_pR, gR_same, gR_ne, zin_t, zin_f, x_ltt, x_ltf, x_let, x_lef, x_eqt, x_eqf, n_0, n_1, n_2, n_3, n_4, n_5, n_6, n_7, n_8, n_9, n_10, n_11, n_12, n_16, n_19, n_20, n_24, n_25, n_32, n_40, n_48, n_50, n_60, n_64, n_80, n_96, n_114, n_684, n_1000, n_9330, n_16806, n_1000000, n_5764800, ↓n_m, m_ltI, m_leI, m_lt', m_le', m_eq, m_eq', m_add, m_sub, mm_lt, mm_le, mm_eq, q_sub, nI_add, q_mul, nI_clamp, bz_0, bz_1, q_bzb, b_0, b_1, b_ft, b_tf, ne_eq, not_true_eq_false, not_false_eq_true, decide_true, decide_false, Bool.and_self, Bool.false_and, Bool.and_false, Bool.and_true, Bool.true_and, Bool.not_true, Bool.not_false, ↓reduceIte]
theorem cs_mother (hI : Inv h N xs) (hi : i + 6 ≤ N) (hN : N ≤ 3072) : stP N xs d i (EX (d + 60) 250 994 [z_R 7 0, z_R 10090 0, z_R 49100 0, z_I (nI i)] [] h) := by
  obtain ⟨s1, s2⟩ := I_sc hI
  obtain ⟨r, h1, h2, e1, e2, I2⟩ := op_mother d hI (xs (i + 1)) (xs (i + 2)) (xs (i + 3))
  have g7 := Rn_g7 (d + 60) _ _ _ _ _ e1
  have t1 : gN h1 7 = N := g7.2.trans s1
  have t2 : ∀ k, gI h1 7 0 k = xs k := fun k => (g7.1 k).trans (s2 k)
  refine ⟨h2, I2, ?_⟩
  rw [bL_law_994]
  simp (disch := first | omega | rfl | assumption) only [s1, s2, e1, t1, t2, e2, bL_law_1013, bL_law_1032, bL_law_1806, eq_self, q_cl, q_ps, q_pn, bI_t, bI_f, gI_same, gI_ne, gR_pI, gJ_pI, gV_pI, gN_pI, gC_pI, gS_pI, gI_pJ, gR_pJ, gV_pJ, gN_pJ, gJ_same, gJ_ne, gI_pR, gJ_pR, gV_pR, gN_pR, gR_same, gR_ne, zin_t, zin_f, x_ltt, x_ltf, x_let, x_lef, x_eqt, x_eqf, n_0, n_1, n_2, n_3, n_4, n_5, n_6, n_7, n_8, n_9, n_10, n_11, n_12, n_16, n_19, n_20, n_24, n_25, n_32, n_40, n_48, n_50, n_60, n_64, n_80, n_96, n_114, n_684, n_1000, n_9330, n_16806, n_1000000, n_5764800, ↓n_m, m_ltI, m_leI, m_lt', m_le', m_eq, m_eq', m_add, m_sub, mm_lt, mm_le, mm_eq, q_sub, nI_add, q_mul, nI_clamp, bz_0, bz_1, q_bzb, b_0, b_1, b_ft, b_tf, ne_eq, not_true_eq_false, not_false_eq_true, decide_true, decide_false, Bool.and_self, Bool.false_and, Bool.and_false, Bool.and_true, Bool.true_and, Bool.not_true, Bool.not_false, ↓reduceIte]
theorem cs_doubt (hI : Inv h N xs) (hi : i + 6 ≤ N) (hN : N ≤ 3072) : stP N xs d i (EX (d + 60) 250 1037 [z_R 7 0, z_R 10090 0, z_R 49100 0, z_I (nI i)] [] h) := by
  obtain ⟨s1, s2⟩ := I_sc hI
  obtain ⟨r, h1, h2, e1, e2, I2⟩ := op_doubt d hI (xs (i + 1)) (xs (i + 2)) (xs (i + 3))
  have g7 := Rn_g7 (d + 60) _ _ _ _ _ e1
  have t1 : gN h1 7 = N := g7.2.trans s1
  have t2 : ∀ k, gI h1 7 0 k = xs k := fun k => (g7.1 k).trans (s2 k)
  refine ⟨h2, I2, ?_⟩
  rw [bL_law_1037]
  simp (disch := first | omega | rfl | assumption) only [s1, s2, e1, t1, t2, e2, bL_law_1056, bL_law_1075, bL_law_1806, eq_self, q_cl, q_ps, q_pn, bI_t, bI_f, gI_same, gI_ne, gR_pI, gJ_pI, gV_pI, gN_pI, gC_pI, gS_pI, gI_pJ, gR_pJ, gV_pJ, gN_pJ, gJ_same, gJ_ne, gI_pR, gJ_pR, gV_pR, gN_pR, gR_same, gR_ne, zin_t, zin_f, x_ltt, x_ltf, x_let, x_lef, x_eqt, x_eqf, n_0, n_1, n_2, n_3, n_4, n_5, n_6, n_7, n_8, n_9, n_10, n_11, n_12, n_16, n_19, n_20, n_24, n_25, n_32, n_40, n_48, n_50, n_60, n_64, n_80, n_96, n_114, n_684, n_1000, n_9330, n_16806, n_1000000, n_5764800, ↓n_m, m_ltI, m_leI, m_lt', m_le', m_eq, m_eq', m_add, m_sub, mm_lt, mm_le, mm_eq, q_sub, nI_add, q_mul, nI_clamp, bz_0, bz_1, q_bzb, b_0, b_1, b_ft, b_tf, ne_eq, not_true_eq_false, not_false_eq_true, decide_true, decide_false, Bool.and_self, Bool.false_and, Bool.and_false, Bool.and_true, Bool.true_and, Bool.not_true, Bool.not_false, ↓reduceIte]
theorem cs_best (hI : Inv h N xs) (hi : i + 6 ≤ N) (hN : N ≤ 3072) : stP N xs d i (EX (d + 60) 250 1080 [z_R 7 0, z_R 10090 0, z_R 49100 0, z_I (nI i)] [] h) := by
  obtain ⟨s1, s2⟩ := I_sc hI
  obtain ⟨r, h1, h2, e1, e2, I2⟩ := op_best d hI (xs (i + 1)) (xs (i + 2))
  have g7 := Rn_g7 (d + 60) _ _ _ _ _ e1
  have t1 : gN h1 7 = N := g7.2.trans s1
  have t2 : ∀ k, gI h1 7 0 k = xs k := fun k => (g7.1 k).trans (s2 k)
  refine ⟨h2, I2, ?_⟩
  rw [bL_law_1080]
  simp (disch := first | omega | rfl | assumption) only [s1, s2, e1, t1, t2, e2, bL_law_1094, bL_law_1108, bL_law_1806, eq_self, q_cl, q_ps, q_pn, bI_t, bI_f, gI_same, gI_ne, gR_pI, gJ_pI, gV_pI, gN_pI, gC_pI, gS_pI, gI_pJ, gR_pJ, gV_pJ, gN_pJ, gJ_same, gJ_ne, gI_pR, gJ_pR, gV_pR, gN_pR, gR_same, gR_ne, zin_t, zin_f, x_ltt, x_ltf, x_let, x_lef, x_eqt, x_eqf, n_0, n_1, n_2, n_3, n_4, n_5, n_6, n_7, n_8, n_9, n_10, n_11, n_12, n_16, n_19, n_20, n_24, n_25, n_32, n_40, n_48, n_50, n_60, n_64, n_80, n_96, n_114, n_684, n_1000, n_9330, n_16806, n_1000000, n_5764800, ↓n_m, m_ltI, m_leI, m_lt', m_le', m_eq, m_eq', m_add, m_sub, mm_lt, mm_le, mm_eq, q_sub, nI_add, q_mul, nI_clamp, bz_0, bz_1, q_bzb, b_0, b_1, b_ft, b_tf, ne_eq, not_true_eq_false, not_false_eq_true, decide_true, decide_false, Bool.and_self, Bool.false_and, Bool.and_false, Bool.and_true, Bool.true_and, Bool.not_true, Bool.not_false, ↓reduceIte]
theorem cs_breakers (hI : Inv h N xs) (hi : i + 6 ≤ N) (hN : N ≤ 3072) : stP N xs d i (EX (d + 60) 250 1113 [z_R 7 0, z_R 10090 0, z_R 49100 0, z_I (nI i)] [] h) := by
  obtain ⟨s1, s2⟩ := I_sc hI
  obtain ⟨r, h1, h2, e1, e2, I2⟩ := op_breakers d hI (xs (i + 1)) (xs (i + 2))
  have g7 := Rn_g7 (d + 60) _ _ _ _ _ e1
  have t1 : gN h1 7 = N := g7.2.trans s1
  have t2 : ∀ k, gI h1 7 0 k = xs k := fun k => (g7.1 k).trans (s2 k)
  refine ⟨h2, I2, ?_⟩
  rw [bL_law_1113]
  simp (disch := first | omega | rfl | assumption) only [s1, s2, e1, t1, t2, e2, bL_law_1127, bL_law_1141, bL_law_1806, eq_self, q_cl, q_ps, q_pn, bI_t, bI_f, gI_same, gI_ne, gR_pI, gJ_pI, gV_pI, gN_pI, gC_pI, gS_pI, gI_pJ, gR_pJ, gV_pJ, gN_pJ, gJ_same, gJ_ne, gI_pR, gJ_pR, gV_pR, gN_pR, gR_same, gR_ne, zin_t, zin_f, x_ltt, x_ltf, x_let, x_lef, x_eqt, x_eqf, n_0, n_1, n_2, n_3, n_4, n_5, n_6, n_7, n_8, n_9, n_10, n_11, n_12, n_16, n_19, n_20, n_24, n_25, n_32, n_40, n_48, n_50, n_60, n_64, n_80, n_96, n_114, n_684, n_1000, n_9330, n_16806, n_1000000, n_5764800, ↓n_m, m_ltI, m_leI, m_lt', m_le', m_eq, m_eq', m_add, m_sub, mm_lt, mm_le, mm_eq, q_sub, nI_add, q_mul, nI_clamp, bz_0, bz_1, q_bzb, b_0, b_1, b_ft, b_tf, ne_eq, not_true_eq_false, not_false_eq_true, decide_true, decide_false, Bool.and_self, Bool.false_and, Bool.and_false, Bool.and_true, Bool.true_and, Bool.not_true, Bool.not_false, ↓reduceIte]
theorem cs_lent (hI : Inv h N xs) (hi : i + 6 ≤ N) (hN : N ≤ 3072) : stP N xs d i (EX (d + 60) 250 1146 [z_R 7 0, z_R 10090 0, z_R 49100 0, z_I (nI i)] [] h) := by
  obtain ⟨s1, s2⟩ := I_sc hI
  obtain ⟨r, h1, h2, e1, e2, I2⟩ := op_lent d hI (xs (i + 1)) (xs (i + 2)) (xs (i + 3))
  have g7 := Rn_g7 (d + 60) _ _ _ _ _ e1
  have t1 : gN h1 7 = N := g7.2.trans s1
  have t2 : ∀ k, gI h1 7 0 k = xs k := fun k => (g7.1 k).trans (s2 k)
  refine ⟨h2, I2, ?_⟩
  rw [bL_law_1146]
  simp (disch := first | omega | rfl | assumption) only [s1, s2, e1, t1, t2, e2, bL_law_1165, bL_law_1184, bL_law_1806, eq_self, q_cl, q_ps, q_pn, bI_t, bI_f, gI_same, gI_ne, gR_pI, gJ_pI, gV_pI, gN_pI, gC_pI, gS_pI, gI_pJ, gR_pJ, gV_pJ, gN_pJ, gJ_same, gJ_ne, gI_pR, gJ_pR, gV_pR, gN_pR, gR_same, gR_ne, zin_t, zin_f, x_ltt, x_ltf, x_let, x_lef, x_eqt, x_eqf, n_0, n_1, n_2, n_3, n_4, n_5, n_6, n_7, n_8, n_9, n_10, n_11, n_12, n_16, n_19, n_20, n_24, n_25, n_32, n_40, n_48, n_50, n_60, n_64, n_80, n_96, n_114, n_684, n_1000, n_9330, n_16806, n_1000000, n_5764800, ↓n_m, m_ltI, m_leI, m_lt', m_le', m_eq, m_eq', m_add, m_sub, mm_lt, mm_le, mm_eq, q_sub, nI_add, q_mul, nI_clamp, bz_0, bz_1, q_bzb, b_0, b_1, b_ft, b_tf, ne_eq, not_true_eq_false, not_false_eq_true, decide_true, decide_false, Bool.and_self, Bool.false_and, Bool.and_false, Bool.and_true, Bool.true_and, Bool.not_true, Bool.not_false, ↓reduceIte]
theorem cs_leans (hI : Inv h N xs) (hi : i + 6 ≤ N) (hN : N ≤ 3072) : stP N xs d i (EX (d + 60) 250 1189 [z_R 7 0, z_R 10090 0, z_R 49100 0, z_I (nI i)] [] h) := by
  obtain ⟨s1, s2⟩ := I_sc hI
  obtain ⟨r, h1, h2, e1, e2, I2⟩ := op_leans d hI (xs (i + 1)) (xs (i + 2))
  have g7 := Rn_g7 (d + 60) _ _ _ _ _ e1
  have t1 : gN h1 7 = N := g7.2.trans s1
  have t2 : ∀ k, gI h1 7 0 k = xs k := fun k => (g7.1 k).trans (s2 k)
  refine ⟨h2, I2, ?_⟩
  rw [bL_law_1189]
  simp (disch := first | omega | rfl | assumption) only [s1, s2, e1, t1, t2, e2, bL_law_1203, bL_law_1217, bL_law_1806, eq_self, q_cl, q_ps, q_pn, bI_t, bI_f, gI_same, gI_ne, gR_pI, gJ_pI, gV_pI, gN_pI, gC_pI, gS_pI, gI_pJ, gR_pJ, gV_pJ, gN_pJ, gJ_same, gJ_ne, gI_pR, gJ_pR, gV_pR, gN_pR, gR_same, gR_ne, zin_t, zin_f, x_ltt, x_ltf, x_let, x_lef, x_eqt, x_eqf, n_0, n_1, n_2, n_3, n_4, n_5, n_6, n_7, n_8, n_9, n_10, n_11, n_12, n_16, n_19, n_20, n_24, n_25, n_32, n_40, n_48, n_50, n_60, n_64, n_80, n_96, n_114, n_684, n_1000, n_9330, n_16806, n_1000000, n_5764800, ↓n_m, m_ltI, m_leI, m_lt', m_le', m_eq, m_eq', m_add, m_sub, mm_lt, mm_le, mm_eq, q_sub, nI_add, q_mul, nI_clamp, bz_0, bz_1, q_bzb, b_0, b_1, b_ft, b_tf, ne_eq, not_true_eq_false, not_false_eq_true, decide_true, decide_false, Bool.and_self, Bool.false_and, Bool.and_false, Bool.and_true, Bool.true_and, Bool.not_true, Bool.not_false, ↓reduceIte]
theorem cs_pair (hI : Inv h N xs) (hi : i + 6 ≤ N) (hN : N ≤ 3072) : stP N xs d i (EX (d + 60) 250 1222 [z_R 7 0, z_R 10090 0, z_R 49100 0, z_I (nI i)] [] h) := by
  obtain ⟨s1, s2⟩ := I_sc hI
  obtain ⟨r, h1, h2, e1, e2, I2⟩ := op_pair d hI (xs (i + 1)) (xs (i + 2))
  have g7 := Rn_g7 (d + 60) _ _ _ _ _ e1
  have t1 : gN h1 7 = N := g7.2.trans s1
  have t2 : ∀ k, gI h1 7 0 k = xs k := fun k => (g7.1 k).trans (s2 k)
  refine ⟨h2, I2, ?_⟩
  rw [bL_law_1222]
  simp (disch := first | omega | rfl | assumption) only [s1, s2, e1, t1, t2, e2, bL_law_1236, bL_law_1250, bL_law_1806, eq_self, q_cl, q_ps, q_pn, bI_t, bI_f, gI_same, gI_ne, gR_pI, gJ_pI, gV_pI, gN_pI, gC_pI, gS_pI, gI_pJ, gR_pJ, gV_pJ, gN_pJ, gJ_same, gJ_ne, gI_pR, gJ_pR, gV_pR, gN_pR, gR_same, gR_ne, zin_t, zin_f, x_ltt, x_ltf, x_let, x_lef, x_eqt, x_eqf, n_0, n_1, n_2, n_3, n_4, n_5, n_6, n_7, n_8, n_9, n_10, n_11, n_12, n_16, n_19, n_20, n_24, n_25, n_32, n_40, n_48, n_50, n_60, n_64, n_80, n_96, n_114, n_684, n_1000, n_9330, n_16806, n_1000000, n_5764800, ↓n_m, m_ltI, m_leI, m_lt', m_le', m_eq, m_eq', m_add, m_sub, mm_lt, mm_le, mm_eq, q_sub, nI_add, q_mul, nI_clamp, bz_0, bz_1, q_bzb, b_0, b_1, b_ft, b_tf, ne_eq, not_true_eq_false, not_false_eq_true, decide_true, decide_false, Bool.and_self, Bool.false_and, Bool.and_false, Bool.and_true, Bool.true_and, Bool.not_true, Bool.not_false, ↓reduceIte]
theorem cs_unpair (hI : Inv h N xs) (hi : i + 6 ≤ N) (hN : N ≤ 3072) : stP N xs d i (EX (d + 60) 250 1255 [z_R 7 0, z_R 10090 0, z_R 49100 0, z_I (nI i)] [] h) := by
  obtain ⟨s1, s2⟩ := I_sc hI
  obtain ⟨r, h1, h2, e1, e2, I2⟩ := op_unpair d hI 
  have g7 := Rn_g7 (d + 60) _ _ _ _ _ e1
  have t1 : gN h1 7 = N := g7.2.trans s1
  have t2 : ∀ k, gI h1 7 0 k = xs k := fun k => (g7.1 k).trans (s2 k)
  refine ⟨h2, I2, ?_⟩
  rw [bL_law_1255]
  simp (disch := first | omega | rfl | assumption) only [s1, s2, e1, t1, t2, e2, bL_law_1259, bL_law_1263, bL_law_1806, eq_self, q_cl, q_ps, q_pn, bI_t, bI_f, gI_same, gI_ne, gR_pI, gJ_pI, gV_pI, gN_pI, gC_pI, gS_pI, gI_pJ, gR_pJ, gV_pJ, gN_pJ, gJ_same, gJ_ne, gI_pR, gJ_pR, gV_pR, gN_pR, gR_same, gR_ne, zin_t, zin_f, x_ltt, x_ltf, x_let, x_lef, x_eqt, x_eqf, n_0, n_1, n_2, n_3, n_4, n_5, n_6, n_7, n_8, n_9, n_10, n_11, n_12, n_16, n_19, n_20, n_24, n_25, n_32, n_40, n_48, n_50, n_60, n_64, n_80, n_96, n_114, n_684, n_1000, n_9330, n_16806, n_1000000, n_5764800, ↓n_m, m_ltI, m_leI, m_lt', m_le', m_eq, m_eq', m_add, m_sub, mm_lt, mm_le, mm_eq, q_sub, nI_add, q_mul, nI_clamp, bz_0, bz_1, q_bzb, b_0, b_1, b_ft, b_tf, ne_eq, not_true_eq_false, not_false_eq_true, decide_true, decide_false, Bool.and_self, Bool.false_and, Bool.and_false, Bool.and_true, Bool.true_and, Bool.not_true, Bool.not_false, ↓reduceIte]
theorem cs_fewest (hI : Inv h N xs) (hi : i + 6 ≤ N) (hN : N ≤ 3072) : stP N xs d i (EX (d + 60) 250 1268 [z_R 7 0, z_R 10090 0, z_R 49100 0, z_I (nI i)] [] h) := by
  obtain ⟨s1, s2⟩ := I_sc hI
  obtain ⟨r, h1, h2, e1, e2, I2⟩ := op_fewest d hI 
  have g7 := Rn_g7 (d + 60) _ _ _ _ _ e1
  have t1 : gN h1 7 = N := g7.2.trans s1
  have t2 : ∀ k, gI h1 7 0 k = xs k := fun k => (g7.1 k).trans (s2 k)
  refine ⟨h2, I2, ?_⟩
  rw [bL_law_1268]
  simp (disch := first | omega | rfl | assumption) only [s1, s2, e1, t1, t2, e2, bL_law_1272, bL_law_1276, bL_law_1806, eq_self, q_cl, q_ps, q_pn, bI_t, bI_f, gI_same, gI_ne, gR_pI, gJ_pI, gV_pI, gN_pI, gC_pI, gS_pI, gI_pJ, gR_pJ, gV_pJ, gN_pJ, gJ_same, gJ_ne, gI_pR, gJ_pR, gV_pR, gN_pR, gR_same, gR_ne, zin_t, zin_f, x_ltt, x_ltf, x_let, x_lef, x_eqt, x_eqf, n_0, n_1, n_2, n_3, n_4, n_5, n_6, n_7, n_8, n_9, n_10, n_11, n_12, n_16, n_19, n_20, n_24, n_25, n_32, n_40, n_48, n_50, n_60, n_64, n_80, n_96, n_114, n_684, n_1000, n_9330, n_16806, n_1000000, n_5764800, ↓n_m, m_ltI, m_leI, m_lt', m_le', m_eq, m_eq', m_add, m_sub, mm_lt, mm_le, mm_eq, q_sub, nI_add, q_mul, nI_clamp, bz_0, bz_1, q_bzb, b_0, b_1, b_ft, b_tf, ne_eq, not_true_eq_false, not_false_eq_true, decide_true, decide_false, Bool.and_self, Bool.false_and, Bool.and_false, Bool.and_true, Bool.true_and, Bool.not_true, Bool.not_false, ↓reduceIte]
theorem cs_simple (hI : Inv h N xs) (hi : i + 6 ≤ N) (hN : N ≤ 3072) : stP N xs d i (EX (d + 60) 250 1281 [z_R 7 0, z_R 10090 0, z_R 49100 0, z_I (nI i)] [] h) := by
  obtain ⟨s1, s2⟩ := I_sc hI
  obtain ⟨r, h1, h2, e1, e2, I2⟩ := op_simple d hI (xs (i + 1)) (xs (i + 2))
  have g7 := Rn_g7 (d + 60) _ _ _ _ _ e1
  have t1 : gN h1 7 = N := g7.2.trans s1
  have t2 : ∀ k, gI h1 7 0 k = xs k := fun k => (g7.1 k).trans (s2 k)
  refine ⟨h2, I2, ?_⟩
  rw [bL_law_1281]
  simp (disch := first | omega | rfl | assumption) only [s1, s2, e1, t1, t2, e2, bL_law_1295, bL_law_1309, bL_law_1806, eq_self, q_cl, q_ps, q_pn, bI_t, bI_f, gI_same, gI_ne, gR_pI, gJ_pI, gV_pI, gN_pI, gC_pI, gS_pI, gI_pJ, gR_pJ, gV_pJ, gN_pJ, gJ_same, gJ_ne, gI_pR, gJ_pR, gV_pR, gN_pR, gR_same, gR_ne, zin_t, zin_f, x_ltt, x_ltf, x_let, x_lef, x_eqt, x_eqf, n_0, n_1, n_2, n_3, n_4, n_5, n_6, n_7, n_8, n_9, n_10, n_11, n_12, n_16, n_19, n_20, n_24, n_25, n_32, n_40, n_48, n_50, n_60, n_64, n_80, n_96, n_114, n_684, n_1000, n_9330, n_16806, n_1000000, n_5764800, ↓n_m, m_ltI, m_leI, m_lt', m_le', m_eq, m_eq', m_add, m_sub, mm_lt, mm_le, mm_eq, q_sub, nI_add, q_mul, nI_clamp, bz_0, bz_1, q_bzb, b_0, b_1, b_ft, b_tf, ne_eq, not_true_eq_false, not_false_eq_true, decide_true, decide_false, Bool.and_self, Bool.false_and, Bool.and_false, Bool.and_true, Bool.true_and, Bool.not_true, Bool.not_false, ↓reduceIte]
theorem cs_proof (hI : Inv h N xs) (hi : i + 6 ≤ N) (hN : N ≤ 3072) : stP N xs d i (EX (d + 60) 250 1314 [z_R 7 0, z_R 10090 0, z_R 49100 0, z_I (nI i)] [] h) := by
  obtain ⟨s1, s2⟩ := I_sc hI
  obtain ⟨r, h1, h2, e1, e2, I2⟩ := op_proof d hI (xs (i + 1))
  have g7 := Rn_g7 (d + 60) _ _ _ _ _ e1
  have t1 : gN h1 7 = N := g7.2.trans s1
  have t2 : ∀ k, gI h1 7 0 k = xs k := fun k => (g7.1 k).trans (s2 k)
  refine ⟨h2, I2, ?_⟩
  rw [bL_law_1314]
  simp (disch := first | omega | rfl | assumption) only [s1, s2, e1, t1, t2, e2, bL_law_1323, bL_law_1332, bL_law_1806, eq_self, q_cl, q_ps, q_pn, bI_t, bI_f, gI_same, gI_ne, gR_pI, gJ_pI, gV_pI, gN_pI, gC_pI, gS_pI, gI_pJ, gR_pJ, gV_pJ, gN_pJ, gJ_same, gJ_ne, gI_pR, gJ_pR, gV_pR, gN_pR, gR_same, gR_ne, zin_t, zin_f, x_ltt, x_ltf, x_let, x_lef, x_eqt, x_eqf, n_0, n_1, n_2, n_3, n_4, n_5, n_6, n_7, n_8, n_9, n_10, n_11, n_12, n_16, n_19, n_20, n_24, n_25, n_32, n_40, n_48, n_50, n_60, n_64, n_80, n_96, n_114, n_684, n_1000, n_9330, n_16806, n_1000000, n_5764800, ↓n_m, m_ltI, m_leI, m_lt', m_le', m_eq, m_eq', m_add, m_sub, mm_lt, mm_le, mm_eq, q_sub, nI_add, q_mul, nI_clamp, bz_0, bz_1, q_bzb, b_0, b_1, b_ft, b_tf, ne_eq, not_true_eq_false, not_false_eq_true, decide_true, decide_false, Bool.and_self, Bool.false_and, Bool.and_false, Bool.and_true, Bool.true_and, Bool.not_true, Bool.not_false, ↓reduceIte]
theorem cs_road (hI : Inv h N xs) (hi : i + 6 ≤ N) (hN : N ≤ 3072) : stP N xs d i (EX (d + 60) 250 1337 [z_R 7 0, z_R 10090 0, z_R 49100 0, z_I (nI i)] [] h) := by
  obtain ⟨s1, s2⟩ := I_sc hI
  obtain ⟨r, h1, h2, e1, e2, I2⟩ := op_road d hI (xs (i + 1)) (xs (i + 2)) (xs (i + 3))
  have g7 := Rn_g7 (d + 60) _ _ _ _ _ e1
  have t1 : gN h1 7 = N := g7.2.trans s1
  have t2 : ∀ k, gI h1 7 0 k = xs k := fun k => (g7.1 k).trans (s2 k)
  refine ⟨h2, I2, ?_⟩
  rw [bL_law_1337]
  simp (disch := first | omega | rfl | assumption) only [s1, s2, e1, t1, t2, e2, bL_law_1356, bL_law_1375, bL_law_1806, eq_self, q_cl, q_ps, q_pn, bI_t, bI_f, gI_same, gI_ne, gR_pI, gJ_pI, gV_pI, gN_pI, gC_pI, gS_pI, gI_pJ, gR_pJ, gV_pJ, gN_pJ, gJ_same, gJ_ne, gI_pR, gJ_pR, gV_pR, gN_pR, gR_same, gR_ne, zin_t, zin_f, x_ltt, x_ltf, x_let, x_lef, x_eqt, x_eqf, n_0, n_1, n_2, n_3, n_4, n_5, n_6, n_7, n_8, n_9, n_10, n_11, n_12, n_16, n_19, n_20, n_24, n_25, n_32, n_40, n_48, n_50, n_60, n_64, n_80, n_96, n_114, n_684, n_1000, n_9330, n_16806, n_1000000, n_5764800, ↓n_m, m_ltI, m_leI, m_lt', m_le', m_eq, m_eq', m_add, m_sub, mm_lt, mm_le, mm_eq, q_sub, nI_add, q_mul, nI_clamp, bz_0, bz_1, q_bzb, b_0, b_1, b_ft, b_tf, ne_eq, not_true_eq_false, not_false_eq_true, decide_true, decide_false, Bool.and_self, Bool.false_and, Bool.and_false, Bool.and_true, Bool.true_and, Bool.not_true, Bool.not_false, ↓reduceIte]
theorem cs_shut (hI : Inv h N xs) (hi : i + 6 ≤ N) (hN : N ≤ 3072) : stP N xs d i (EX (d + 60) 250 1380 [z_R 7 0, z_R 10090 0, z_R 49100 0, z_I (nI i)] [] h) := by
  obtain ⟨s1, s2⟩ := I_sc hI
  obtain ⟨r, h1, h2, e1, e2, I2⟩ := op_shut d hI (xs (i + 1)) (xs (i + 2))
  have g7 := Rn_g7 (d + 60) _ _ _ _ _ e1
  have t1 : gN h1 7 = N := g7.2.trans s1
  have t2 : ∀ k, gI h1 7 0 k = xs k := fun k => (g7.1 k).trans (s2 k)
  refine ⟨h2, I2, ?_⟩
  rw [bL_law_1380]
  simp (disch := first | omega | rfl | assumption) only [s1, s2, e1, t1, t2, e2, bL_law_1394, bL_law_1408, bL_law_1806, eq_self, q_cl, q_ps, q_pn, bI_t, bI_f, gI_same, gI_ne, gR_pI, gJ_pI, gV_pI, gN_pI, gC_pI, gS_pI, gI_pJ, gR_pJ, gV_pJ, gN_pJ, gJ_same, gJ_ne, gI_pR, gJ_pR, gV_pR, gN_pR, gR_same, gR_ne, zin_t, zin_f, x_ltt, x_ltf, x_let, x_lef, x_eqt, x_eqf, n_0, n_1, n_2, n_3, n_4, n_5, n_6, n_7, n_8, n_9, n_10, n_11, n_12, n_16, n_19, n_20, n_24, n_25, n_32, n_40, n_48, n_50, n_60, n_64, n_80, n_96, n_114, n_684, n_1000, n_9330, n_16806, n_1000000, n_5764800, ↓n_m, m_ltI, m_leI, m_lt', m_le', m_eq, m_eq', m_add, m_sub, mm_lt, mm_le, mm_eq, q_sub, nI_add, q_mul, nI_clamp, bz_0, bz_1, q_bzb, b_0, b_1, b_ft, b_tf, ne_eq, not_true_eq_false, not_false_eq_true, decide_true, decide_false, Bool.and_self, Bool.false_and, Bool.and_false, Bool.and_true, Bool.true_and, Bool.not_true, Bool.not_false, ↓reduceIte]
theorem cs_wave (hI : Inv h N xs) (hi : i + 6 ≤ N) (hN : N ≤ 3072) : stP N xs d i (EX (d + 60) 250 1413 [z_R 7 0, z_R 10090 0, z_R 49100 0, z_I (nI i)] [] h) := by
  obtain ⟨s1, s2⟩ := I_sc hI
  obtain ⟨r, h1, h2, e1, e2, I2⟩ := op_wave d hI (xs (i + 1)) (xs (i + 2)) (xs (i + 3))
  have g7 := Rn_g7 (d + 60) _ _ _ _ _ e1
  have t1 : gN h1 7 = N := g7.2.trans s1
  have t2 : ∀ k, gI h1 7 0 k = xs k := fun k => (g7.1 k).trans (s2 k)
  refine ⟨h2, I2, ?_⟩
  rw [bL_law_1413]
  simp (disch := first | omega | rfl | assumption) only [s1, s2, e1, t1, t2, e2, bL_law_1432, bL_law_1451, bL_law_1806, eq_self, q_cl, q_ps, q_pn, bI_t, bI_f, gI_same, gI_ne, gR_pI, gJ_pI, gV_pI, gN_pI, gC_pI, gS_pI, gI_pJ, gR_pJ, gV_pJ, gN_pJ, gJ_same, gJ_ne, gI_pR, gJ_pR, gV_pR, gN_pR, gR_same, gR_ne, zin_t, zin_f, x_ltt, x_ltf, x_let, x_lef, x_eqt, x_eqf, n_0, n_1, n_2, n_3, n_4, n_5, n_6, n_7, n_8, n_9, n_10, n_11, n_12, n_16, n_19, n_20, n_24, n_25, n_32, n_40, n_48, n_50, n_60, n_64, n_80, n_96, n_114, n_684, n_1000, n_9330, n_16806, n_1000000, n_5764800, ↓n_m, m_ltI, m_leI, m_lt', m_le', m_eq, m_eq', m_add, m_sub, mm_lt, mm_le, mm_eq, q_sub, nI_add, q_mul, nI_clamp, bz_0, bz_1, q_bzb, b_0, b_1, b_ft, b_tf, ne_eq, not_true_eq_false, not_false_eq_true, decide_true, decide_false, Bool.and_self, Bool.false_and, Bool.and_false, Bool.and_true, Bool.true_and, Bool.not_true, Bool.not_false, ↓reduceIte]
theorem cs_comes (hI : Inv h N xs) (hi : i + 6 ≤ N) (hN : N ≤ 3072) : stP N xs d i (EX (d + 60) 250 1456 [z_R 7 0, z_R 10090 0, z_R 49100 0, z_I (nI i)] [] h) := by
  obtain ⟨s1, s2⟩ := I_sc hI
  obtain ⟨r, h1, h2, e1, e2, I2⟩ := op_comes d hI (xs (i + 1)) (xs (i + 2))
  have g7 := Rn_g7 (d + 60) _ _ _ _ _ e1
  have t1 : gN h1 7 = N := g7.2.trans s1
  have t2 : ∀ k, gI h1 7 0 k = xs k := fun k => (g7.1 k).trans (s2 k)
  refine ⟨h2, I2, ?_⟩
  rw [bL_law_1456]
  simp (disch := first | omega | rfl | assumption) only [s1, s2, e1, t1, t2, e2, bL_law_1470, bL_law_1484, bL_law_1806, eq_self, q_cl, q_ps, q_pn, bI_t, bI_f, gI_same, gI_ne, gR_pI, gJ_pI, gV_pI, gN_pI, gC_pI, gS_pI, gI_pJ, gR_pJ, gV_pJ, gN_pJ, gJ_same, gJ_ne, gI_pR, gJ_pR, gV_pR, gN_pR, gR_same, gR_ne, zin_t, zin_f, x_ltt, x_ltf, x_let, x_lef, x_eqt, x_eqf, n_0, n_1, n_2, n_3, n_4, n_5, n_6, n_7, n_8, n_9, n_10, n_11, n_12, n_16, n_19, n_20, n_24, n_25, n_32, n_40, n_48, n_50, n_60, n_64, n_80, n_96, n_114, n_684, n_1000, n_9330, n_16806, n_1000000, n_5764800, ↓n_m, m_ltI, m_leI, m_lt', m_le', m_eq, m_eq', m_add, m_sub, mm_lt, mm_le, mm_eq, q_sub, nI_add, q_mul, nI_clamp, bz_0, bz_1, q_bzb, b_0, b_1, b_ft, b_tf, ne_eq, not_true_eq_false, not_false_eq_true, decide_true, decide_false, Bool.and_self, Bool.false_and, Bool.and_false, Bool.and_true, Bool.true_and, Bool.not_true, Bool.not_false, ↓reduceIte]
theorem cs_speech (hI : Inv h N xs) (hi : i + 6 ≤ N) (hN : N ≤ 3072) : stP N xs d i (EX (d + 60) 250 1489 [z_R 7 0, z_R 10090 0, z_R 49100 0, z_I (nI i)] [] h) := by
  obtain ⟨s1, s2⟩ := I_sc hI
  obtain ⟨r, h1, h2, e1, e2, I2⟩ := op_speech d hI (xs (i + 1)) (xs (i + 2)) (xs (i + 3))
  have g7 := Rn_g7 (d + 60) _ _ _ _ _ e1
  have t1 : gN h1 7 = N := g7.2.trans s1
  have t2 : ∀ k, gI h1 7 0 k = xs k := fun k => (g7.1 k).trans (s2 k)
  refine ⟨h2, I2, ?_⟩
  rw [bL_law_1489]
  simp (disch := first | omega | rfl | assumption) only [s1, s2, e1, t1, t2, e2, bL_law_1508, bL_law_1527, bL_law_1806, eq_self, q_cl, q_ps, q_pn, bI_t, bI_f, gI_same, gI_ne, gR_pI, gJ_pI, gV_pI, gN_pI, gC_pI, gS_pI, gI_pJ, gR_pJ, gV_pJ, gN_pJ, gJ_same, gJ_ne, gI_pR, gJ_pR, gV_pR, gN_pR, gR_same, gR_ne, zin_t, zin_f, x_ltt, x_ltf, x_let, x_lef, x_eqt, x_eqf, n_0, n_1, n_2, n_3, n_4, n_5, n_6, n_7, n_8, n_9, n_10, n_11, n_12, n_16, n_19, n_20, n_24, n_25, n_32, n_40, n_48, n_50, n_60, n_64, n_80, n_96, n_114, n_684, n_1000, n_9330, n_16806, n_1000000, n_5764800, ↓n_m, m_ltI, m_leI, m_lt', m_le', m_eq, m_eq', m_add, m_sub, mm_lt, mm_le, mm_eq, q_sub, nI_add, q_mul, nI_clamp, bz_0, bz_1, q_bzb, b_0, b_1, b_ft, b_tf, ne_eq, not_true_eq_false, not_false_eq_true, decide_true, decide_false, Bool.and_self, Bool.false_and, Bool.and_false, Bool.and_true, Bool.true_and, Bool.not_true, Bool.not_false, ↓reduceIte]
theorem cs_list (hI : Inv h N xs) (hi : i + 6 ≤ N) (hN : N ≤ 3072) : stP N xs d i (EX (d + 60) 250 1532 [z_R 7 0, z_R 10090 0, z_R 49100 0, z_I (nI i)] [] h) := by
  obtain ⟨s1, s2⟩ := I_sc hI
  obtain ⟨r, h1, h2, e1, e2, I2⟩ := op_list d hI (xs (i + 1))
  have g7 := Rn_g7 (d + 60) _ _ _ _ _ e1
  have t1 : gN h1 7 = N := g7.2.trans s1
  have t2 : ∀ k, gI h1 7 0 k = xs k := fun k => (g7.1 k).trans (s2 k)
  refine ⟨h2, I2, ?_⟩
  rw [bL_law_1532]
  simp (disch := first | omega | rfl | assumption) only [s1, s2, e1, t1, t2, e2, bL_law_1541, bL_law_1550, bL_law_1806, eq_self, q_cl, q_ps, q_pn, bI_t, bI_f, gI_same, gI_ne, gR_pI, gJ_pI, gV_pI, gN_pI, gC_pI, gS_pI, gI_pJ, gR_pJ, gV_pJ, gN_pJ, gJ_same, gJ_ne, gI_pR, gJ_pR, gV_pR, gN_pR, gR_same, gR_ne, zin_t, zin_f, x_ltt, x_ltf, x_let, x_lef, x_eqt, x_eqf, n_0, n_1, n_2, n_3, n_4, n_5, n_6, n_7, n_8, n_9, n_10, n_11, n_12, n_16, n_19, n_20, n_24, n_25, n_32, n_40, n_48, n_50, n_60, n_64, n_80, n_96, n_114, n_684, n_1000, n_9330, n_16806, n_1000000, n_5764800, ↓n_m, m_ltI, m_leI, m_lt', m_le', m_eq, m_eq', m_add, m_sub, mm_lt, mm_le, mm_eq, q_sub, nI_add, q_mul, nI_clamp, bz_0, bz_1, q_bzb, b_0, b_1, b_ft, b_tf, ne_eq, not_true_eq_false, not_false_eq_true, decide_true, decide_false, Bool.and_self, Bool.false_and, Bool.and_false, Bool.and_true, Bool.true_and, Bool.not_true, Bool.not_false, ↓reduceIte]
theorem cs_speeches (hI : Inv h N xs) (hi : i + 6 ≤ N) (hN : N ≤ 3072) : stP N xs d i (EX (d + 60) 250 1555 [z_R 7 0, z_R 10090 0, z_R 49100 0, z_I (nI i)] [] h) := by
  obtain ⟨s1, s2⟩ := I_sc hI
  obtain ⟨r, h1, h2, e1, e2, I2⟩ := op_speeches d hI (xs (i + 1))
  have g7 := Rn_g7 (d + 60) _ _ _ _ _ e1
  have t1 : gN h1 7 = N := g7.2.trans s1
  have t2 : ∀ k, gI h1 7 0 k = xs k := fun k => (g7.1 k).trans (s2 k)
  refine ⟨h2, I2, ?_⟩
  rw [bL_law_1555]
  simp (disch := first | omega | rfl | assumption) only [s1, s2, e1, t1, t2, e2, bL_law_1564, bL_law_1573, bL_law_1806, eq_self, q_cl, q_ps, q_pn, bI_t, bI_f, gI_same, gI_ne, gR_pI, gJ_pI, gV_pI, gN_pI, gC_pI, gS_pI, gI_pJ, gR_pJ, gV_pJ, gN_pJ, gJ_same, gJ_ne, gI_pR, gJ_pR, gV_pR, gN_pR, gR_same, gR_ne, zin_t, zin_f, x_ltt, x_ltf, x_let, x_lef, x_eqt, x_eqf, n_0, n_1, n_2, n_3, n_4, n_5, n_6, n_7, n_8, n_9, n_10, n_11, n_12, n_16, n_19, n_20, n_24, n_25, n_32, n_40, n_48, n_50, n_60, n_64, n_80, n_96, n_114, n_684, n_1000, n_9330, n_16806, n_1000000, n_5764800, ↓n_m, m_ltI, m_leI, m_lt', m_le', m_eq, m_eq', m_add, m_sub, mm_lt, mm_le, mm_eq, q_sub, nI_add, q_mul, nI_clamp, bz_0, bz_1, q_bzb, b_0, b_1, b_ft, b_tf, ne_eq, not_true_eq_false, not_false_eq_true, decide_true, decide_false, Bool.and_self, Bool.false_and, Bool.and_false, Bool.and_true, Bool.true_and, Bool.not_true, Bool.not_false, ↓reduceIte]
theorem cs_parted (hI : Inv h N xs) (hi : i + 6 ≤ N) (hN : N ≤ 3072) : stP N xs d i (EX (d + 60) 250 1578 [z_R 7 0, z_R 10090 0, z_R 49100 0, z_I (nI i)] [] h) := by
  obtain ⟨s1, s2⟩ := I_sc hI
  obtain ⟨r, h1, h2, e1, e2, I2⟩ := op_parted d hI (xs (i + 1)) (xs (i + 2))
  have g7 := Rn_g7 (d + 60) _ _ _ _ _ e1
  have t1 : gN h1 7 = N := g7.2.trans s1
  have t2 : ∀ k, gI h1 7 0 k = xs k := fun k => (g7.1 k).trans (s2 k)
  refine ⟨h2, I2, ?_⟩
  rw [bL_law_1578]
  simp (disch := first | omega | rfl | assumption) only [s1, s2, e1, t1, t2, e2, bL_law_1592, bL_law_1606, bL_law_1806, eq_self, q_cl, q_ps, q_pn, bI_t, bI_f, gI_same, gI_ne, gR_pI, gJ_pI, gV_pI, gN_pI, gC_pI, gS_pI, gI_pJ, gR_pJ, gV_pJ, gN_pJ, gJ_same, gJ_ne, gI_pR, gJ_pR, gV_pR, gN_pR, gR_same, gR_ne, zin_t, zin_f, x_ltt, x_ltf, x_let, x_lef, x_eqt, x_eqf, n_0, n_1, n_2, n_3, n_4, n_5, n_6, n_7, n_8, n_9, n_10, n_11, n_12, n_16, n_19, n_20, n_24, n_25, n_32, n_40, n_48, n_50, n_60, n_64, n_80, n_96, n_114, n_684, n_1000, n_9330, n_16806, n_1000000, n_5764800, ↓n_m, m_ltI, m_leI, m_lt', m_le', m_eq, m_eq', m_add, m_sub, mm_lt, mm_le, mm_eq, q_sub, nI_add, q_mul, nI_clamp, bz_0, bz_1, q_bzb, b_0, b_1, b_ft, b_tf, ne_eq, not_true_eq_false, not_false_eq_true, decide_true, decide_false, Bool.and_self, Bool.false_and, Bool.and_false, Bool.and_true, Bool.true_and, Bool.not_true, Bool.not_false, ↓reduceIte]
theorem cs_sheet (hI : Inv h N xs) (hi : i + 6 ≤ N) (hN : N ≤ 3072) : stP N xs d i (EX (d + 60) 250 1611 [z_R 7 0, z_R 10090 0, z_R 49100 0, z_I (nI i)] [] h) := by
  obtain ⟨s1, s2⟩ := I_sc hI
  obtain ⟨r, h1, h2, e1, e2, I2⟩ := op_sheet d hI (xs (i + 1)) (xs (i + 2)) (xs (i + 3))
  have g7 := Rn_g7 (d + 60) _ _ _ _ _ e1
  have t1 : gN h1 7 = N := g7.2.trans s1
  have t2 : ∀ k, gI h1 7 0 k = xs k := fun k => (g7.1 k).trans (s2 k)
  refine ⟨h2, I2, ?_⟩
  rw [bL_law_1611]
  simp (disch := first | omega | rfl | assumption) only [s1, s2, e1, t1, t2, e2, bL_law_1630, bL_law_1649, bL_law_1806, eq_self, q_cl, q_ps, q_pn, bI_t, bI_f, gI_same, gI_ne, gR_pI, gJ_pI, gV_pI, gN_pI, gC_pI, gS_pI, gI_pJ, gR_pJ, gV_pJ, gN_pJ, gJ_same, gJ_ne, gI_pR, gJ_pR, gV_pR, gN_pR, gR_same, gR_ne, zin_t, zin_f, x_ltt, x_ltf, x_let, x_lef, x_eqt, x_eqf, n_0, n_1, n_2, n_3, n_4, n_5, n_6, n_7, n_8, n_9, n_10, n_11, n_12, n_16, n_19, n_20, n_24, n_25, n_32, n_40, n_48, n_50, n_60, n_64, n_80, n_96, n_114, n_684, n_1000, n_9330, n_16806, n_1000000, n_5764800, ↓n_m, m_ltI, m_leI, m_lt', m_le', m_eq, m_eq', m_add, m_sub, mm_lt, mm_le, mm_eq, q_sub, nI_add, q_mul, nI_clamp, bz_0, bz_1, q_bzb, b_0, b_1, b_ft, b_tf, ne_eq, not_true_eq_false, not_false_eq_true, decide_true, decide_false, Bool.and_self, Bool.false_and, Bool.and_false, Bool.and_true, Bool.true_and, Bool.not_true, Bool.not_false, ↓reduceIte]
theorem cs_write (hI : Inv h N xs) (hi : i + 6 ≤ N) (hN : N ≤ 3072) : stP N xs d i (EX (d + 60) 250 1654 [z_R 7 0, z_R 10090 0, z_R 49100 0, z_I (nI i)] [] h) := by
  obtain ⟨s1, s2⟩ := I_sc hI
  obtain ⟨r, h1, h2, e1, e2, I2⟩ := op_write d hI (xs (i + 1)) (xs (i + 2)) (xs (i + 3))
  have g7 := Rn_g7 (d + 60) _ _ _ _ _ e1
  have t1 : gN h1 7 = N := g7.2.trans s1
  have t2 : ∀ k, gI h1 7 0 k = xs k := fun k => (g7.1 k).trans (s2 k)
  refine ⟨h2, I2, ?_⟩
  rw [bL_law_1654]
  simp (disch := first | omega | rfl | assumption) only [s1, s2, e1, t1, t2, e2, bL_law_1673, bL_law_1692, bL_law_1806, eq_self, q_cl, q_ps, q_pn, bI_t, bI_f, gI_same, gI_ne, gR_pI, gJ_pI, gV_pI, gN_pI, gC_pI, gS_pI, gI_pJ, gR_pJ, gV_pJ, gN_pJ, gJ_same, gJ_ne, gI_pR, gJ_pR, gV_pR, gN_pR, gR_same, gR_ne, zin_t, zin_f, x_ltt, x_ltf, x_let, x_lef, x_eqt, x_eqf, n_0, n_1, n_2, n_3, n_4, n_5, n_6, n_7, n_8, n_9, n_10, n_11, n_12, n_16, n_19, n_20, n_24, n_25, n_32, n_40, n_48, n_50, n_60, n_64, n_80, n_96, n_114, n_684, n_1000, n_9330, n_16806, n_1000000, n_5764800, ↓n_m, m_ltI, m_leI, m_lt', m_le', m_eq, m_eq', m_add, m_sub, mm_lt, mm_le, mm_eq, q_sub, nI_add, q_mul, nI_clamp, bz_0, bz_1, q_bzb, b_0, b_1, b_ft, b_tf, ne_eq, not_true_eq_false, not_false_eq_true, decide_true, decide_false, Bool.and_self, Bool.false_and, Bool.and_false, Bool.and_true, Bool.true_and, Bool.not_true, Bool.not_false, ↓reduceIte]
theorem cs_copy (hI : Inv h N xs) (hi : i + 6 ≤ N) (hN : N ≤ 3072) : stP N xs d i (EX (d + 60) 250 1697 [z_R 7 0, z_R 10090 0, z_R 49100 0, z_I (nI i)] [] h) := by
  obtain ⟨s1, s2⟩ := I_sc hI
  obtain ⟨r, h1, h2, e1, e2, I2⟩ := op_copy d hI (xs (i + 1)) (xs (i + 2)) (xs (i + 3)) (xs (i + 4)) (xs (i + 5))
  have g7 := Rn_g7 (d + 60) _ _ _ _ _ e1
  have t1 : gN h1 7 = N := g7.2.trans s1
  have t2 : ∀ k, gI h1 7 0 k = xs k := fun k => (g7.1 k).trans (s2 k)
  refine ⟨h2, I2, ?_⟩
  rw [bL_law_1697]
  simp (disch := first | omega | rfl | assumption) only [s1, s2, e1, t1, t2, e2, bL_law_1726, bL_law_1755, bL_law_1806, eq_self, q_cl, q_ps, q_pn, bI_t, bI_f, gI_same, gI_ne, gR_pI, gJ_pI, gV_pI, gN_pI, gC_pI, gS_pI, gI_pJ, gR_pJ, gV_pJ, gN_pJ, gJ_same, gJ_ne, gI_pR, gJ_pR, gV_pR, gN_pR, gR_same, gR_ne, zin_t, zin_f, x_ltt, x_ltf, x_let, x_lef, x_eqt, x_eqf, n_0, n_1, n_2, n_3, n_4, n_5, n_6, n_7, n_8, n_9, n_10, n_11, n_12, n_16, n_19, n_20, n_24, n_25, n_32, n_40, n_48, n_50, n_60, n_64, n_80, n_96, n_114, n_684, n_1000, n_9330, n_16806, n_1000000, n_5764800, ↓n_m, m_ltI, m_leI, m_lt', m_le', m_eq, m_eq', m_add, m_sub, mm_lt, mm_le, mm_eq, q_sub, nI_add, q_mul, nI_clamp, bz_0, bz_1, q_bzb, b_0, b_1, b_ft, b_tf, ne_eq, not_true_eq_false, not_false_eq_true, decide_true, decide_false, Bool.and_self, Bool.false_and, Bool.and_false, Bool.and_true, Bool.true_and, Bool.not_true, Bool.not_false, ↓reduceIte]
theorem cs_read (hI : Inv h N xs) (hi : i + 6 ≤ N) (hN : N ≤ 3072) : stP N xs d i (EX (d + 60) 250 1760 [z_R 7 0, z_R 10090 0, z_R 49100 0, z_I (nI i)] [] h) := by
  obtain ⟨s1, s2⟩ := I_sc hI
  obtain ⟨r, h1, h2, e1, e2, I2⟩ := op_read d hI (xs (i + 1))
  have g7 := Rn_g7 (d + 60) _ _ _ _ _ e1
  have t1 : gN h1 7 = N := g7.2.trans s1
  have t2 : ∀ k, gI h1 7 0 k = xs k := fun k => (g7.1 k).trans (s2 k)
  refine ⟨h2, I2, ?_⟩
  rw [bL_law_1760]
  simp (disch := first | omega | rfl | assumption) only [s1, s2, e1, t1, t2, e2, bL_law_1769, bL_law_1778, bL_law_1806, eq_self, q_cl, q_ps, q_pn, bI_t, bI_f, gI_same, gI_ne, gR_pI, gJ_pI, gV_pI, gN_pI, gC_pI, gS_pI, gI_pJ, gR_pJ, gV_pJ, gN_pJ, gJ_same, gJ_ne, gI_pR, gJ_pR, gV_pR, gN_pR, gR_same, gR_ne, zin_t, zin_f, x_ltt, x_ltf, x_let, x_lef, x_eqt, x_eqf, n_0, n_1, n_2, n_3, n_4, n_5, n_6, n_7, n_8, n_9, n_10, n_11, n_12, n_16, n_19, n_20, n_24, n_25, n_32, n_40, n_48, n_50, n_60, n_64, n_80, n_96, n_114, n_684, n_1000, n_9330, n_16806, n_1000000, n_5764800, ↓n_m, m_ltI, m_leI, m_lt', m_le', m_eq, m_eq', m_add, m_sub, mm_lt, mm_le, mm_eq, q_sub, nI_add, q_mul, nI_clamp, bz_0, bz_1, q_bzb, b_0, b_1, b_ft, b_tf, ne_eq, not_true_eq_false, not_false_eq_true, decide_true, decide_false, Bool.and_self, Bool.false_and, Bool.and_false, Bool.and_true, Bool.true_and, Bool.not_true, Bool.not_false, ↓reduceIte]
theorem cs_told (hI : Inv h N xs) (hi : i + 6 ≤ N) (hN : N ≤ 3072) : stP N xs d i (EX (d + 60) 250 1783 [z_R 7 0, z_R 10090 0, z_R 49100 0, z_I (nI i)] [] h) := by
  obtain ⟨s1, s2⟩ := I_sc hI
  obtain ⟨r, h1, h2, e1, e2, I2⟩ := op_told d hI (xs (i + 1))
  have g7 := Rn_g7 (d + 60) _ _ _ _ _ e1
  have t1 : gN h1 7 = N := g7.2.trans s1
  have t2 : ∀ k, gI h1 7 0 k = xs k := fun k => (g7.1 k).trans (s2 k)
  refine ⟨h2, I2, ?_⟩
  rw [bL_law_1783]
  simp (disch := first | omega | rfl | assumption) only [s1, s2, e1, t1, t2, e2, bL_law_1792, bL_law_1801, bL_law_1806, eq_self, q_cl, q_ps, q_pn, bI_t, bI_f, gI_same, gI_ne, gR_pI, gJ_pI, gV_pI, gN_pI, gC_pI, gS_pI, gI_pJ, gR_pJ, gV_pJ, gN_pJ, gJ_same, gJ_ne, gI_pR, gJ_pR, gV_pR, gN_pR, gR_same, gR_ne, zin_t, zin_f, x_ltt, x_ltf, x_let, x_lef, x_eqt, x_eqf, n_0, n_1, n_2, n_3, n_4, n_5, n_6, n_7, n_8, n_9, n_10, n_11, n_12, n_16, n_19, n_20, n_24, n_25, n_32, n_40, n_48, n_50, n_60, n_64, n_80, n_96, n_114, n_684, n_1000, n_9330, n_16806, n_1000000, n_5764800, ↓n_m, m_ltI, m_leI, m_lt', m_le', m_eq, m_eq', m_add, m_sub, mm_lt, mm_le, mm_eq, q_sub, nI_add, q_mul, nI_clamp, bz_0, bz_1, q_bzb, b_0, b_1, b_ft, b_tf, ne_eq, not_true_eq_false, not_false_eq_true, decide_true, decide_false, Bool.and_self, Bool.false_and, Bool.and_false, Bool.and_true, Bool.true_and, Bool.not_true, Bool.not_false, ↓reduceIte]
theorem cs_none (hI : Inv h N xs) (hi : i + 6 ≤ N) (hN : N ≤ 3072) : stP N xs d i (EX (d + 60) 250 1806 [z_R 7 0, z_R 10090 0, z_R 49100 0, z_I (nI i)] [] h) := by
  refine ⟨h, hI, ?_⟩
  rw [bL_law_1806]
  simp (disch := first | omega | rfl | assumption) only [q_cl, q_ps, q_pn, bI_t, bI_f, gI_same, gI_ne, gR_pI, gJ_pI, gV_pI, gN_pI, gC_pI, gS_pI, gI_pJ, gR_pJ, gV_pJ, gN_pJ, gJ_same, gJ_ne, gI_pR, gJ_pR, gV_pR, gN_pR, gR_same, gR_ne, zin_t, zin_f, x_ltt, x_ltf, x_let, x_lef, x_eqt, x_eqf, n_0, n_1, n_2, n_3, n_4, n_5, n_6, n_7, n_8, n_9, n_10, n_11, n_12, n_16, n_19, n_20, n_24, n_25, n_32, n_40, n_48, n_50, n_60, n_64, n_80, n_96, n_114, n_684, n_1000, n_9330, n_16806, n_1000000, n_5764800, ↓n_m, m_ltI, m_leI, m_lt', m_le', m_eq, m_eq', m_add, m_sub, mm_lt, mm_le, mm_eq, q_sub, nI_add, q_mul, nI_clamp, bz_0, bz_1, q_bzb, b_0, b_1, b_ft, b_tf, ne_eq, not_true_eq_false, not_false_eq_true, decide_true, decide_false, Bool.and_self, Bool.false_and, Bool.and_false, Bool.and_true, Bool.true_and, Bool.not_true, Bool.not_false, ↓reduceIte]
theorem law_step (hI : Inv h N xs) (hi : i + 6 ≤ N) (hN : N ≤ 3072) : stP N xs d i (EX (d + 60) 250 18 [z_R 7 0, z_R 10090 0, z_R 49100 0, z_I (nI i)] [] h) := by
  obtain ⟨s1, s2⟩ := I_sc hI
  have l6 : ¬ Int32.ofNat N - 6 < nI i := by
    have e : Int32.ofNat N - 6 = nI (N - 6) := q_sub (b := 6) (by omega)
    rw [e, nI_ltI (by omega) (by omega)]
    omega
  rw [bL_law_18, s1, if_neg l6, if_pos (zin_t (by omega) (by omega))]
  exact stP_if (cs_vowel d hI hi hN) (stP_if (cs_feed d hI hi hN) (stP_if (cs_law d hI hi hN) (stP_if (cs_as d hI hi hN) (stP_if (cs_about d hI hi hN) (stP_if (cs_run d hI hi hN) (stP_if (cs_holds d hI hi hN) (stP_if (cs_tongue d hI hi hN) (stP_if (cs_take d hI hi hN) (stP_if (cs_leave d hI hi hN) (stP_if (cs_swap d hI hi hN) (stP_if (cs_own d hI hi hN) (stP_if (cs_form d hI hi hN) (stP_if (cs_order d hI hi hN) (stP_if (cs_script d hI hi hN) (stP_if (cs_written d hI hi hN) (stP_if (cs_back d hI hi hN) (stP_if (cs_stem d hI hi hN) (stP_if (cs_match d hI hi hN) (stP_if (cs_find d hI hi hN) (stP_if (cs_known d hI hi hN) (stP_if (cs_mothers d hI hi hN) (stP_if (cs_mother d hI hi hN) (stP_if (cs_doubt d hI hi hN) (stP_if (cs_best d hI hi hN) (stP_if (cs_breakers d hI hi hN) (stP_if (cs_lent d hI hi hN) (stP_if (cs_leans d hI hi hN) (stP_if (cs_pair d hI hi hN) (stP_if (cs_unpair d hI hi hN) (stP_if (cs_fewest d hI hi hN) (stP_if (cs_simple d hI hi hN) (stP_if (cs_proof d hI hi hN) (stP_if (cs_road d hI hi hN) (stP_if (cs_shut d hI hi hN) (stP_if (cs_wave d hI hi hN) (stP_if (cs_comes d hI hi hN) (stP_if (cs_speech d hI hi hN) (stP_if (cs_list d hI hi hN) (stP_if (cs_speeches d hI hi hN) (stP_if (cs_parted d hI hi hN) (stP_if (cs_sheet d hI hi hN) (stP_if (cs_write d hI hi hN) (stP_if (cs_copy d hI hi hN) (stP_if (cs_read d hI hi hN) (stP_if (cs_told d hI hi hN) (cs_none d hI hi hN))))))))))))))))))))))))))))))))))))))))))))))
end
theorem law_end (d : Nat) {N : Nat} {xs : Nat → Int32} {h : z_H} (hI : Inv h N xs) {i : Nat} (hi : N < i + 6) (hi2 : i ≤ N + 6) (hN : N ≤ 3072) : EX d 250 18 [z_R 7 0, z_R 10090 0, z_R 49100 0, z_I (nI i)] [] h = some (some (z_I (nI 1)), h) := by
  obtain ⟨s1, s2⟩ := I_sc hI
  have l6 : Int32.ofNat N - 6 < nI i := by
    by_cases q : 6 ≤ N
    · have e : Int32.ofNat N - 6 = nI (N - 6) := q_sub (b := 6) q
      rw [e, nI_ltI (by omega) (by omega)]
      omega
    · have tab : ∀ k, k < 6 → (Int32.ofNat k - 6).toInt < 0 := by decide +kernel
      have := tab N (by omega)
      rw [Int32.lt_iff_toInt_lt, nI_toInt (by omega)]
      omega
  rw [bL_law_18, s1, if_pos l6, bL_law_1812]
  simp (disch := first | omega | rfl | assumption) only [q_cl, q_ps, q_pn, bI_t, bI_f, gI_same, gI_ne, gR_pI, gJ_pI, gV_pI, gN_pI, gC_pI, gS_pI, gI_pJ, gR_pJ, gV_pJ, gN_pJ, gJ_same, gJ_ne, gI_pR, gJ_pR, gV_pR, gN_pR, gR_same, gR_ne, zin_t, zin_f, x_ltt, x_ltf, x_let, x_lef, x_eqt, x_eqf, n_0, n_1, n_2, n_3, n_4, n_5, n_6, n_7, n_8, n_9, n_10, n_11, n_12, n_16, n_19, n_20, n_24, n_25, n_32, n_40, n_48, n_50, n_60, n_64, n_80, n_96, n_114, n_684, n_1000, n_9330, n_16806, n_1000000, n_5764800, ↓n_m, m_ltI, m_leI, m_lt', m_le', m_eq, m_eq', m_add, m_sub, mm_lt, mm_le, mm_eq, q_sub, nI_add, q_mul, nI_clamp, bz_0, bz_1, q_bzb, b_0, b_1, b_ft, b_tf, ne_eq, not_true_eq_false, not_false_eq_true, decide_true, decide_false, Bool.and_self, Bool.false_and, Bool.and_false, Bool.and_true, Bool.true_and, Bool.not_true, Bool.not_false, ↓reduceIte]
theorem law_loop (d : Nat) {N : Nat} {xs : Nat → Int32} (hN : N ≤ 3072) : ∀ (r i : Nat) (h : z_H), N ≤ i + r → i ≤ N + 6 → Inv h N xs → ∃ h1, EX (d + 60) 250 18 [z_R 7 0, z_R 10090 0, z_R 49100 0, z_I (nI i)] [] h = some (some (z_I (nI 1)), h1) ∧ Inv h1 N xs := by
  intro r
  induction r with
  | zero => intro i h h1 h2 hI; exact ⟨h, law_end _ hI (by omega) h2 hN, hI⟩
  | succ r ih =>
    intro i h h1 h2 hI
    by_cases q : N < i + 6
    · exact ⟨h, law_end _ hI q h2 hN, hI⟩
    · obtain ⟨h3, I3, e3⟩ := law_step d hI (i := i) (by omega) hN
      obtain ⟨h4, e4, I4⟩ := ih (i + 6) h3 (by omega) (by omega) I3
      exact ⟨h4, e3.trans e4, I4⟩
theorem cF_le (h : z_H) : ∀ n, cF h n ≤ n := by
  intro n
  induction n with
  | zero => exact Nat.le_refl _
  | succ n ih =>
    show cF h n + (if gR h 7080 n 5 = 0 then 0 else 1) ≤ n + 1
    split <;> omega
theorem Inv_room {h : z_H} {N : Nat} {xs : Nat → Int32} (hI : Inv h N xs) : gC h ≤ 600000 ∧ gS h ≤ 7302250 := by
  obtain ⟨G, hG⟩ := hI
  obtain ⟨r1, r2⟩ := I_rm hG
  obtain ⟨-, -, w3, -, w5, -⟩ := I_L hG
  obtain ⟨-, -, a3, -, -, -, a7, -⟩ := I_T hG
  obtain ⟨z1, z2, -⟩ := I_F hG
  have c8 := cF_le h 8
  have n16 : gN h 16 ≤ 1 := by
    rcases z1 with ⟨-, y, -⟩ | ⟨-, -, y, -⟩ <;> omega
  constructor <;> omega
