/-! ===== texts: what stands in them ===== -/
theorem n_62 : (62 : Int32) = nI 62 := rfl
theorem n_45 : (45 : Int32) = nI 45 := rfl
theorem n_47 : (47 : Int32) = nI 47 := rfl
theorem n_95 : (95 : Int32) = nI 95 := rfl
theorem n_33 : (33 : Int32) = nI 33 := rfl
theorem n_86 : (86 : Int32) = nI 86 := rfl
theorem n_67 : (67 : Int32) = nI 67 := rfl
theorem n_35 : (35 : Int32) = nI 35 := rfl
theorem n_97 : (97 : Int32) = nI 97 := rfl
theorem n_102 : (102 : Int32) = nI 102 := rfl
theorem n_255 : (255 : Int32) = nI 255 := rfl
def sndc (c : Nat) : Nat := if 97 ≤ c ∧ c ≤ 102 then c - 96 else 0
def mrkc (c : Nat) : Nat := if c = 86 then 7 else if c = 67 then 8 else if c = 35 then 9 else sndc c
def fmc (c : Nat) : Nat := if c = 86 then 7 else if c = 67 then 8 else sndc c
def ltc (r c : Nat) : Nat := if r = 0 then fmc c else if r = 1 then (if c = 62 then 1 else 0) else if r = 2 then sndc c else if r = 3 then (if c = 45 then 1 else 0) else if r = 4 then (if c = 47 then 1 else 0) else if r = 5 then mrkc c else if r = 6 then (if c = 95 then 1 else 0) else (if c = 33 then 1 else 0)
theorem sndc_le (c : Nat) : sndc c ≤ 6 := by unfold sndc; split <;> omega
theorem mrkc_le (c : Nat) : mrkc c ≤ 9 := by
  have := sndc_le c
  unfold mrkc
  repeat' split
  all_goals omega
theorem fmc_le (c : Nat) : fmc c ≤ 8 := by
  have := sndc_le c
  unfold fmc
  repeat' split
  all_goals omega
theorem ltc_le (r c : Nat) : ltc r c ≤ 9 := by
  have := sndc_le c
  have := mrkc_le c
  have := fmc_le c
  unfold ltc
  repeat' split
  all_goals omega
theorem ltc_999 : ∀ r, r < 8 → ltc r 999 = 0 := by decide
/-- the first place of a text at which a byte stands -/
def fIx (r : Nat) (y : Int32) : Nat → Nat → Int32
  | _, 0 => mI
  | k, f + 1 => if z_tc r k = y then nI k else fIx r y (k + 1) f
theorem ix_tab : ∀ r, r < 8 → ∀ c, c < 256 → fIx r (Int32.toInt8 (nI c)).toInt32 0 (z_tn r) = mkI (ltc r c) := by decide +kernel
theorem tn_tab : ∀ r, r < 8 → z_tn r < 10 ∧ 0 < z_tn r ∧ nI (z_tn r) >>> (nI 0 &&& 31) = nI (z_tn r) ∧ Nat.blt r 8 = true := by decide +kernel
theorem c_ix_loop (d : Nat) {r : Nat} (hr : r < 8) (y x1 x2 : Int32) (h : z_H) : ∀ (f k : Nat), k + f = z_tn r → EX d 62 7 [z_R 9 r, z_I x1, z_I x2, z_I (nI (z_tn r)), z_I y, z_I (nI k)] [] h = some (some (z_I (fIx r y k f)), h) := by
  obtain ⟨t1, t2, t3, t4⟩ := tn_tab r hr
  intro f
  induction f with
  | zero =>
    intro k hk
    rw [bJ1_indexOfChar_4cfef_7]
    simp (disch := first | omega | rfl | assumption) only [bJ1_indexOfChar_4cfef_31, q_cl, q_ps, q_pn, bI_t, bI_f, gI_same, gI_ne, gR_pI, gJ_pI, gV_pI, gN_pI, gC_pI, gS_pI, gI_pJ, gR_pJ, gV_pJ, gN_pJ, gJ_same, gJ_ne, gI_pR, gJ_pR, gV_pR, gN_pR, gR_same, gR_ne, zin_t, zin_f, x_ltt, x_ltf, x_let, x_lef, x_eqt, x_eqf, n_0, n_1, n_2, n_3, n_4, n_5, n_6, n_7, n_8, n_9, n_10, n_11, n_12, n_16, n_19, n_20, n_24, n_25, n_32, n_40, n_48, n_50, n_60, n_64, n_80, n_96, n_114, n_684, n_1000, n_9330, n_16806, n_1000000, n_5764800, ↓n_m, m_ltI, m_leI, m_lt', m_le', m_eq, m_eq', m_add, m_sub, mm_lt, mm_le, mm_eq, q_sub, nI_add, q_mul, nI_clamp, bz_0, bz_1, q_bzb, b_0, b_1, b_ft, b_tf, ne_eq, not_true_eq_false, not_false_eq_true, decide_true, decide_false, Bool.and_self, Bool.false_and, Bool.and_false, Bool.and_true, Bool.true_and, Bool.not_true, Bool.not_false, ↓reduceIte]
    rfl
  | succ f ih =>
    intro k hk
    have ih1 := ih (k + 1) (by omega)
    rw [bJ1_indexOfChar_4cfef_7]
    show _ = some (some (z_I (if z_tc r k = y then nI k else fIx r y (k + 1) f)), h)
    by_cases e : z_tc r k = y
    · rw [if_pos e]
      simp (disch := first | omega | rfl | assumption) only [e, q_cl, q_ps, q_pn, bI_t, bI_f, gI_same, gI_ne, gR_pI, gJ_pI, gV_pI, gN_pI, gC_pI, gS_pI, gI_pJ, gR_pJ, gV_pJ, gN_pJ, gJ_same, gJ_ne, gI_pR, gJ_pR, gV_pR, gN_pR, gR_same, gR_ne, zin_t, zin_f, x_ltt, x_ltf, x_let, x_lef, x_eqt, x_eqf, n_0, n_1, n_2, n_3, n_4, n_5, n_6, n_7, n_8, n_9, n_10, n_11, n_12, n_16, n_19, n_20, n_24, n_25, n_32, n_40, n_48, n_50, n_60, n_64, n_80, n_96, n_114, n_684, n_1000, n_9330, n_16806, n_1000000, n_5764800, ↓n_m, m_ltI, m_leI, m_lt', m_le', m_eq, m_eq', m_add, m_sub, mm_lt, mm_le, mm_eq, q_sub, nI_add, q_mul, nI_clamp, bz_0, bz_1, q_bzb, b_0, b_1, b_ft, b_tf, ne_eq, not_true_eq_false, not_false_eq_true, decide_true, decide_false, Bool.and_self, Bool.false_and, Bool.and_false, Bool.and_true, Bool.true_and, Bool.not_true, Bool.not_false, ↓reduceIte]
    · rw [if_neg e]
      simp (disch := first | omega | rfl | assumption) only [e, bJ1_indexOfChar_4cfef_25, q_cl, q_ps, q_pn, bI_t, bI_f, gI_same, gI_ne, gR_pI, gJ_pI, gV_pI, gN_pI, gC_pI, gS_pI, gI_pJ, gR_pJ, gV_pJ, gN_pJ, gJ_same, gJ_ne, gI_pR, gJ_pR, gV_pR, gN_pR, gR_same, gR_ne, zin_t, zin_f, x_ltt, x_ltf, x_let, x_lef, x_eqt, x_eqf, n_0, n_1, n_2, n_3, n_4, n_5, n_6, n_7, n_8, n_9, n_10, n_11, n_12, n_16, n_19, n_20, n_24, n_25, n_32, n_40, n_48, n_50, n_60, n_64, n_80, n_96, n_114, n_684, n_1000, n_9330, n_16806, n_1000000, n_5764800, ↓n_m, m_ltI, m_leI, m_lt', m_le', m_eq, m_eq', m_add, m_sub, mm_lt, mm_le, mm_eq, q_sub, nI_add, q_mul, nI_clamp, bz_0, bz_1, q_bzb, b_0, b_1, b_ft, b_tf, ne_eq, not_true_eq_false, not_false_eq_true, decide_true, decide_false, Bool.and_self, Bool.false_and, Bool.and_false, Bool.and_true, Bool.true_and, Bool.not_true, Bool.not_false, ↓reduceIte]
      exact ih1
theorem c_indexOf (d : Nat) {r c : Nat} (hr : r < 8) (hc : c < 256) (h : z_H) : Rn (d + 6) 243 [z_R 8 r, z_I (nI c)] h = some (some (z_I (mkI (ltc r c))), h) := by
  obtain ⟨t1, t2, t3, t4⟩ := tn_tab r hr
  have e1 : Rn (d + 3) 62 [z_R 9 r, z_I (nI c), z_I (nI 0), z_I (nI (z_tn r))] h = some (some (z_I (mkI (ltc r c))), h) := by
    have := c_ix_loop (d + 2) hr (Int32.toInt8 (nI c)).toInt32 (nI c) (nI 0) h (z_tn r) 0 (by omega)
    rw [ix_tab r hr c hc] at this
    rw [rJ1_indexOfChar_4cfef, bJ1_indexOfChar_4cfef_0]
    exact this
  have e2 : Rn (d + 4) 245 [z_R 8 r] h = some (some (z_I (nI 1)), h) := by
    simp (disch := first | omega | rfl | assumption) only [rJ0_isLatin1_aae02, bJ0_isLatin1_aae02_0, t4, cond_true, bJ0_isLatin1_aae02_18, q_cl, q_ps, q_pn, bI_t, bI_f, gI_same, gI_ne, gR_pI, gJ_pI, gV_pI, gN_pI, gC_pI, gS_pI, gI_pJ, gR_pJ, gV_pJ, gN_pJ, gJ_same, gJ_ne, gI_pR, gJ_pR, gV_pR, gN_pR, gR_same, gR_ne, zin_t, zin_f, x_ltt, x_ltf, x_let, x_lef, x_eqt, x_eqf, n_0, n_1, n_2, n_3, n_4, n_5, n_6, n_7, n_8, n_9, n_10, n_11, n_12, n_16, n_19, n_20, n_24, n_25, n_32, n_40, n_48, n_50, n_60, n_64, n_80, n_96, n_114, n_684, n_1000, n_9330, n_16806, n_1000000, n_5764800, ↓n_m, m_ltI, m_leI, m_lt', m_le', m_eq, m_eq', m_add, m_sub, mm_lt, mm_le, mm_eq, q_sub, nI_add, q_mul, nI_clamp, bz_0, bz_1, q_bzb, b_0, b_1, b_ft, b_tf, ne_eq, not_true_eq_false, not_false_eq_true, decide_true, decide_false, Bool.and_self, Bool.false_and, Bool.and_false, Bool.and_true, Bool.true_and, Bool.not_true, Bool.not_false, ↓reduceIte]
  have e3 : Rn (d + 4) 246 [z_R 8 r] h = some (some (z_I (nI (z_tn r))), h) := by
    have e4 : Rn (d + 3) 247 [z_R 8 r] h = some (some (z_I (nI 0)), h) := by
      simp (disch := first | omega | rfl | assumption) only [rJ0_coder_7d493, bJ0_coder_7d493_0, t4, cond_true, bJ0_coder_7d493_14, q_cl, q_ps, q_pn, bI_t, bI_f, gI_same, gI_ne, gR_pI, gJ_pI, gV_pI, gN_pI, gC_pI, gS_pI, gI_pJ, gR_pJ, gV_pJ, gN_pJ, gJ_same, gJ_ne, gI_pR, gJ_pR, gV_pR, gN_pR, gR_same, gR_ne, zin_t, zin_f, x_ltt, x_ltf, x_let, x_lef, x_eqt, x_eqf, n_0, n_1, n_2, n_3, n_4, n_5, n_6, n_7, n_8, n_9, n_10, n_11, n_12, n_16, n_19, n_20, n_24, n_25, n_32, n_40, n_48, n_50, n_60, n_64, n_80, n_96, n_114, n_684, n_1000, n_9330, n_16806, n_1000000, n_5764800, ↓n_m, m_ltI, m_leI, m_lt', m_le', m_eq, m_eq', m_add, m_sub, mm_lt, mm_le, mm_eq, q_sub, nI_add, q_mul, nI_clamp, bz_0, bz_1, q_bzb, b_0, b_1, b_ft, b_tf, ne_eq, not_true_eq_false, not_false_eq_true, decide_true, decide_false, Bool.and_self, Bool.false_and, Bool.and_false, Bool.and_true, Bool.true_and, Bool.not_true, Bool.not_false, ↓reduceIte]
    have t3' : (Int32.ofNat (z_tn r)) >>> (nI 0 &&& 31) = nI (z_tn r) := t3
    simp (disch := first | omega | rfl | assumption) only [rJ0_length_8abf5, bJ0_length_8abf5_0, t4, cond_true, e4, bJ0_length_8abf5_9, t3', q_cl, q_ps, q_pn, bI_t, bI_f, gI_same, gI_ne, gR_pI, gJ_pI, gV_pI, gN_pI, gC_pI, gS_pI, gI_pJ, gR_pJ, gV_pJ, gN_pJ, gJ_same, gJ_ne, gI_pR, gJ_pR, gV_pR, gN_pR, gR_same, gR_ne, zin_t, zin_f, x_ltt, x_ltf, x_let, x_lef, x_eqt, x_eqf, n_0, n_1, n_2, n_3, n_4, n_5, n_6, n_7, n_8, n_9, n_10, n_11, n_12, n_16, n_19, n_20, n_24, n_25, n_32, n_40, n_48, n_50, n_60, n_64, n_80, n_96, n_114, n_684, n_1000, n_9330, n_16806, n_1000000, n_5764800, ↓n_m, m_ltI, m_leI, m_lt', m_le', m_eq, m_eq', m_add, m_sub, mm_lt, mm_le, mm_eq, q_sub, nI_add, q_mul, nI_clamp, bz_0, bz_1, q_bzb, b_0, b_1, b_ft, b_tf, ne_eq, not_true_eq_false, not_false_eq_true, decide_true, decide_false, Bool.and_self, Bool.false_and, Bool.and_false, Bool.and_true, Bool.true_and, Bool.not_true, Bool.not_false, ↓reduceIte]
  have e5 : Rn (d + 4) 248 [z_R 9 r, z_I (nI c), z_I (nI 0), z_I (nI (z_tn r))] h = some (some (z_I (mkI (ltc r c))), h) := by
    have m1 : Rn (d + 3) 249 [z_I (nI c)] h = some (some (z_I (nI 1)), h) := by
      simp (disch := first | omega | rfl | assumption) only [rJ1_canEncode_9a6ad, bJ1_canEncode_9a6ad_0, n_255, bJ1_canEncode_9a6ad_16, q_cl, q_ps, q_pn, bI_t, bI_f, gI_same, gI_ne, gR_pI, gJ_pI, gV_pI, gN_pI, gC_pI, gS_pI, gI_pJ, gR_pJ, gV_pJ, gN_pJ, gJ_same, gJ_ne, gI_pR, gJ_pR, gV_pR, gN_pR, gR_same, gR_ne, zin_t, zin_f, x_ltt, x_ltf, x_let, x_lef, x_eqt, x_eqf, n_0, n_1, n_2, n_3, n_4, n_5, n_6, n_7, n_8, n_9, n_10, n_11, n_12, n_16, n_19, n_20, n_24, n_25, n_32, n_40, n_48, n_50, n_60, n_64, n_80, n_96, n_114, n_684, n_1000, n_9330, n_16806, n_1000000, n_5764800, ↓n_m, m_ltI, m_leI, m_lt', m_le', m_eq, m_eq', m_add, m_sub, mm_lt, mm_le, mm_eq, q_sub, nI_add, q_mul, nI_clamp, bz_0, bz_1, q_bzb, b_0, b_1, b_ft, b_tf, ne_eq, not_true_eq_false, not_false_eq_true, decide_true, decide_false, Bool.and_self, Bool.false_and, Bool.and_false, Bool.and_true, Bool.true_and, Bool.not_true, Bool.not_false, ↓reduceIte]
    have m2 : Rn (d + 3) 242 [z_I (nI 0), z_I (nI 0)] h = some (some (z_I (nI 0)), h) := by
      simp (disch := first | omega | rfl | assumption) only [rJ9_max_7cf53, bJ9_max_7cf53_0, bJ9_max_7cf53_10, q_cl, q_ps, q_pn, bI_t, bI_f, gI_same, gI_ne, gR_pI, gJ_pI, gV_pI, gN_pI, gC_pI, gS_pI, gI_pJ, gR_pJ, gV_pJ, gN_pJ, gJ_same, gJ_ne, gI_pR, gJ_pR, gV_pR, gN_pR, gR_same, gR_ne, zin_t, zin_f, x_ltt, x_ltf, x_let, x_lef, x_eqt, x_eqf, n_0, n_1, n_2, n_3, n_4, n_5, n_6, n_7, n_8, n_9, n_10, n_11, n_12, n_16, n_19, n_20, n_24, n_25, n_32, n_40, n_48, n_50, n_60, n_64, n_80, n_96, n_114, n_684, n_1000, n_9330, n_16806, n_1000000, n_5764800, ↓n_m, m_ltI, m_leI, m_lt', m_le', m_eq, m_eq', m_add, m_sub, mm_lt, mm_le, mm_eq, q_sub, nI_add, q_mul, nI_clamp, bz_0, bz_1, q_bzb, b_0, b_1, b_ft, b_tf, ne_eq, not_true_eq_false, not_false_eq_true, decide_true, decide_false, Bool.and_self, Bool.false_and, Bool.and_false, Bool.and_true, Bool.true_and, Bool.not_true, Bool.not_false, ↓reduceIte]
    have m3 : Rn (d + 3) 241 [z_I (nI (z_tn r)), z_I (Int32.ofNat (z_tn r))] h = some (some (z_I (nI (z_tn r))), h) := by
      have := c_min (d + 2) (a := z_tn r) (b := z_tn r) (by omega) (by omega) h
      rw [if_neg (by omega)] at this
      exact this
    simp (disch := first | omega | rfl | assumption) only [rJ1_indexOf_4cfef, bJ1_indexOf_4cfef_0, m1, bJ1_indexOf_4cfef_4, bJ1_indexOf_4cfef_9, m2, bJ1_indexOf_4cfef_14, m3, bJ1_indexOf_4cfef_21, bJ1_indexOf_4cfef_29, e1, bJ1_indexOf_4cfef_36, q_cl, q_ps, q_pn, bI_t, bI_f, gI_same, gI_ne, gR_pI, gJ_pI, gV_pI, gN_pI, gC_pI, gS_pI, gI_pJ, gR_pJ, gV_pJ, gN_pJ, gJ_same, gJ_ne, gI_pR, gJ_pR, gV_pR, gN_pR, gR_same, gR_ne, zin_t, zin_f, x_ltt, x_ltf, x_let, x_lef, x_eqt, x_eqf, n_0, n_1, n_2, n_3, n_4, n_5, n_6, n_7, n_8, n_9, n_10, n_11, n_12, n_16, n_19, n_20, n_24, n_25, n_32, n_40, n_48, n_50, n_60, n_64, n_80, n_96, n_114, n_684, n_1000, n_9330, n_16806, n_1000000, n_5764800, ↓n_m, m_ltI, m_leI, m_lt', m_le', m_eq, m_eq', m_add, m_sub, mm_lt, mm_le, mm_eq, q_sub, nI_add, q_mul, nI_clamp, bz_0, bz_1, q_bzb, b_0, b_1, b_ft, b_tf, ne_eq, not_true_eq_false, not_false_eq_true, decide_true, decide_false, Bool.and_self, Bool.false_and, Bool.and_false, Bool.and_true, Bool.true_and, Bool.not_true, Bool.not_false, ↓reduceIte]
  simp (disch := first | omega | rfl | assumption) only [rJ0_indexOf_0f7a4, bJ0_indexOf_0f7a4_0, rJ0_indexOf_7cf53, bJ0_indexOf_7cf53_0, e2, bJ0_indexOf_7cf53_4, t4, cond_true, e3, bJ0_indexOf_7cf53_17, e5, bJ0_indexOf_7cf53_20, bJ0_indexOf_7cf53_36, bJ0_indexOf_0f7a4_6, q_cl, q_ps, q_pn, bI_t, bI_f, gI_same, gI_ne, gR_pI, gJ_pI, gV_pI, gN_pI, gC_pI, gS_pI, gI_pJ, gR_pJ, gV_pJ, gN_pJ, gJ_same, gJ_ne, gI_pR, gJ_pR, gV_pR, gN_pR, gR_same, gR_ne, zin_t, zin_f, x_ltt, x_ltf, x_let, x_lef, x_eqt, x_eqf, n_0, n_1, n_2, n_3, n_4, n_5, n_6, n_7, n_8, n_9, n_10, n_11, n_12, n_16, n_19, n_20, n_24, n_25, n_32, n_40, n_48, n_50, n_60, n_64, n_80, n_96, n_114, n_684, n_1000, n_9330, n_16806, n_1000000, n_5764800, ↓n_m, m_ltI, m_leI, m_lt', m_le', m_eq, m_eq', m_add, m_sub, mm_lt, mm_le, mm_eq, q_sub, nI_add, q_mul, nI_clamp, bz_0, bz_1, q_bzb, b_0, b_1, b_ft, b_tf, ne_eq, not_true_eq_false, not_false_eq_true, decide_true, decide_false, Bool.and_self, Bool.false_and, Bool.and_false, Bool.and_true, Bool.true_and, Bool.not_true, Bool.not_false, ↓reduceIte]
/-! the tape -/
def chn (n : Nat) (tb : Nat → Nat) (k : Nat) : Nat := if k < n then tb k else 999
theorem chn_or {n : Nat} {tb : Nat → Nat} (h : ∀ k, k < n → tb k < 256) (k : Nat) : (k < n ∧ chn n tb k = tb k ∧ chn n tb k < 256) ∨ (n ≤ k ∧ chn n tb k = 999) := by
  unfold chn
  by_cases q : k < n
  · rw [if_pos q]; exact Or.inl ⟨q, rfl, h k q⟩
  · rw [if_neg q]; exact Or.inr ⟨by omega, rfl⟩
def tapC (h : z_H) (n : Nat) (tb : Nat → Nat) : Prop := cOK h ∧ n ≤ 40 ∧ gI h 4070 0 2 = nI n ∧ ∀ k, k < n → tb k < 256 ∧ gI h 40362 0 k = nI (tb k)
abbrev pTp : Nat → Nat → Nat → Prop := fun p _ k => p = 9371 ∨ (p = 4070 ∧ k = 3)
theorem tapC_fr {h h' : z_H} (f : fr pTp h h') {n : Nat} {tb : Nat → Nat} (m : tapC h n tb) : tapC h' n tb := by
  obtain ⟨a1, a2, a3, a4⟩ := m
  refine ⟨fr_cOK f a1, a2, (f.2 _ _ _ (by rintro (z | ⟨z, z2⟩) <;> omega)).trans a3, fun k hk => ⟨(a4 k hk).1, (f.2 _ _ _ (by rintro (z | ⟨z, z2⟩) <;> omega)).trans (a4 k hk).2⟩⟩
abbrev pAt : Nat → Nat → Nat → Prop := fun p _ k => p = 4070 ∧ k = 3
theorem pAt_tp : ∀ p i k, pAt p i k → pTp p i k := fun _ _ _ z => Or.inr z
theorem c_pass (d : Nat) {n a r : Nat} {tb : Nat → Nat} {h : z_H} (m : tapC h n tb) (ha : a < 2 ^ 30) (e : gI h 4070 0 3 = nI a) (hr : r < 8) :
    ∃ h', Rn (d + 7) 73 [z_R 4070 0, z_R 8 r] h = some (some (z_I (mkI (ltc r (chn n tb a)))), h') ∧ gI h' 4070 0 3 = nI (a + (if ltc r (chn n tb a) = 0 then 0 else 1)) ∧ fr pAt h h' := by
  obtain ⟨c, n40, e2, hb⟩ := m
  rcases chn_or (fun k hk => (hb k hk).1) a with ⟨q1, q2, q3⟩ | ⟨q1, q2⟩
  · have e3 := (hb a q1).2
    have ix := c_indexOf d hr q3 h
    have hl := ltc_le r (chn n tb a)
    rw [← q2] at e3
    by_cases h0 : ltc r (chn n tb a) = 0
    · refine ⟨h, ?_, by rw [if_pos h0]; exact e, fr_rfl _ _⟩
      rw [h0, mk_0] at ix ⊢
      simp (disch := first | omega | rfl | assumption) only [bX8_pass_0, bX8_pass_24, bX8_pass_27, bX8_pass_28, bX8_pass_43, rX8_pass, e2, e, c.1 4070 0 rfl, e3, ix, mI_lt0, q_cl, q_ps, q_pn, bI_t, bI_f, gI_same, gI_ne, gR_pI, gJ_pI, gV_pI, gN_pI, gC_pI, gS_pI, gI_pJ, gR_pJ, gV_pJ, gN_pJ, gJ_same, gJ_ne, gI_pR, gJ_pR, gV_pR, gN_pR, gR_same, gR_ne, zin_t, zin_f, x_ltt, x_ltf, x_let, x_lef, x_eqt, x_eqf, n_0, n_1, n_2, n_3, n_4, n_5, n_6, n_7, n_8, n_9, n_10, n_11, n_12, n_16, n_19, n_20, n_24, n_25, n_32, n_40, n_48, n_50, n_60, n_64, n_80, n_96, n_114, n_684, n_1000, n_9330, n_16806, n_1000000, n_5764800, ↓n_m, m_ltI, m_leI, m_lt', m_le', m_eq, m_eq', m_add, m_sub, mm_lt, mm_le, mm_eq, q_sub, nI_add, q_mul, nI_clamp, bz_0, bz_1, q_bzb, b_0, b_1, b_ft, b_tf, ne_eq, not_true_eq_false, not_false_eq_true, decide_true, decide_false, Bool.and_self, Bool.false_and, Bool.and_false, Bool.and_true, Bool.true_and, Bool.not_true, Bool.not_false, ↓reduceIte]
    · refine ⟨pI h 4070 0 3 (nI (a + 1)), ?_, by rw [if_neg h0]; simp (disch := first | omega | rfl | assumption) only [q_cl, q_ps, q_pn, bI_t, bI_f, gI_same, gI_ne, gR_pI, gJ_pI, gV_pI, gN_pI, gC_pI, gS_pI, gI_pJ, gR_pJ, gV_pJ, gN_pJ, gJ_same, gJ_ne, gI_pR, gJ_pR, gV_pR, gN_pR, gR_same, gR_ne, zin_t, zin_f, x_ltt, x_ltf, x_let, x_lef, x_eqt, x_eqf, n_0, n_1, n_2, n_3, n_4, n_5, n_6, n_7, n_8, n_9, n_10, n_11, n_12, n_16, n_19, n_20, n_24, n_25, n_32, n_40, n_48, n_50, n_60, n_64, n_80, n_96, n_114, n_684, n_1000, n_9330, n_16806, n_1000000, n_5764800, ↓n_m, m_ltI, m_leI, m_lt', m_le', m_eq, m_eq', m_add, m_sub, mm_lt, mm_le, mm_eq, q_sub, nI_add, q_mul, nI_clamp, bz_0, bz_1, q_bzb, b_0, b_1, b_ft, b_tf, ne_eq, not_true_eq_false, not_false_eq_true, decide_true, decide_false, Bool.and_self, Bool.false_and, Bool.and_false, Bool.and_true, Bool.true_and, Bool.not_true, Bool.not_false, ↓reduceIte], fr_pI h _ ⟨rfl, rfl⟩⟩
      rw [mkI_pos (by omega)] at ix ⊢
      simp (disch := first | omega | rfl | assumption) only [bX8_pass_0, bX8_pass_24, bX8_pass_27, bX8_pass_28, bX8_pass_43, rX8_pass, e2, e, c.1 4070 0 rfl, e3, ix, q_cl, q_ps, q_pn, bI_t, bI_f, gI_same, gI_ne, gR_pI, gJ_pI, gV_pI, gN_pI, gC_pI, gS_pI, gI_pJ, gR_pJ, gV_pJ, gN_pJ, gJ_same, gJ_ne, gI_pR, gJ_pR, gV_pR, gN_pR, gR_same, gR_ne, zin_t, zin_f, x_ltt, x_ltf, x_let, x_lef, x_eqt, x_eqf, n_0, n_1, n_2, n_3, n_4, n_5, n_6, n_7, n_8, n_9, n_10, n_11, n_12, n_16, n_19, n_20, n_24, n_25, n_32, n_40, n_48, n_50, n_60, n_64, n_80, n_96, n_114, n_684, n_1000, n_9330, n_16806, n_1000000, n_5764800, ↓n_m, m_ltI, m_leI, m_lt', m_le', m_eq, m_eq', m_add, m_sub, mm_lt, mm_le, mm_eq, q_sub, nI_add, q_mul, nI_clamp, bz_0, bz_1, q_bzb, b_0, b_1, b_ft, b_tf, ne_eq, not_true_eq_false, not_false_eq_true, decide_true, decide_false, Bool.and_self, Bool.false_and, Bool.and_false, Bool.and_true, Bool.true_and, Bool.not_true, Bool.not_false, ↓reduceIte]
  · have h0 : ltc r (chn n tb a) = 0 := by rw [q2]; exact ltc_999 r hr
    refine ⟨h, ?_, by rw [if_pos h0]; exact e, fr_rfl _ _⟩
    rw [h0, mk_0]
    simp (disch := first | omega | rfl | assumption) only [bX8_pass_0, bX8_pass_24, bX8_pass_27, bX8_pass_28, bX8_pass_43, rX8_pass, e2, e, mI_lt0, q_cl, q_ps, q_pn, bI_t, bI_f, gI_same, gI_ne, gR_pI, gJ_pI, gV_pI, gN_pI, gC_pI, gS_pI, gI_pJ, gR_pJ, gV_pJ, gN_pJ, gJ_same, gJ_ne, gI_pR, gJ_pR, gV_pR, gN_pR, gR_same, gR_ne, zin_t, zin_f, x_ltt, x_ltf, x_let, x_lef, x_eqt, x_eqf, n_0, n_1, n_2, n_3, n_4, n_5, n_6, n_7, n_8, n_9, n_10, n_11, n_12, n_16, n_19, n_20, n_24, n_25, n_32, n_40, n_48, n_50, n_60, n_64, n_80, n_96, n_114, n_684, n_1000, n_9330, n_16806, n_1000000, n_5764800, ↓n_m, m_ltI, m_leI, m_lt', m_le', m_eq, m_eq', m_add, m_sub, mm_lt, mm_le, mm_eq, q_sub, nI_add, q_mul, nI_clamp, bz_0, bz_1, q_bzb, b_0, b_1, b_ft, b_tf, ne_eq, not_true_eq_false, not_false_eq_true, decide_true, decide_false, Bool.and_self, Bool.false_and, Bool.and_false, Bool.and_true, Bool.true_and, Bool.not_true, Bool.not_false, ↓reduceIte]
/-- a place behind a sign: whether it is right, where it ends, whether it is there, its marks -/
def plR (sg : Nat) (ch : Nat → Nat) (a : Nat) : Bool × Nat × Nat × Nat × Nat :=
  if ch a = sg then
    (if ch (a + 1 + (if mrkc (ch (a + 1)) = 0 then 0 else 1)) = 95 then
      (true, a + 1 + (if mrkc (ch (a + 1)) = 0 then 0 else 1) + 1 + (if mrkc (ch (a + 1 + (if mrkc (ch (a + 1)) = 0 then 0 else 1) + 1)) = 0 then 0 else 1), 1, mrkc (ch (a + 1)), mrkc (ch (a + 1 + (if mrkc (ch (a + 1)) = 0 then 0 else 1) + 1)))
    else (false, a + 1 + (if mrkc (ch (a + 1)) = 0 then 0 else 1), 1, 0, 0))
  else (true, a, 0, 0, 0)
theorem c_passPlace (d : Nat) {n a r f g sg : Nat} {tb : Nat → Nat} {h : z_H} (m : tapC h n tb) (ha : a < 2 ^ 29) (e : gI h 4070 0 3 = nI a) (hr : r < 8) (hsg : ∀ c, ltc r c = if c = sg then 1 else 0) (hf : f < 9) (hg : g + 1 < 9) (hfg : f ≠ g ∧ f ≠ g + 1) :
    ∃ h', Rn (d + 8) 72 [z_R 4070 0, z_R 8 r, z_I (nI f), z_I (nI g)] h = some (some (z_I (bI (plR sg (chn n tb) a).1)), h') ∧ gI h' 4070 0 3 = nI (plR sg (chn n tb) a).2.1 ∧ ((plR sg (chn n tb) a).1 = true → gI h' 9371 0 f = nI (plR sg (chn n tb) a).2.2.1 ∧ gI h' 9371 0 g = mkI (plR sg (chn n tb) a).2.2.2.1 ∧ gI h' 9371 0 (g + 1) = mkI (plR sg (chn n tb) a).2.2.2.2) ∧ fr (fun p _ k => (p = 4070 ∧ k = 3) ∨ (p = 9371 ∧ (k = f ∨ k = g ∨ k = g + 1))) h h' := by
  have f0 : fr (fun p _ k => (p = 4070 ∧ k = 3) ∨ (p = 9371 ∧ (k = f ∨ k = g ∨ k = g + 1))) h (pI (pI (pI h 9371 0 f (nI 0)) 9371 0 g mI) 9371 0 (g + 1) mI) := fr_trans (fr_trans (fr_pI h _ (Or.inr ⟨rfl, Or.inl rfl⟩)) (fr_pI _ _ (Or.inr ⟨rfl, Or.inr (Or.inl rfl)⟩))) (fr_pI _ _ (Or.inr ⟨rfl, Or.inr (Or.inr rfl)⟩))
  have toT : ∀ {x y : z_H}, fr (fun p _ k => (p = 4070 ∧ k = 3) ∨ (p = 9371 ∧ (k = f ∨ k = g ∨ k = g + 1))) x y → fr pTp x y := fun z => fr_mono z (fun p i k q => by
    rcases q with q | q
    · exact Or.inr q
    · exact Or.inl q.1)
  have toF : ∀ {x y : z_H}, fr pAt x y → fr (fun p _ k => (p = 4070 ∧ k = 3) ∨ (p = 9371 ∧ (k = f ∨ k = g ∨ k = g + 1))) x y := fun z => fr_mono z (fun p i k q => Or.inl q)
  have m0 := tapC_fr (toT f0) m
  obtain ⟨h1, p1, p2, p3⟩ := c_pass d m0 (show a < 2 ^ 30 by omega) (by simp (disch := first | omega | rfl | assumption) only [e, q_cl, q_ps, q_pn, bI_t, bI_f, gI_same, gI_ne, gR_pI, gJ_pI, gV_pI, gN_pI, gC_pI, gS_pI, gI_pJ, gR_pJ, gV_pJ, gN_pJ, gJ_same, gJ_ne, gI_pR, gJ_pR, gV_pR, gN_pR, gR_same, gR_ne, zin_t, zin_f, x_ltt, x_ltf, x_let, x_lef, x_eqt, x_eqf, n_0, n_1, n_2, n_3, n_4, n_5, n_6, n_7, n_8, n_9, n_10, n_11, n_12, n_16, n_19, n_20, n_24, n_25, n_32, n_40, n_48, n_50, n_60, n_64, n_80, n_96, n_114, n_684, n_1000, n_9330, n_16806, n_1000000, n_5764800, ↓n_m, m_ltI, m_leI, m_lt', m_le', m_eq, m_eq', m_add, m_sub, mm_lt, mm_le, mm_eq, q_sub, nI_add, q_mul, nI_clamp, bz_0, bz_1, q_bzb, b_0, b_1, b_ft, b_tf, ne_eq, not_true_eq_false, not_false_eq_true, decide_true, decide_false, Bool.and_self, Bool.false_and, Bool.and_false, Bool.and_true, Bool.true_and, Bool.not_true, Bool.not_false, ↓reduceIte]) hr
  have kA : ∀ {x y : z_H} (z : fr pAt x y) k, gI y 9371 0 k = gI x 9371 0 k := fun z k => z.2 _ _ _ (by rintro ⟨q, -⟩; omega)
  have c := m.1
  have F1 := fr_trans f0 (toF p3)
  have start : Rn (d + 8) 72 [z_R 4070 0, z_R 8 r, z_I (nI f), z_I (nI g)] h = EX (d + 7) 72 28 [z_R 4070 0, z_R 8 r, z_I (nI f), z_I (nI g)] [z_I (mkI (ltc r (chn n tb a)))] h1 := by
    simp (disch := first | omega | rfl | assumption) only [rX8_passPlace, bX8_passPlace_0, c.1 4070 1 rfl, p1, q_cl, q_ps, q_pn, bI_t, bI_f, gI_same, gI_ne, gR_pI, gJ_pI, gV_pI, gN_pI, gC_pI, gS_pI, gI_pJ, gR_pJ, gV_pJ, gN_pJ, gJ_same, gJ_ne, gI_pR, gJ_pR, gV_pR, gN_pR, gR_same, gR_ne, zin_t, zin_f, x_ltt, x_ltf, x_let, x_lef, x_eqt, x_eqf, n_0, n_1, n_2, n_3, n_4, n_5, n_6, n_7, n_8, n_9, n_10, n_11, n_12, n_16, n_19, n_20, n_24, n_25, n_32, n_40, n_48, n_50, n_60, n_64, n_80, n_96, n_114, n_684, n_1000, n_9330, n_16806, n_1000000, n_5764800, ↓n_m, m_ltI, m_leI, m_lt', m_le', m_eq, m_eq', m_add, m_sub, mm_lt, mm_le, mm_eq, q_sub, nI_add, q_mul, nI_clamp, bz_0, bz_1, q_bzb, b_0, b_1, b_ft, b_tf, ne_eq, not_true_eq_false, not_false_eq_true, decide_true, decide_false, Bool.and_self, Bool.false_and, Bool.and_false, Bool.and_true, Bool.true_and, Bool.not_true, Bool.not_false, ↓reduceIte]
  unfold plR
  by_cases hs : chn n tb a = sg
  · have hl : ltc r (chn n tb a) = 1 := by rw [hsg, if_pos hs]
    rw [if_pos hs]
    rw [hl] at start p2
    have m1 := tapC_fr (toT F1) m
    have f2 : fr (fun p _ k => (p = 4070 ∧ k = 3) ∨ (p = 9371 ∧ (k = f ∨ k = g ∨ k = g + 1))) h1 (pI h1 9371 0 f (nI 1)) := fr_pI _ _ (Or.inr ⟨rfl, Or.inl rfl⟩)
    have m2 := tapC_fr (toT f2) m1
    obtain ⟨h3, q1, q2, q3⟩ := c_pass d (r := 5) (a := a + 1) m2 (by omega) (by simp (disch := first | omega | rfl | assumption) only [p2, q_cl, q_ps, q_pn, bI_t, bI_f, gI_same, gI_ne, gR_pI, gJ_pI, gV_pI, gN_pI, gC_pI, gS_pI, gI_pJ, gR_pJ, gV_pJ, gN_pJ, gJ_same, gJ_ne, gI_pR, gJ_pR, gV_pR, gN_pR, gR_same, gR_ne, zin_t, zin_f, x_ltt, x_ltf, x_let, x_lef, x_eqt, x_eqf, n_0, n_1, n_2, n_3, n_4, n_5, n_6, n_7, n_8, n_9, n_10, n_11, n_12, n_16, n_19, n_20, n_24, n_25, n_32, n_40, n_48, n_50, n_60, n_64, n_80, n_96, n_114, n_684, n_1000, n_9330, n_16806, n_1000000, n_5764800, ↓n_m, m_ltI, m_leI, m_lt', m_le', m_eq, m_eq', m_add, m_sub, mm_lt, mm_le, mm_eq, q_sub, nI_add, q_mul, nI_clamp, bz_0, bz_1, q_bzb, b_0, b_1, b_ft, b_tf, ne_eq, not_true_eq_false, not_false_eq_true, decide_true, decide_false, Bool.and_self, Bool.false_and, Bool.and_false, Bool.and_true, Bool.true_and, Bool.not_true, Bool.not_false, ↓reduceIte]; rfl) (by decide)
    have hm : ltc 5 (chn n tb (a + 1)) = mrkc (chn n tb (a + 1)) := rfl
    rw [hm] at q1 q2
    generalize ha1 : a + 1 + (if mrkc (chn n tb (a + 1)) = 0 then 0 else 1) = a1 at q2 ⊢
    have ha1' : a1 ≤ a + 2 := by rw [← ha1]; split <;> omega
    have f4 : fr (fun p _ k => (p = 4070 ∧ k = 3) ∨ (p = 9371 ∧ (k = f ∨ k = g ∨ k = g + 1))) h3 (pI h3 9371 0 g (mkI (mrkc (chn n tb (a + 1))))) := fr_pI _ _ (Or.inr ⟨rfl, Or.inr (Or.inl rfl)⟩)
    have m4 := tapC_fr (toT (fr_trans (toF q3) f4)) m2
    obtain ⟨h5, r1, r2, r3⟩ := c_pass d (r := 6) (a := a1) m4 (by omega) (by simp (disch := first | omega | rfl | assumption) only [q2, q_cl, q_ps, q_pn, bI_t, bI_f, gI_same, gI_ne, gR_pI, gJ_pI, gV_pI, gN_pI, gC_pI, gS_pI, gI_pJ, gR_pJ, gV_pJ, gN_pJ, gJ_same, gJ_ne, gI_pR, gJ_pR, gV_pR, gN_pR, gR_same, gR_ne, zin_t, zin_f, x_ltt, x_ltf, x_let, x_lef, x_eqt, x_eqf, n_0, n_1, n_2, n_3, n_4, n_5, n_6, n_7, n_8, n_9, n_10, n_11, n_12, n_16, n_19, n_20, n_24, n_25, n_32, n_40, n_48, n_50, n_60, n_64, n_80, n_96, n_114, n_684, n_1000, n_9330, n_16806, n_1000000, n_5764800, ↓n_m, m_ltI, m_leI, m_lt', m_le', m_eq, m_eq', m_add, m_sub, mm_lt, mm_le, mm_eq, q_sub, nI_add, q_mul, nI_clamp, bz_0, bz_1, q_bzb, b_0, b_1, b_ft, b_tf, ne_eq, not_true_eq_false, not_false_eq_true, decide_true, decide_false, Bool.and_self, Bool.false_and, Bool.and_false, Bool.and_true, Bool.true_and, Bool.not_true, Bool.not_false, ↓reduceIte]) (by decide)
    have hm6 : ltc 6 (chn n tb a1) = if chn n tb a1 = 95 then 1 else 0 := rfl
    have F5 := fr_trans F1 (fr_trans f2 (fr_trans (toF q3) (fr_trans f4 (toF r3))))
    have m5 := tapC_fr (toT F5) m
    have to58 : Rn (d + 8) 72 [z_R 4070 0, z_R 8 r, z_I (nI f), z_I (nI g)] h = EX (d + 7) 72 58 [z_R 4070 0, z_R 8 r, z_I (nI f), z_I (nI g)] [z_I (mkI (ltc 6 (chn n tb a1)))] h5 := by
      rw [start, bX8_passPlace_28, mkI_pos (by omega)]
      simp (disch := first | omega | rfl | assumption) only [bX8_passPlace_33, m1.1.1 4070 1 rfl, q1, bX8_passPlace_51, r1, q_cl, q_ps, q_pn, bI_t, bI_f, gI_same, gI_ne, gR_pI, gJ_pI, gV_pI, gN_pI, gC_pI, gS_pI, gI_pJ, gR_pJ, gV_pJ, gN_pJ, gJ_same, gJ_ne, gI_pR, gJ_pR, gV_pR, gN_pR, gR_same, gR_ne, zin_t, zin_f, x_ltt, x_ltf, x_let, x_lef, x_eqt, x_eqf, n_0, n_1, n_2, n_3, n_4, n_5, n_6, n_7, n_8, n_9, n_10, n_11, n_12, n_16, n_19, n_20, n_24, n_25, n_32, n_40, n_48, n_50, n_60, n_64, n_80, n_96, n_114, n_684, n_1000, n_9330, n_16806, n_1000000, n_5764800, ↓n_m, m_ltI, m_leI, m_lt', m_le', m_eq, m_eq', m_add, m_sub, mm_lt, mm_le, mm_eq, q_sub, nI_add, q_mul, nI_clamp, bz_0, bz_1, q_bzb, b_0, b_1, b_ft, b_tf, ne_eq, not_true_eq_false, not_false_eq_true, decide_true, decide_false, Bool.and_self, Bool.false_and, Bool.and_false, Bool.and_true, Bool.true_and, Bool.not_true, Bool.not_false, ↓reduceIte]
    by_cases h95 : chn n tb a1 = 95
    · rw [if_pos h95]
      rw [hm6, if_pos h95] at to58 r2
      obtain ⟨h7, s1, s2, s3⟩ := c_pass d (r := 5) (a := a1 + 1) m5 (by omega) (by rw [r2]; rfl) (by decide)
      have hm7 : ltc 5 (chn n tb (a1 + 1)) = mrkc (chn n tb (a1 + 1)) := rfl
      rw [hm7] at s1 s2
      have m7 := tapC_fr (fr_mono s3 pAt_tp) m5
      refine ⟨pI h7 9371 0 (g + 1) (mkI (mrkc (chn n tb (a1 + 1)))), ?_, by simp (disch := first | omega | rfl | assumption) only [s2, q_cl, q_ps, q_pn, bI_t, bI_f, gI_same, gI_ne, gR_pI, gJ_pI, gV_pI, gN_pI, gC_pI, gS_pI, gI_pJ, gR_pJ, gV_pJ, gN_pJ, gJ_same, gJ_ne, gI_pR, gJ_pR, gV_pR, gN_pR, gR_same, gR_ne, zin_t, zin_f, x_ltt, x_ltf, x_let, x_lef, x_eqt, x_eqf, n_0, n_1, n_2, n_3, n_4, n_5, n_6, n_7, n_8, n_9, n_10, n_11, n_12, n_16, n_19, n_20, n_24, n_25, n_32, n_40, n_48, n_50, n_60, n_64, n_80, n_96, n_114, n_684, n_1000, n_9330, n_16806, n_1000000, n_5764800, ↓n_m, m_ltI, m_leI, m_lt', m_le', m_eq, m_eq', m_add, m_sub, mm_lt, mm_le, mm_eq, q_sub, nI_add, q_mul, nI_clamp, bz_0, bz_1, q_bzb, b_0, b_1, b_ft, b_tf, ne_eq, not_true_eq_false, not_false_eq_true, decide_true, decide_false, Bool.and_self, Bool.false_and, Bool.and_false, Bool.and_true, Bool.true_and, Bool.not_true, Bool.not_false, ↓reduceIte], fun _ => ⟨?_, ?_, by simp (disch := first | omega | rfl | assumption) only [q_cl, q_ps, q_pn, bI_t, bI_f, gI_same, gI_ne, gR_pI, gJ_pI, gV_pI, gN_pI, gC_pI, gS_pI, gI_pJ, gR_pJ, gV_pJ, gN_pJ, gJ_same, gJ_ne, gI_pR, gJ_pR, gV_pR, gN_pR, gR_same, gR_ne, zin_t, zin_f, x_ltt, x_ltf, x_let, x_lef, x_eqt, x_eqf, n_0, n_1, n_2, n_3, n_4, n_5, n_6, n_7, n_8, n_9, n_10, n_11, n_12, n_16, n_19, n_20, n_24, n_25, n_32, n_40, n_48, n_50, n_60, n_64, n_80, n_96, n_114, n_684, n_1000, n_9330, n_16806, n_1000000, n_5764800, ↓n_m, m_ltI, m_leI, m_lt', m_le', m_eq, m_eq', m_add, m_sub, mm_lt, mm_le, mm_eq, q_sub, nI_add, q_mul, nI_clamp, bz_0, bz_1, q_bzb, b_0, b_1, b_ft, b_tf, ne_eq, not_true_eq_false, not_false_eq_true, decide_true, decide_false, Bool.and_self, Bool.false_and, Bool.and_false, Bool.and_true, Bool.true_and, Bool.not_true, Bool.not_false, ↓reduceIte]⟩, fr_trans F5 (fr_trans (toF s3) (fr_pI _ _ (Or.inr ⟨rfl, Or.inr (Or.inr rfl)⟩)))⟩
      · rw [to58, bX8_passPlace_58, mkI_pos (by omega)]
        simp (disch := first | omega | rfl | assumption) only [bX8_passPlace_63, m5.1.1 4070 1 rfl, s1, bX8_passPlace_76, q_cl, q_ps, q_pn, bI_t, bI_f, gI_same, gI_ne, gR_pI, gJ_pI, gV_pI, gN_pI, gC_pI, gS_pI, gI_pJ, gR_pJ, gV_pJ, gN_pJ, gJ_same, gJ_ne, gI_pR, gJ_pR, gV_pR, gN_pR, gR_same, gR_ne, zin_t, zin_f, x_ltt, x_ltf, x_let, x_lef, x_eqt, x_eqf, n_0, n_1, n_2, n_3, n_4, n_5, n_6, n_7, n_8, n_9, n_10, n_11, n_12, n_16, n_19, n_20, n_24, n_25, n_32, n_40, n_48, n_50, n_60, n_64, n_80, n_96, n_114, n_684, n_1000, n_9330, n_16806, n_1000000, n_5764800, ↓n_m, m_ltI, m_leI, m_lt', m_le', m_eq, m_eq', m_add, m_sub, mm_lt, mm_le, mm_eq, q_sub, nI_add, q_mul, nI_clamp, bz_0, bz_1, q_bzb, b_0, b_1, b_ft, b_tf, ne_eq, not_true_eq_false, not_false_eq_true, decide_true, decide_false, Bool.and_self, Bool.false_and, Bool.and_false, Bool.and_true, Bool.true_and, Bool.not_true, Bool.not_false, ↓reduceIte]
      · simp (disch := first | omega | rfl | assumption) only [kA s3, kA r3, kA q3, q_cl, q_ps, q_pn, bI_t, bI_f, gI_same, gI_ne, gR_pI, gJ_pI, gV_pI, gN_pI, gC_pI, gS_pI, gI_pJ, gR_pJ, gV_pJ, gN_pJ, gJ_same, gJ_ne, gI_pR, gJ_pR, gV_pR, gN_pR, gR_same, gR_ne, zin_t, zin_f, x_ltt, x_ltf, x_let, x_lef, x_eqt, x_eqf, n_0, n_1, n_2, n_3, n_4, n_5, n_6, n_7, n_8, n_9, n_10, n_11, n_12, n_16, n_19, n_20, n_24, n_25, n_32, n_40, n_48, n_50, n_60, n_64, n_80, n_96, n_114, n_684, n_1000, n_9330, n_16806, n_1000000, n_5764800, ↓n_m, m_ltI, m_leI, m_lt', m_le', m_eq, m_eq', m_add, m_sub, mm_lt, mm_le, mm_eq, q_sub, nI_add, q_mul, nI_clamp, bz_0, bz_1, q_bzb, b_0, b_1, b_ft, b_tf, ne_eq, not_true_eq_false, not_false_eq_true, decide_true, decide_false, Bool.and_self, Bool.false_and, Bool.and_false, Bool.and_true, Bool.true_and, Bool.not_true, Bool.not_false, ↓reduceIte]
      · simp (disch := first | omega | rfl | assumption) only [kA s3, kA r3, q_cl, q_ps, q_pn, bI_t, bI_f, gI_same, gI_ne, gR_pI, gJ_pI, gV_pI, gN_pI, gC_pI, gS_pI, gI_pJ, gR_pJ, gV_pJ, gN_pJ, gJ_same, gJ_ne, gI_pR, gJ_pR, gV_pR, gN_pR, gR_same, gR_ne, zin_t, zin_f, x_ltt, x_ltf, x_let, x_lef, x_eqt, x_eqf, n_0, n_1, n_2, n_3, n_4, n_5, n_6, n_7, n_8, n_9, n_10, n_11, n_12, n_16, n_19, n_20, n_24, n_25, n_32, n_40, n_48, n_50, n_60, n_64, n_80, n_96, n_114, n_684, n_1000, n_9330, n_16806, n_1000000, n_5764800, ↓n_m, m_ltI, m_leI, m_lt', m_le', m_eq, m_eq', m_add, m_sub, mm_lt, mm_le, mm_eq, q_sub, nI_add, q_mul, nI_clamp, bz_0, bz_1, q_bzb, b_0, b_1, b_ft, b_tf, ne_eq, not_true_eq_false, not_false_eq_true, decide_true, decide_false, Bool.and_self, Bool.false_and, Bool.and_false, Bool.and_true, Bool.true_and, Bool.not_true, Bool.not_false, ↓reduceIte]
    · rw [if_neg h95]
      rw [hm6, if_neg h95, mk_0] at to58
      rw [hm6, if_neg h95, if_pos rfl, Nat.add_zero] at r2
      refine ⟨h5, ?_, r2, fun z => (by cases z), F5⟩
      rw [to58, bX8_passPlace_58]
      simp (disch := first | omega | rfl | assumption) only [show (nI 0 ≤ mI) = False from by decide, q_cl, q_ps, q_pn, bI_t, bI_f, gI_same, gI_ne, gR_pI, gJ_pI, gV_pI, gN_pI, gC_pI, gS_pI, gI_pJ, gR_pJ, gV_pJ, gN_pJ, gJ_same, gJ_ne, gI_pR, gJ_pR, gV_pR, gN_pR, gR_same, gR_ne, zin_t, zin_f, x_ltt, x_ltf, x_let, x_lef, x_eqt, x_eqf, n_0, n_1, n_2, n_3, n_4, n_5, n_6, n_7, n_8, n_9, n_10, n_11, n_12, n_16, n_19, n_20, n_24, n_25, n_32, n_40, n_48, n_50, n_60, n_64, n_80, n_96, n_114, n_684, n_1000, n_9330, n_16806, n_1000000, n_5764800, ↓n_m, m_ltI, m_leI, m_lt', m_le', m_eq, m_eq', m_add, m_sub, mm_lt, mm_le, mm_eq, q_sub, nI_add, q_mul, nI_clamp, bz_0, bz_1, q_bzb, b_0, b_1, b_ft, b_tf, ne_eq, not_true_eq_false, not_false_eq_true, decide_true, decide_false, Bool.and_self, Bool.false_and, Bool.and_false, Bool.and_true, Bool.true_and, Bool.not_true, Bool.not_false, ↓reduceIte]
  · have hl : ltc r (chn n tb a) = 0 := by rw [hsg, if_neg hs]
    rw [if_neg hs]
    rw [hl, mk_0] at start
    rw [hl, if_pos rfl, Nat.add_zero] at p2
    refine ⟨h1, ?_, p2, fun _ => ⟨?_, ?_, ?_⟩, F1⟩
    · rw [start, bX8_passPlace_28]
      simp (disch := first | omega | rfl | assumption) only [show (nI 0 ≤ mI) = False from by decide, q_cl, q_ps, q_pn, bI_t, bI_f, gI_same, gI_ne, gR_pI, gJ_pI, gV_pI, gN_pI, gC_pI, gS_pI, gI_pJ, gR_pJ, gV_pJ, gN_pJ, gJ_same, gJ_ne, gI_pR, gJ_pR, gV_pR, gN_pR, gR_same, gR_ne, zin_t, zin_f, x_ltt, x_ltf, x_let, x_lef, x_eqt, x_eqf, n_0, n_1, n_2, n_3, n_4, n_5, n_6, n_7, n_8, n_9, n_10, n_11, n_12, n_16, n_19, n_20, n_24, n_25, n_32, n_40, n_48, n_50, n_60, n_64, n_80, n_96, n_114, n_684, n_1000, n_9330, n_16806, n_1000000, n_5764800, ↓n_m, m_ltI, m_leI, m_lt', m_le', m_eq, m_eq', m_add, m_sub, mm_lt, mm_le, mm_eq, q_sub, nI_add, q_mul, nI_clamp, bz_0, bz_1, q_bzb, b_0, b_1, b_ft, b_tf, ne_eq, not_true_eq_false, not_false_eq_true, decide_true, decide_false, Bool.and_self, Bool.false_and, Bool.and_false, Bool.and_true, Bool.true_and, Bool.not_true, Bool.not_false, ↓reduceIte]
    · simp (disch := first | omega | rfl | assumption) only [kA p3, q_cl, q_ps, q_pn, bI_t, bI_f, gI_same, gI_ne, gR_pI, gJ_pI, gV_pI, gN_pI, gC_pI, gS_pI, gI_pJ, gR_pJ, gV_pJ, gN_pJ, gJ_same, gJ_ne, gI_pR, gJ_pR, gV_pR, gN_pR, gR_same, gR_ne, zin_t, zin_f, x_ltt, x_ltf, x_let, x_lef, x_eqt, x_eqf, n_0, n_1, n_2, n_3, n_4, n_5, n_6, n_7, n_8, n_9, n_10, n_11, n_12, n_16, n_19, n_20, n_24, n_25, n_32, n_40, n_48, n_50, n_60, n_64, n_80, n_96, n_114, n_684, n_1000, n_9330, n_16806, n_1000000, n_5764800, ↓n_m, m_ltI, m_leI, m_lt', m_le', m_eq, m_eq', m_add, m_sub, mm_lt, mm_le, mm_eq, q_sub, nI_add, q_mul, nI_clamp, bz_0, bz_1, q_bzb, b_0, b_1, b_ft, b_tf, ne_eq, not_true_eq_false, not_false_eq_true, decide_true, decide_false, Bool.and_self, Bool.false_and, Bool.and_false, Bool.and_true, Bool.true_and, Bool.not_true, Bool.not_false, ↓reduceIte]
    · rw [mk_0]; simp (disch := first | omega | rfl | assumption) only [kA p3, q_cl, q_ps, q_pn, bI_t, bI_f, gI_same, gI_ne, gR_pI, gJ_pI, gV_pI, gN_pI, gC_pI, gS_pI, gI_pJ, gR_pJ, gV_pJ, gN_pJ, gJ_same, gJ_ne, gI_pR, gJ_pR, gV_pR, gN_pR, gR_same, gR_ne, zin_t, zin_f, x_ltt, x_ltf, x_let, x_lef, x_eqt, x_eqf, n_0, n_1, n_2, n_3, n_4, n_5, n_6, n_7, n_8, n_9, n_10, n_11, n_12, n_16, n_19, n_20, n_24, n_25, n_32, n_40, n_48, n_50, n_60, n_64, n_80, n_96, n_114, n_684, n_1000, n_9330, n_16806, n_1000000, n_5764800, ↓n_m, m_ltI, m_leI, m_lt', m_le', m_eq, m_eq', m_add, m_sub, mm_lt, mm_le, mm_eq, q_sub, nI_add, q_mul, nI_clamp, bz_0, bz_1, q_bzb, b_0, b_1, b_ft, b_tf, ne_eq, not_true_eq_false, not_false_eq_true, decide_true, decide_false, Bool.and_self, Bool.false_and, Bool.and_false, Bool.and_true, Bool.true_and, Bool.not_true, Bool.not_false, ↓reduceIte]
    · rw [mk_0]; simp (disch := first | omega | rfl | assumption) only [kA p3, q_cl, q_ps, q_pn, bI_t, bI_f, gI_same, gI_ne, gR_pI, gJ_pI, gV_pI, gN_pI, gC_pI, gS_pI, gI_pJ, gR_pJ, gV_pJ, gN_pJ, gJ_same, gJ_ne, gI_pR, gJ_pR, gV_pR, gN_pR, gR_same, gR_ne, zin_t, zin_f, x_ltt, x_ltf, x_let, x_lef, x_eqt, x_eqf, n_0, n_1, n_2, n_3, n_4, n_5, n_6, n_7, n_8, n_9, n_10, n_11, n_12, n_16, n_19, n_20, n_24, n_25, n_32, n_40, n_48, n_50, n_60, n_64, n_80, n_96, n_114, n_684, n_1000, n_9330, n_16806, n_1000000, n_5764800, ↓n_m, m_ltI, m_leI, m_lt', m_le', m_eq, m_eq', m_add, m_sub, mm_lt, mm_le, mm_eq, q_sub, nI_add, q_mul, nI_clamp, bz_0, bz_1, q_bzb, b_0, b_1, b_ft, b_tf, ne_eq, not_true_eq_false, not_false_eq_true, decide_true, decide_false, Bool.and_self, Bool.false_and, Bool.and_false, Bool.and_true, Bool.true_and, Bool.not_true, Bool.not_false, ↓reduceIte]
