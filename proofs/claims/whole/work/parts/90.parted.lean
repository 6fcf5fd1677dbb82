/-! ===== parted ===== -/
def mnX (lb m v : Nat) : Nat := if lb ≤ v ∧ v < m then v else m
def nyF (A B : Nat → Nat) (lb : Nat) : Nat → Nat
  | 0 => 1000
  | w + 1 => mnX lb (mnX lb (nyF A B lb w) (A w)) (B w)
theorem nyF_succ (A B : Nat → Nat) (lb w : Nat) : nyF A B lb (w + 1) = mnX lb (mnX lb (nyF A B lb w) (A w)) (B w) := rfl
theorem mnX_le (lb m v : Nat) : mnX lb m v ≤ m := by unfold mnX; split <;> omega
theorem mnX_ge {lb v : Nat} (m : Nat) (h : lb ≤ v) : mnX lb m v ≤ v := by unfold mnX; split <;> omega
theorem mnX_or (lb m v : Nat) : mnX lb m v = m ∨ (mnX lb m v = v ∧ lb ≤ v) := by
  unfold mnX
  split
  · next q => exact Or.inr ⟨rfl, q.1⟩
  · exact Or.inl rfl
theorem nyF_le (A B : Nat → Nat) (lb : Nat) : ∀ n, nyF A B lb n ≤ 1000 := by
  intro n
  induction n with
  | zero => exact Nat.le_refl _
  | succ n ih => rw [nyF_succ]; exact Nat.le_trans (mnX_le _ _ _) (Nat.le_trans (mnX_le _ _ _) ih)
theorem nyF_min (A B : Nat → Nat) (lb : Nat) : ∀ n k, k < n → (lb ≤ A k → nyF A B lb n ≤ A k) ∧ (lb ≤ B k → nyF A B lb n ≤ B k) := by
  intro n
  induction n with
  | zero => intro k hk; omega
  | succ n ih =>
    intro k hk
    rw [nyF_succ]
    by_cases e : k = n
    · subst e
      exact ⟨fun q => Nat.le_trans (mnX_le _ _ _) (mnX_ge _ q), fun q => mnX_ge _ q⟩
    · obtain ⟨i1, i2⟩ := ih k (by omega)
      exact ⟨fun q => Nat.le_trans (mnX_le _ _ _) (Nat.le_trans (mnX_le _ _ _) (i1 q)), fun q => Nat.le_trans (mnX_le _ _ _) (Nat.le_trans (mnX_le _ _ _) (i2 q))⟩
theorem nyF_ex (A B : Nat → Nat) (lb : Nat) : ∀ n, nyF A B lb n = 1000 ∨ (lb ≤ nyF A B lb n ∧ ∃ k, k < n ∧ (nyF A B lb n = A k ∨ nyF A B lb n = B k)) := by
  intro n
  induction n with
  | zero => exact Or.inl rfl
  | succ n ih =>
    rw [nyF_succ]
    rcases mnX_or lb (mnX lb (nyF A B lb n) (A n)) (B n) with e | ⟨e, q⟩
    · rw [e]
      rcases mnX_or lb (nyF A B lb n) (A n) with e2 | ⟨e2, q2⟩
      · rw [e2]
        rcases ih with z | ⟨z1, k, z2, z3⟩
        · exact Or.inl z
        · exact Or.inr ⟨z1, k, by omega, z3⟩
      · rw [e2]
        exact Or.inr ⟨q2, n, by omega, Or.inl rfl⟩
    · rw [e]
      exact Or.inr ⟨q, n, by omega, Or.inr rfl⟩
def pyI (m : Nat) : Int32 := if m < 1000 then nI m else mI
/-- a year, or none, as the class has it, and the first year behind it -/
def ybd (y3 : Int32) (lb : Nat) : Prop := (y3 = mI ∧ lb = 0) ∨ ∃ y, y < 1000 ∧ y3 = nI y ∧ lb = y + 1
theorem ybd_le {y3 : Int32} {lb v : Nat} (h : ybd y3 lb) (hv : v < 1000000) : (nI v ≤ y3) = (v < lb) := by
  rcases h with ⟨rfl, rfl⟩ | ⟨y, hy, rfl, rfl⟩
  · rw [m_le' (by omega)]; simp
  · rw [nI_leI (by omega) (by omega)]; exact propext (by omega)
theorem ybd_m {y3 : Int32} {lb : Nat} (h : ybd y3 lb) : (mI ≤ y3) = True := by
  rcases h with ⟨rfl, rfl⟩ | ⟨y, hy, rfl, rfl⟩
  · exact mm_le
  · exact m_leI (by omega)
theorem c_min (d : Nat) {a b : Nat} (ha : a < 2 ^ 31) (hb : b < 2 ^ 31) (h : z_H) : Rn (d + 1) 241 [z_I (nI a), z_I (nI b)] h = some (some (z_I (nI (if b < a then b else a))), h) := by
  rw [rJ9_min_7cf53, bJ9_min_7cf53_0]
  by_cases q : b < a
  · rw [if_pos q]
    simp (disch := first | omega | rfl | assumption) only [bJ9_min_7cf53_9, bJ9_min_7cf53_10, q_cl, q_ps, q_pn, bI_t, bI_f, gI_same, gI_ne, gR_pI, gJ_pI, gV_pI, gN_pI, gC_pI, gS_pI, gI_pJ, gR_pJ, gV_pJ, gN_pJ, gJ_same, gJ_ne, gI_pR, gJ_pR, gV_pR, gN_pR, gR_same, gR_ne, zin_t, zin_f, x_ltt, x_ltf, x_let, x_lef, x_eqt, x_eqf, n_0, n_1, n_2, n_3, n_4, n_5, n_6, n_7, n_8, n_9, n_10, n_11, n_12, n_16, n_19, n_20, n_24, n_25, n_32, n_40, n_48, n_50, n_60, n_64, n_80, n_96, n_114, n_684, n_1000, n_9330, n_16806, n_1000000, n_5764800, ↓n_m, m_ltI, m_leI, m_lt', m_le', m_eq, m_eq', m_add, m_sub, mm_lt, mm_le, mm_eq, q_sub, nI_add, q_mul, nI_clamp, bz_0, bz_1, q_bzb, b_0, b_1, b_ft, b_tf, ne_eq, not_true_eq_false, not_false_eq_true, decide_true, decide_false, Bool.and_self, Bool.false_and, Bool.and_false, Bool.and_true, Bool.true_and, Bool.not_true, Bool.not_false, ↓reduceIte]
  · rw [if_neg q]
    simp (disch := first | omega | rfl | assumption) only [bJ9_min_7cf53_10, q_cl, q_ps, q_pn, bI_t, bI_f, gI_same, gI_ne, gR_pI, gJ_pI, gV_pI, gN_pI, gC_pI, gS_pI, gI_pJ, gR_pJ, gV_pJ, gN_pJ, gJ_same, gJ_ne, gI_pR, gJ_pR, gV_pR, gN_pR, gR_same, gR_ne, zin_t, zin_f, x_ltt, x_ltf, x_let, x_lef, x_eqt, x_eqf, n_0, n_1, n_2, n_3, n_4, n_5, n_6, n_7, n_8, n_9, n_10, n_11, n_12, n_16, n_19, n_20, n_24, n_25, n_32, n_40, n_48, n_50, n_60, n_64, n_80, n_96, n_114, n_684, n_1000, n_9330, n_16806, n_1000000, n_5764800, ↓n_m, m_ltI, m_leI, m_lt', m_le', m_eq, m_eq', m_add, m_sub, mm_lt, mm_le, mm_eq, q_sub, nI_add, q_mul, nI_clamp, bz_0, bz_1, q_bzb, b_0, b_1, b_ft, b_tf, ne_eq, not_true_eq_false, not_false_eq_true, decide_true, decide_false, Bool.and_self, Bool.false_and, Bool.and_false, Bool.and_true, Bool.true_and, Bool.not_true, Bool.not_false, ↓reduceIte]
theorem c_ny_A (d : Nat) {h : z_H} (ck : cOK h) {n a b m w va vb lb : Nat} {y3 : Int32} (hn : n ≤ 8) (hw : w < n) (ha : a < 8) (hb : b < 8) (e1 : gI h 11030 0 0 = nI n) (ea : gI h 64221 0 (8 * w + a) = comI va) (eb : gI h 64221 0 (8 * w + b) = comI vb) (hy : ybd y3 lb) (hm : m ≤ 1000) (u6 u7 : z_V) :
    EX (d + 1) 49 8 [z_R 11030 0, z_I (nI a), z_I (nI b), z_I y3, z_I (nI m), z_I (nI w), u6, u7] [] h = EX (d + 1) 49 63 [z_R 11030 0, z_I (nI a), z_I (nI b), z_I y3, z_I (nI m), z_I (nI w), z_I (comI va), z_I (comI vb)] [z_I (nI (mnX lb m va))] h := by
  have hwa : w * 8 + a = 8 * w + a := by omega
  have hwb : w * 8 + b = 8 * w + b := by omega
  rw [bX3_nextYear_8]
  by_cases hf : va < 1000000
  · have hle := ybd_le hy hf
    rw [comI_fin hf] at ea ⊢
    by_cases hl : va < lb
    · have e2 : mnX lb m va = m := if_neg (by omega)
      rw [e2]
      simp (disch := first | omega | rfl | assumption) only [e1, ck.1 11030 2 rfl, hwa, hwb, ea, eb, hle, hl, bX3_nextYear_61, q_cl, q_ps, q_pn, bI_t, bI_f, gI_same, gI_ne, gR_pI, gJ_pI, gV_pI, gN_pI, gC_pI, gS_pI, gI_pJ, gR_pJ, gV_pJ, gN_pJ, gJ_same, gJ_ne, gI_pR, gJ_pR, gV_pR, gN_pR, gR_same, gR_ne, zin_t, zin_f, x_ltt, x_ltf, x_let, x_lef, x_eqt, x_eqf, n_0, n_1, n_2, n_3, n_4, n_5, n_6, n_7, n_8, n_9, n_10, n_11, n_12, n_16, n_19, n_20, n_24, n_25, n_32, n_40, n_48, n_50, n_60, n_64, n_80, n_96, n_114, n_684, n_1000, n_9330, n_16806, n_1000000, n_5764800, ↓n_m, m_ltI, m_leI, m_lt', m_le', m_eq, m_eq', m_add, m_sub, mm_lt, mm_le, mm_eq, q_sub, nI_add, q_mul, nI_clamp, bz_0, bz_1, q_bzb, b_0, b_1, b_ft, b_tf, ne_eq, not_true_eq_false, not_false_eq_true, decide_true, decide_false, Bool.and_self, Bool.false_and, Bool.and_false, Bool.and_true, Bool.true_and, Bool.not_true, Bool.not_false, ↓reduceIte]
    · have e2 : mnX lb m va = if va < m then va else m := by
        unfold mnX
        by_cases q : va < m
        · rw [if_pos q, if_pos ⟨by omega, q⟩]
        · rw [if_neg q, if_neg (fun z => q z.2)]
      rw [e2]
      simp (disch := first | omega | rfl | assumption) only [e1, ck.1 11030 2 rfl, hwa, hwb, ea, eb, hle, hl, c_min d (a := m) (b := va) (by omega) (by omega), bX3_nextYear_58, q_cl, q_ps, q_pn, bI_t, bI_f, gI_same, gI_ne, gR_pI, gJ_pI, gV_pI, gN_pI, gC_pI, gS_pI, gI_pJ, gR_pJ, gV_pJ, gN_pJ, gJ_same, gJ_ne, gI_pR, gJ_pR, gV_pR, gN_pR, gR_same, gR_ne, zin_t, zin_f, x_ltt, x_ltf, x_let, x_lef, x_eqt, x_eqf, n_0, n_1, n_2, n_3, n_4, n_5, n_6, n_7, n_8, n_9, n_10, n_11, n_12, n_16, n_19, n_20, n_24, n_25, n_32, n_40, n_48, n_50, n_60, n_64, n_80, n_96, n_114, n_684, n_1000, n_9330, n_16806, n_1000000, n_5764800, ↓n_m, m_ltI, m_leI, m_lt', m_le', m_eq, m_eq', m_add, m_sub, mm_lt, mm_le, mm_eq, q_sub, nI_add, q_mul, nI_clamp, bz_0, bz_1, q_bzb, b_0, b_1, b_ft, b_tf, ne_eq, not_true_eq_false, not_false_eq_true, decide_true, decide_false, Bool.and_self, Bool.false_and, Bool.and_false, Bool.and_true, Bool.true_and, Bool.not_true, Bool.not_false, ↓reduceIte]
  · have e2 : mnX lb m va = m := if_neg (by omega)
    rw [comI_inf hf] at ea ⊢
    rw [e2]
    simp (disch := first | omega | rfl | assumption) only [e1, ck.1 11030 2 rfl, hwa, hwb, ea, eb, ybd_m hy, bX3_nextYear_61, q_cl, q_ps, q_pn, bI_t, bI_f, gI_same, gI_ne, gR_pI, gJ_pI, gV_pI, gN_pI, gC_pI, gS_pI, gI_pJ, gR_pJ, gV_pJ, gN_pJ, gJ_same, gJ_ne, gI_pR, gJ_pR, gV_pR, gN_pR, gR_same, gR_ne, zin_t, zin_f, x_ltt, x_ltf, x_let, x_lef, x_eqt, x_eqf, n_0, n_1, n_2, n_3, n_4, n_5, n_6, n_7, n_8, n_9, n_10, n_11, n_12, n_16, n_19, n_20, n_24, n_25, n_32, n_40, n_48, n_50, n_60, n_64, n_80, n_96, n_114, n_684, n_1000, n_9330, n_16806, n_1000000, n_5764800, ↓n_m, m_ltI, m_leI, m_lt', m_le', m_eq, m_eq', m_add, m_sub, mm_lt, mm_le, mm_eq, q_sub, nI_add, q_mul, nI_clamp, bz_0, bz_1, q_bzb, b_0, b_1, b_ft, b_tf, ne_eq, not_true_eq_false, not_false_eq_true, decide_true, decide_false, Bool.and_self, Bool.false_and, Bool.and_false, Bool.and_true, Bool.true_and, Bool.not_true, Bool.not_false, ↓reduceIte]
theorem c_ny_B (d : Nat) {h : z_H} {m w vb lb : Nat} {y3 : Int32} (hw : w < 8) (hy : ybd y3 lb) (hm : m ≤ 1000) (xa xb x4 x6 : Int32) :
    EX (d + 1) 49 63 [z_R 11030 0, z_I xa, z_I xb, z_I y3, z_I x4, z_I (nI w), z_I x6, z_I (comI vb)] [z_I (nI m)] h = EX (d + 1) 49 8 [z_R 11030 0, z_I xa, z_I xb, z_I y3, z_I (nI (mnX lb m vb)), z_I (nI (w + 1)), z_I x6, z_I (comI vb)] [] h := by
  rw [bX3_nextYear_63]
  by_cases hf : vb < 1000000
  · have hle := ybd_le hy hf
    rw [comI_fin hf]
    by_cases hl : vb < lb
    · have e2 : mnX lb m vb = m := if_neg (by omega)
      rw [e2]
      simp (disch := first | omega | rfl | assumption) only [hle, hl, bX3_nextYear_81, bX3_nextYear_83, q_cl, q_ps, q_pn, bI_t, bI_f, gI_same, gI_ne, gR_pI, gJ_pI, gV_pI, gN_pI, gC_pI, gS_pI, gI_pJ, gR_pJ, gV_pJ, gN_pJ, gJ_same, gJ_ne, gI_pR, gJ_pR, gV_pR, gN_pR, gR_same, gR_ne, zin_t, zin_f, x_ltt, x_ltf, x_let, x_lef, x_eqt, x_eqf, n_0, n_1, n_2, n_3, n_4, n_5, n_6, n_7, n_8, n_9, n_10, n_11, n_12, n_16, n_19, n_20, n_24, n_25, n_32, n_40, n_48, n_50, n_60, n_64, n_80, n_96, n_114, n_684, n_1000, n_9330, n_16806, n_1000000, n_5764800, ↓n_m, m_ltI, m_leI, m_lt', m_le', m_eq, m_eq', m_add, m_sub, mm_lt, mm_le, mm_eq, q_sub, nI_add, q_mul, nI_clamp, bz_0, bz_1, q_bzb, b_0, b_1, b_ft, b_tf, ne_eq, not_true_eq_false, not_false_eq_true, decide_true, decide_false, Bool.and_self, Bool.false_and, Bool.and_false, Bool.and_true, Bool.true_and, Bool.not_true, Bool.not_false, ↓reduceIte]
    · have e2 : mnX lb m vb = if vb < m then vb else m := by
        unfold mnX
        by_cases q : vb < m
        · rw [if_pos q, if_pos ⟨by omega, q⟩]
        · rw [if_neg q, if_neg (fun z => q z.2)]
      rw [e2]
      simp (disch := first | omega | rfl | assumption) only [hle, hl, c_min d (a := m) (b := vb) (by omega) (by omega), bX3_nextYear_78, bX3_nextYear_83, q_cl, q_ps, q_pn, bI_t, bI_f, gI_same, gI_ne, gR_pI, gJ_pI, gV_pI, gN_pI, gC_pI, gS_pI, gI_pJ, gR_pJ, gV_pJ, gN_pJ, gJ_same, gJ_ne, gI_pR, gJ_pR, gV_pR, gN_pR, gR_same, gR_ne, zin_t, zin_f, x_ltt, x_ltf, x_let, x_lef, x_eqt, x_eqf, n_0, n_1, n_2, n_3, n_4, n_5, n_6, n_7, n_8, n_9, n_10, n_11, n_12, n_16, n_19, n_20, n_24, n_25, n_32, n_40, n_48, n_50, n_60, n_64, n_80, n_96, n_114, n_684, n_1000, n_9330, n_16806, n_1000000, n_5764800, ↓n_m, m_ltI, m_leI, m_lt', m_le', m_eq, m_eq', m_add, m_sub, mm_lt, mm_le, mm_eq, q_sub, nI_add, q_mul, nI_clamp, bz_0, bz_1, q_bzb, b_0, b_1, b_ft, b_tf, ne_eq, not_true_eq_false, not_false_eq_true, decide_true, decide_false, Bool.and_self, Bool.false_and, Bool.and_false, Bool.and_true, Bool.true_and, Bool.not_true, Bool.not_false, ↓reduceIte]
  · have e2 : mnX lb m vb = m := if_neg (by omega)
    rw [comI_inf hf]
    rw [e2]
    simp (disch := first | omega | rfl | assumption) only [ybd_m hy, bX3_nextYear_81, bX3_nextYear_83, q_cl, q_ps, q_pn, bI_t, bI_f, gI_same, gI_ne, gR_pI, gJ_pI, gV_pI, gN_pI, gC_pI, gS_pI, gI_pJ, gR_pJ, gV_pJ, gN_pJ, gJ_same, gJ_ne, gI_pR, gJ_pR, gV_pR, gN_pR, gR_same, gR_ne, zin_t, zin_f, x_ltt, x_ltf, x_let, x_lef, x_eqt, x_eqf, n_0, n_1, n_2, n_3, n_4, n_5, n_6, n_7, n_8, n_9, n_10, n_11, n_12, n_16, n_19, n_20, n_24, n_25, n_32, n_40, n_48, n_50, n_60, n_64, n_80, n_96, n_114, n_684, n_1000, n_9330, n_16806, n_1000000, n_5764800, ↓n_m, m_ltI, m_leI, m_lt', m_le', m_eq, m_eq', m_add, m_sub, mm_lt, mm_le, mm_eq, q_sub, nI_add, q_mul, nI_clamp, bz_0, bz_1, q_bzb, b_0, b_1, b_ft, b_tf, ne_eq, not_true_eq_false, not_false_eq_true, decide_true, decide_false, Bool.and_self, Bool.false_and, Bool.and_false, Bool.and_true, Bool.true_and, Bool.not_true, Bool.not_false, ↓reduceIte]
theorem c_ny_loop (d : Nat) {h : z_H} (ck : cOK h) {n a b lb : Nat} {A B : Nat → Nat} {y3 : Int32} (hn : n ≤ 8) (ha : a < 8) (hb : b < 8) (e1 : gI h 11030 0 0 = nI n) (eA : ∀ k, k < n → gI h 64221 0 (8 * k + a) = comI (A k)) (eB : ∀ k, k < n → gI h 64221 0 (8 * k + b) = comI (B k)) (hy : ybd y3 lb) : ∀ (r w : Nat) (u6 u7 : z_V), w + r = n →
    EX (d + 1) 49 8 [z_R 11030 0, z_I (nI a), z_I (nI b), z_I y3, z_I (nI (nyF A B lb w)), z_I (nI w), u6, u7] [] h = some (some (z_I (pyI (nyF A B lb n))), h) := by
  intro r
  induction r with
  | zero =>
    intro w u6 u7 hw
    have : w = n := by omega
    subst this
    have hle := nyF_le A B lb w
    rw [bX3_nextYear_8]
    unfold pyI
    by_cases q : nyF A B lb w < 1000
    · rw [if_pos q]
      simp (disch := first | omega | rfl | assumption) only [e1, bX3_nextYear_91, bX3_nextYear_105, q_cl, q_ps, q_pn, bI_t, bI_f, gI_same, gI_ne, gR_pI, gJ_pI, gV_pI, gN_pI, gC_pI, gS_pI, gI_pJ, gR_pJ, gV_pJ, gN_pJ, gJ_same, gJ_ne, gI_pR, gJ_pR, gV_pR, gN_pR, gR_same, gR_ne, zin_t, zin_f, x_ltt, x_ltf, x_let, x_lef, x_eqt, x_eqf, n_0, n_1, n_2, n_3, n_4, n_5, n_6, n_7, n_8, n_9, n_10, n_11, n_12, n_16, n_19, n_20, n_24, n_25, n_32, n_40, n_48, n_50, n_60, n_64, n_80, n_96, n_114, n_684, n_1000, n_9330, n_16806, n_1000000, n_5764800, ↓n_m, m_ltI, m_leI, m_lt', m_le', m_eq, m_eq', m_add, m_sub, mm_lt, mm_le, mm_eq, q_sub, nI_add, q_mul, nI_clamp, bz_0, bz_1, q_bzb, b_0, b_1, b_ft, b_tf, ne_eq, not_true_eq_false, not_false_eq_true, decide_true, decide_false, Bool.and_self, Bool.false_and, Bool.and_false, Bool.and_true, Bool.true_and, Bool.not_true, Bool.not_false, ↓reduceIte]
    · rw [if_neg q]
      simp (disch := first | omega | rfl | assumption) only [e1, bX3_nextYear_91, bX3_nextYear_104, bX3_nextYear_105, q_cl, q_ps, q_pn, bI_t, bI_f, gI_same, gI_ne, gR_pI, gJ_pI, gV_pI, gN_pI, gC_pI, gS_pI, gI_pJ, gR_pJ, gV_pJ, gN_pJ, gJ_same, gJ_ne, gI_pR, gJ_pR, gV_pR, gN_pR, gR_same, gR_ne, zin_t, zin_f, x_ltt, x_ltf, x_let, x_lef, x_eqt, x_eqf, n_0, n_1, n_2, n_3, n_4, n_5, n_6, n_7, n_8, n_9, n_10, n_11, n_12, n_16, n_19, n_20, n_24, n_25, n_32, n_40, n_48, n_50, n_60, n_64, n_80, n_96, n_114, n_684, n_1000, n_9330, n_16806, n_1000000, n_5764800, ↓n_m, m_ltI, m_leI, m_lt', m_le', m_eq, m_eq', m_add, m_sub, mm_lt, mm_le, mm_eq, q_sub, nI_add, q_mul, nI_clamp, bz_0, bz_1, q_bzb, b_0, b_1, b_ft, b_tf, ne_eq, not_true_eq_false, not_false_eq_true, decide_true, decide_false, Bool.and_self, Bool.false_and, Bool.and_false, Bool.and_true, Bool.true_and, Bool.not_true, Bool.not_false, ↓reduceIte]
  | succ r ih =>
    intro w u6 u7 hw
    rw [c_ny_A d ck hn (show w < n by omega) ha hb e1 (eA w (by omega)) (eB w (by omega)) hy (nyF_le A B lb w) u6 u7, c_ny_B d (by omega) hy (Nat.le_trans (mnX_le _ _ _) (nyF_le A B lb w))]
    exact ih (w + 1) _ _ (by omega)
theorem c_nextYear (d : Nat) {h : z_H} (ck : cOK h) {n a b lb : Nat} {A B : Nat → Nat} {y3 : Int32} (hn : n ≤ 8) (ha : a < 8) (hb : b < 8) (e1 : gI h 11030 0 0 = nI n) (eA : ∀ k, k < n → gI h 64221 0 (8 * k + a) = comI (A k)) (eB : ∀ k, k < n → gI h 64221 0 (8 * k + b) = comI (B k)) (hy : ybd y3 lb) :
    Rn (d + 2) 49 [z_R 11030 0, z_I (nI a), z_I (nI b), z_I y3] h = some (some (z_I (pyI (nyF A B lb n))), h) := by
  rw [rX3_nextYear, bX3_nextYear_0]
  exact c_ny_loop d ck hn ha hb e1 eA eB hy n 0 z_U z_U (by omega)
/-- the first year, of some, in which something is not -/
def isR (Y : Nat → Prop) (al : Nat → Bool) (R : Nat) : Prop := R ≤ 1000 ∧ (R < 1000 → Y R ∧ al R = false) ∧ ∀ y, Y y → y < 1000 → al y = false → R ≤ y
theorem isR_uniq {Y : Nat → Prop} {al : Nat → Bool} {R S : Nat} (h : isR Y al R) (h' : isR Y al S) : R = S := by
  obtain ⟨a1, a2, a3⟩ := h
  obtain ⟨b1, b2, b3⟩ := h'
  by_cases q : R < S
  · have z := a2 (by omega)
    have := b3 R z.1 (by omega) z.2
    omega
  · by_cases q2 : S < R
    · have z := b2 (by omega)
      have := a3 S z.1 (by omega) z.2
      omega
    · omega
def slt (A B : Nat → Nat) (j : Nat) : Nat := if j < 8 then A j else B (j - 8)
def dnB (A B : Nat → Nat) (n lb j : Nat) : Bool := decide (n ≤ j % 8) || decide (slt A B j < lb)
theorem c_part_loop (d : Nat) {N : Nat} {xs : Nat → Int32} {G : Gh} {e : Int32} {rd sh : Nat → Nat} {n : Nat} {wl wp wy : Nat → Nat} {nl : Nat} {lw : Nat → List Nat} {a b : Nat} (ha : a < 8) (hb : b < 8) {A B : Nat → Nat} (hA : ∀ k, A k = arr rd sh (wp k) (wy k) a) (hB : ∀ k, B k = arr rd sh (wp k) (wy k) b) : ∀ (r i lb : Nat) (h : z_H), i + r = 16 → cSp h N xs G e rd sh n wl wp wy nl lw →
    (∀ y, (∃ k, k < n ∧ (y = A k ∨ y = B k)) → y < lb → alk nl (fun i => spF G rd sh n wl wp wy a y (lw i)) (fun i => spF G rd sh n wl wp wy b y (lw i)) = true) → i ≤ cntB (dnB A B n lb) 16 →
    ∃ R h', EX (d + 5) 48 11 [z_R 11030 0, z_I (nI a), z_I (nI b), z_I (pyI (nyF A B lb n)), z_I (nI i)] [] h = some (some (z_I (pyI R)), h') ∧ isR (fun y => ∃ k, k < n ∧ (y = A k ∨ y = B k)) (fun y => alk nl (fun i => spF G rd sh n wl wp wy a y (lw i)) (fun i => spF G rd sh n wl wp wy b y (lw i))) R ∧ frX [12] h h' := by
  intro r
  induction r with
  | zero =>
    intro i lb h hi m hal hcn
    have hn := m.2.1.2.2.2.1
    have hall := cntB_all 16 (show 16 ≤ cntB (dnB A B n lb) 16 by omega)
    refine ⟨1000, h, ?_, ⟨Nat.le_refl _, fun z => by omega, fun y hy hy1 hf => ?_⟩, frX_rfl _ _⟩
    · rw [bX3_firstParting_11, show i = 16 by omega, show pyI 1000 = mI from rfl]
      simp (disch := first | omega | rfl | assumption) only [bX3_firstParting_60, q_cl, q_ps, q_pn, bI_t, bI_f, gI_same, gI_ne, gR_pI, gJ_pI, gV_pI, gN_pI, gC_pI, gS_pI, gI_pJ, gR_pJ, gV_pJ, gN_pJ, gJ_same, gJ_ne, gI_pR, gJ_pR, gV_pR, gN_pR, gR_same, gR_ne, zin_t, zin_f, x_ltt, x_ltf, x_let, x_lef, x_eqt, x_eqf, n_0, n_1, n_2, n_3, n_4, n_5, n_6, n_7, n_8, n_9, n_10, n_11, n_12, n_16, n_19, n_20, n_24, n_25, n_32, n_40, n_48, n_50, n_60, n_64, n_80, n_96, n_114, n_684, n_1000, n_9330, n_16806, n_1000000, n_5764800, ↓n_m, m_ltI, m_leI, m_lt', m_le', m_eq, m_eq', m_add, m_sub, mm_lt, mm_le, mm_eq, q_sub, nI_add, q_mul, nI_clamp, bz_0, bz_1, q_bzb, b_0, b_1, b_ft, b_tf, ne_eq, not_true_eq_false, not_false_eq_true, decide_true, decide_false, Bool.and_self, Bool.false_and, Bool.and_false, Bool.and_true, Bool.true_and, Bool.not_true, Bool.not_false, ↓reduceIte]
    · have : y < lb := by
        obtain ⟨k, hk, q⟩ := hy
        have h1 := hall k (by omega)
        have h2 := hall (k + 8) (by omega)
        unfold dnB slt at h1 h2
        rw [if_pos (by omega), Nat.mod_eq_of_lt (show k < 8 by omega)] at h1
        rw [if_neg (by omega), Nat.add_sub_cancel, Nat.add_mod_right, Nat.mod_eq_of_lt (show k < 8 by omega)] at h2
        rw [Bool.or_eq_true, decide_eq_true_eq, decide_eq_true_eq] at h1 h2
        omega
      have z := hal y hy this
      exact absurd (z.symm.trans hf) (by decide)
  | succ r ih =>
    intro i lb h hi m hal hcn
    have hn := m.2.1.2.2.2.1
    have hle := nyF_le A B lb n
    rw [bX3_firstParting_11]
    by_cases h1000 : nyF A B lb n < 1000
    · rcases nyF_ex A B lb n with z | ⟨z1, k, hk, z2⟩
      · omega
      · generalize hy : nyF A B lb n = y at *
        obtain ⟨h1, p1, p2, p3⟩ := c_speakList d ha h1000 m
        have F1 := frX_fr p3 (pSpk_g a)
        have m1 := cSp_fr F1 m
        obtain ⟨h2, q1, q2, q3⟩ := c_speakList d hb h1000 m1
        have F2 := frX_fr q3 (pSpk_g b)
        have m2 := cSp_fr F2 m1
        have ok : okG G := (mT_of m.1).1
        have hl := m.2.2.2.1
        have v1 : ∀ j, j < nl → gI h2 96291 0 (12 * a + j) = nI (rowN (spF G rd sh n wl wp wy a y (lw j))) := fun j hj => by
          by_cases e : a = b
          · subst e; exact q2 j hj
          · rw [q3.2 _ _ _ (fun z => by have := z.2; omega)]
            exact p2 j hj
        have e2 := c_speakAlike (d + 4) (I_c m2.1) m2.2.2.2.1 m2.2.2.2.2.1 ha hb (f := fun i => spF G rd sh n wl wp wy a y (lw i)) (g := fun i => spF G rd sh n wl wp wy b y (lw i)) (fun i hi => ⟨spF_ok ok m.2.1 a y (m.2.2.2.2.2.2 i hi).1, v1 i hi⟩) (fun i hi => ⟨spF_ok ok m.2.1 b y (m.2.2.2.2.2.2 i hi).1, q2 i hi⟩)
        have ey : pyI y = nI y := if_pos h1000
        rw [ey]
        cases hx : alk nl (fun i => spF G rd sh n wl wp wy a y (lw i)) (fun i => spF G rd sh n wl wp wy b y (lw i)) with
        | false =>
          rw [hx] at e2
          refine ⟨y, h2, ?_, ⟨by omega, fun _ => ⟨⟨k, hk, z2⟩, hx⟩, fun y' hy' hy1 hf => ?_⟩, frX_trans F1 F2⟩
          · rw [ey]
            simp (disch := first | omega | rfl | assumption) only [p1, bX3_firstParting_29, q1, bX3_firstParting_35, e2, bX3_firstParting_41, q_cl, q_ps, q_pn, bI_t, bI_f, gI_same, gI_ne, gR_pI, gJ_pI, gV_pI, gN_pI, gC_pI, gS_pI, gI_pJ, gR_pJ, gV_pJ, gN_pJ, gJ_same, gJ_ne, gI_pR, gJ_pR, gV_pR, gN_pR, gR_same, gR_ne, zin_t, zin_f, x_ltt, x_ltf, x_let, x_lef, x_eqt, x_eqf, n_0, n_1, n_2, n_3, n_4, n_5, n_6, n_7, n_8, n_9, n_10, n_11, n_12, n_16, n_19, n_20, n_24, n_25, n_32, n_40, n_48, n_50, n_60, n_64, n_80, n_96, n_114, n_684, n_1000, n_9330, n_16806, n_1000000, n_5764800, ↓n_m, m_ltI, m_leI, m_lt', m_le', m_eq, m_eq', m_add, m_sub, mm_lt, mm_le, mm_eq, q_sub, nI_add, q_mul, nI_clamp, bz_0, bz_1, q_bzb, b_0, b_1, b_ft, b_tf, ne_eq, not_true_eq_false, not_false_eq_true, decide_true, decide_false, Bool.and_self, Bool.false_and, Bool.and_false, Bool.and_true, Bool.true_and, Bool.not_true, Bool.not_false, ↓reduceIte]
          · by_cases q : y' < lb
            · have z := hal y' hy' q
              exact absurd (z.symm.trans hf) (by decide)
            · obtain ⟨k', hk', q'⟩ := hy'
              obtain ⟨w1, w2⟩ := nyF_min A B lb n k' hk'
              rw [hy] at w1 w2
              omega
        | true =>
          rw [hx] at e2
          have ck2 := I_c m2.1
          have hny := c_nextYear (d + 3) ck2 (lb := y + 1) (A := A) (B := B) (y3 := nI y) hn ha hb m2.2.1.2.2.2.2.1 (fun k hk => by rw [hA]; exact m2.2.2.1 k hk a ha) (fun k hk => by rw [hB]; exact m2.2.2.1 k hk b hb) (Or.inr ⟨y, h1000, rfl, rfl⟩)
          have hmono : ∀ j, j < 16 → dnB A B n lb j = true → dnB A B n (y + 1) j = true := fun j _ hj => by
            unfold dnB at hj ⊢
            rw [Bool.or_eq_true, decide_eq_true_eq, decide_eq_true_eq] at hj ⊢
            omega
          have hmore : i + 1 ≤ cntB (dnB A B n (y + 1)) 16 := by
            have hnew : ∃ j, j < 16 ∧ dnB A B n lb j = false ∧ dnB A B n (y + 1) j = true := by
              rcases z2 with z2 | z2
              · refine ⟨k, by omega, ?_, ?_⟩
                · unfold dnB slt
                  rw [if_pos (by omega), Nat.mod_eq_of_lt (show k < 8 by omega), Bool.or_eq_false_iff, decide_eq_false_iff_not, decide_eq_false_iff_not]
                  omega
                · unfold dnB slt
                  rw [if_pos (by omega), Bool.or_eq_true, decide_eq_true_eq, decide_eq_true_eq]
                  omega
              · refine ⟨k + 8, by omega, ?_, ?_⟩
                · unfold dnB slt
                  rw [if_neg (by omega), Nat.add_sub_cancel, Nat.add_mod_right, Nat.mod_eq_of_lt (show k < 8 by omega), Bool.or_eq_false_iff, decide_eq_false_iff_not, decide_eq_false_iff_not]
                  omega
                · unfold dnB slt
                  rw [if_neg (by omega), Nat.add_sub_cancel, Bool.or_eq_true, decide_eq_true_eq, decide_eq_true_eq]
                  omega
            obtain ⟨j, j1, j2, j3⟩ := hnew
            have := cntB_more j2 j3 16 j1 hmono
            omega
          obtain ⟨R, h', r1, r2, r3⟩ := ih (i + 1) (y + 1) h2 (by omega) m2 (fun y' hy' hl' => by
            by_cases q : y' < lb
            · exact hal y' hy' q
            · have hyy : y' = y := by
                obtain ⟨k', hk', q'⟩ := hy'
                obtain ⟨w1, w2⟩ := nyF_min A B lb n k' hk'
                rw [hy] at w1 w2
                omega
              rw [hyy]
              exact hx) hmore
          refine ⟨R, h', ?_, r2, frX_trans F1 (frX_trans F2 r3)⟩
          simp (disch := first | omega | rfl | assumption) only [p1, bX3_firstParting_29, q1, bX3_firstParting_35, e2, bX3_firstParting_41, bX3_firstParting_46, hny, bX3_firstParting_53, q_cl, q_ps, q_pn, bI_t, bI_f, gI_same, gI_ne, gR_pI, gJ_pI, gV_pI, gN_pI, gC_pI, gS_pI, gI_pJ, gR_pJ, gV_pJ, gN_pJ, gJ_same, gJ_ne, gI_pR, gJ_pR, gV_pR, gN_pR, gR_same, gR_ne, zin_t, zin_f, x_ltt, x_ltf, x_let, x_lef, x_eqt, x_eqf, n_0, n_1, n_2, n_3, n_4, n_5, n_6, n_7, n_8, n_9, n_10, n_11, n_12, n_16, n_19, n_20, n_24, n_25, n_32, n_40, n_48, n_50, n_60, n_64, n_80, n_96, n_114, n_684, n_1000, n_9330, n_16806, n_1000000, n_5764800, ↓n_m, m_ltI, m_leI, m_lt', m_le', m_eq, m_eq', m_add, m_sub, mm_lt, mm_le, mm_eq, q_sub, nI_add, q_mul, nI_clamp, bz_0, bz_1, q_bzb, b_0, b_1, b_ft, b_tf, ne_eq, not_true_eq_false, not_false_eq_true, decide_true, decide_false, Bool.and_self, Bool.false_and, Bool.and_false, Bool.and_true, Bool.true_and, Bool.not_true, Bool.not_false, ↓reduceIte]
          exact r1
    · refine ⟨1000, h, ?_, ⟨Nat.le_refl _, fun z => by omega, fun y hy hy1 hf => ?_⟩, frX_rfl _ _⟩
      · rw [show pyI (nyF A B lb n) = mI from if_neg h1000, show pyI 1000 = mI from rfl]
        simp (disch := first | omega | rfl | assumption) only [bX3_firstParting_60, q_cl, q_ps, q_pn, bI_t, bI_f, gI_same, gI_ne, gR_pI, gJ_pI, gV_pI, gN_pI, gC_pI, gS_pI, gI_pJ, gR_pJ, gV_pJ, gN_pJ, gJ_same, gJ_ne, gI_pR, gJ_pR, gV_pR, gN_pR, gR_same, gR_ne, zin_t, zin_f, x_ltt, x_ltf, x_let, x_lef, x_eqt, x_eqf, n_0, n_1, n_2, n_3, n_4, n_5, n_6, n_7, n_8, n_9, n_10, n_11, n_12, n_16, n_19, n_20, n_24, n_25, n_32, n_40, n_48, n_50, n_60, n_64, n_80, n_96, n_114, n_684, n_1000, n_9330, n_16806, n_1000000, n_5764800, ↓n_m, m_ltI, m_leI, m_lt', m_le', m_eq, m_eq', m_add, m_sub, mm_lt, mm_le, mm_eq, q_sub, nI_add, q_mul, nI_clamp, bz_0, bz_1, q_bzb, b_0, b_1, b_ft, b_tf, ne_eq, not_true_eq_false, not_false_eq_true, decide_true, decide_false, Bool.and_self, Bool.false_and, Bool.and_false, Bool.and_true, Bool.true_and, Bool.not_true, Bool.not_false, ↓reduceIte]
      · by_cases q : y < lb
        · have z := hal y hy q
          exact absurd (z.symm.trans hf) (by decide)
        · obtain ⟨k', hk', q'⟩ := hy
          obtain ⟨w1, w2⟩ := nyF_min A B lb n k' hk'
          omega
/-! the reference -/
theorem m_part_loop (d : Nat) {G : Gh} {n : Nat} {wl : Nat → Nat} {cc : Nat → Nat → Nat} {nl : Nat} {lw : Nat → List Nat} {a b : Nat} (ha : a < 8) (hb : b < 8) : ∀ (r k F : Nat) (u5 : z_V) (h : z_H), k + r = 64 → mSl h G n wl cc nl lw → F ≤ 1000 → (F < 1000 → (∃ j, j < n ∧ (F = cc j a ∨ F = cc j b)) ∧ alk nl (fun i => spC G n wl cc a F (lw i)) (fun i => spC G n wl cc b F (lw i)) = false) → (∀ j, j < k → j / 8 < n → (j % 8 = a ∨ j % 8 = b) → cc (j / 8) (j % 8) < 1000 → alk nl (fun i => spC G n wl cc a (cc (j / 8) (j % 8)) (lw i)) (fun i => spC G n wl cc b (cc (j / 8) (j % 8)) (lw i)) = false → F ≤ cc (j / 8) (j % 8)) →
    ∃ R u h', EX (d + 8) 232 32 [z_R 49100 0, z_I (nI a), z_I (nI b), z_I (nI F), z_I (nI k), u5] [] h = EX (d + 8) 232 122 [z_R 49100 0, z_I (nI a), z_I (nI b), z_I (nI R), z_I (nI 64), u] [] h' ∧ isR (fun y => ∃ k, k < n ∧ (y = cc k a ∨ y = cc k b)) (fun y => alk nl (fun i => spC G n wl cc a y (lw i)) (fun i => spC G n wl cc b y (lw i))) R ∧ fr tW h h' := by
  intro r
  induction r with
  | zero =>
    intro k F u5 h hk m hF hF1 hF2
    have : k = 64 := by omega
    subst this
    have hn := m.1.2.1
    refine ⟨F, u5, h, ?_, ⟨hF, hF1, fun y hy hy1 hf => ?_⟩, fr_rfl _ _⟩
    · rw [bX11_parted_32]
      simp (disch := first | omega | rfl | assumption) only [q_cl, q_ps, q_pn, bI_t, bI_f, gI_same, gI_ne, gR_pI, gJ_pI, gV_pI, gN_pI, gC_pI, gS_pI, gI_pJ, gR_pJ, gV_pJ, gN_pJ, gJ_same, gJ_ne, gI_pR, gJ_pR, gV_pR, gN_pR, gR_same, gR_ne, zin_t, zin_f, x_ltt, x_ltf, x_let, x_lef, x_eqt, x_eqf, n_0, n_1, n_2, n_3, n_4, n_5, n_6, n_7, n_8, n_9, n_10, n_11, n_12, n_16, n_19, n_20, n_24, n_25, n_32, n_40, n_48, n_50, n_60, n_64, n_80, n_96, n_114, n_684, n_1000, n_9330, n_16806, n_1000000, n_5764800, ↓n_m, m_ltI, m_leI, m_lt', m_le', m_eq, m_eq', m_add, m_sub, mm_lt, mm_le, mm_eq, q_sub, nI_add, q_mul, nI_clamp, bz_0, bz_1, q_bzb, b_0, b_1, b_ft, b_tf, ne_eq, not_true_eq_false, not_false_eq_true, decide_true, decide_false, Bool.and_self, Bool.false_and, Bool.and_false, Bool.and_true, Bool.true_and, Bool.not_true, Bool.not_false, ↓reduceIte]
    · obtain ⟨j, hj, q⟩ := hy
      rcases q with rfl | rfl
      · have z := hF2 (8 * j + a) (by omega)
        rw [show (8 * j + a) / 8 = j by omega, show (8 * j + a) % 8 = a by omega] at z
        exact z hj (Or.inl rfl) hy1 hf
      · have z := hF2 (8 * j + b) (by omega)
        rw [show (8 * j + b) / 8 = j by omega, show (8 * j + b) % 8 = b by omega] at z
        exact z hj (Or.inr rfl) hy1 hf
  | succ r ih =>
    intro k F u5 h hk m hF hF1 hF2
    have m' := m
    obtain ⟨⟨a1, a2, a3, a4, a5⟩, b2, b3, b4⟩ := m
    have q1 : nI k / nI 8 = nI (k / 8) := q_div (by omega) (by omega) (by omega)
    by_cases hkn : k / 8 < n
    · by_cases hab : k % 8 = a ∨ k % 8 = b
      · obtain ⟨v1, v2⟩ := a5 (k / 8) hkn (k % 8) (by omega)
        rw [show 8 * (k / 8) + k % 8 = k by omega] at v2
        have to74 : EX (d + 8) 232 32 [z_R 49100 0, z_I (nI a), z_I (nI b), z_I (nI F), z_I (nI k), u5] [] h = EX (d + 8) 232 74 [z_R 49100 0, z_I (nI a), z_I (nI b), z_I (nI F), z_I (nI k), u5] [z_I (nI 1)] h := by
          rw [bX11_parted_32]
          by_cases ea : k % 8 = a
          · have e0 : k - k / 8 * 8 = a := by omega
            simp (disch := first | omega | rfl | assumption) only [a3, q1, e0, bX11_parted_69, q_cl, q_ps, q_pn, bI_t, bI_f, gI_same, gI_ne, gR_pI, gJ_pI, gV_pI, gN_pI, gC_pI, gS_pI, gI_pJ, gR_pJ, gV_pJ, gN_pJ, gJ_same, gJ_ne, gI_pR, gJ_pR, gV_pR, gN_pR, gR_same, gR_ne, zin_t, zin_f, x_ltt, x_ltf, x_let, x_lef, x_eqt, x_eqf, n_0, n_1, n_2, n_3, n_4, n_5, n_6, n_7, n_8, n_9, n_10, n_11, n_12, n_16, n_19, n_20, n_24, n_25, n_32, n_40, n_48, n_50, n_60, n_64, n_80, n_96, n_114, n_684, n_1000, n_9330, n_16806, n_1000000, n_5764800, ↓n_m, m_ltI, m_leI, m_lt', m_le', m_eq, m_eq', m_add, m_sub, mm_lt, mm_le, mm_eq, q_sub, nI_add, q_mul, nI_clamp, bz_0, bz_1, q_bzb, b_0, b_1, b_ft, b_tf, ne_eq, not_true_eq_false, not_false_eq_true, decide_true, decide_false, Bool.and_self, Bool.false_and, Bool.and_false, Bool.and_true, Bool.true_and, Bool.not_true, Bool.not_false, ↓reduceIte]
          · have e0 : k - k / 8 * 8 ≠ a := by omega
            have e3 : k - k / 8 * 8 = b := by omega
            simp (disch := first | omega | rfl | assumption) only [a3, q1, bX11_parted_69, q_cl, q_ps, q_pn, bI_t, bI_f, gI_same, gI_ne, gR_pI, gJ_pI, gV_pI, gN_pI, gC_pI, gS_pI, gI_pJ, gR_pJ, gV_pJ, gN_pJ, gJ_same, gJ_ne, gI_pR, gJ_pR, gV_pR, gN_pR, gR_same, gR_ne, zin_t, zin_f, x_ltt, x_ltf, x_let, x_lef, x_eqt, x_eqf, n_0, n_1, n_2, n_3, n_4, n_5, n_6, n_7, n_8, n_9, n_10, n_11, n_12, n_16, n_19, n_20, n_24, n_25, n_32, n_40, n_48, n_50, n_60, n_64, n_80, n_96, n_114, n_684, n_1000, n_9330, n_16806, n_1000000, n_5764800, ↓n_m, m_ltI, m_leI, m_lt', m_le', m_eq, m_eq', m_add, m_sub, mm_lt, mm_le, mm_eq, q_sub, nI_add, q_mul, nI_clamp, bz_0, bz_1, q_bzb, b_0, b_1, b_ft, b_tf, ne_eq, not_true_eq_false, not_false_eq_true, decide_true, decide_false, Bool.and_self, Bool.false_and, Bool.and_false, Bool.and_true, Bool.true_and, Bool.not_true, Bool.not_false, ↓reduceIte]
        rw [to74, bX11_parted_74]
        by_cases hlt : cc (k / 8) (k % 8) < F
        · obtain ⟨h1, p1, p2⟩ := m_speakAlike d ha hb (show cc (k / 8) (k % 8) < 1000 by omega) m'
          have m1 := mSl_tW p2 m'
          have v3 := (m1.1.2.2.2.2 (k / 8) hkn (k % 8) (by omega)).2
          rw [show 8 * (k / 8) + k % 8 = k by omega] at v3
          cases hx : alk nl (fun i => spC G n wl cc a (cc (k / 8) (k % 8)) (lw i)) (fun i => spC G n wl cc b (cc (k / 8) (k % 8)) (lw i)) with
          | true =>
            rw [hx] at p1
            obtain ⟨R, u, h', s1, s2, s3⟩ := ih (k + 1) F (z_I (nI 1)) h1 (by omega) m1 hF hF1 (fun j hj x1 x2 x3 x4 => by
              by_cases e : j = k
              · subst e; rw [hx] at x4; cases x4
              · exact hF2 j (by omega) x1 x2 x3 x4)
            refine ⟨R, u, h', ?_, s2, fr_trans p2 s3⟩
            simp (disch := first | omega | rfl | assumption) only [a1.2.1 47 rfl, v2, p1, bX11_parted_105, bX11_parted_116, q_cl, q_ps, q_pn, bI_t, bI_f, gI_same, gI_ne, gR_pI, gJ_pI, gV_pI, gN_pI, gC_pI, gS_pI, gI_pJ, gR_pJ, gV_pJ, gN_pJ, gJ_same, gJ_ne, gI_pR, gJ_pR, gV_pR, gN_pR, gR_same, gR_ne, zin_t, zin_f, x_ltt, x_ltf, x_let, x_lef, x_eqt, x_eqf, n_0, n_1, n_2, n_3, n_4, n_5, n_6, n_7, n_8, n_9, n_10, n_11, n_12, n_16, n_19, n_20, n_24, n_25, n_32, n_40, n_48, n_50, n_60, n_64, n_80, n_96, n_114, n_684, n_1000, n_9330, n_16806, n_1000000, n_5764800, ↓n_m, m_ltI, m_leI, m_lt', m_le', m_eq, m_eq', m_add, m_sub, mm_lt, mm_le, mm_eq, q_sub, nI_add, q_mul, nI_clamp, bz_0, bz_1, q_bzb, b_0, b_1, b_ft, b_tf, ne_eq, not_true_eq_false, not_false_eq_true, decide_true, decide_false, Bool.and_self, Bool.false_and, Bool.and_false, Bool.and_true, Bool.true_and, Bool.not_true, Bool.not_false, ↓reduceIte]
            exact s1
          | false =>
            rw [hx] at p1
            obtain ⟨R, u, h', s1, s2, s3⟩ := ih (k + 1) (cc (k / 8) (k % 8)) (z_I (nI 1)) h1 (by omega) m1 (by omega) (fun _ => ⟨⟨k / 8, hkn, by rcases hab with z | z <;> rw [z] <;> simp⟩, hx⟩) (fun j hj x1 x2 x3 x4 => by
              by_cases e : j = k
              · subst e; exact Nat.le_refl _
              · have := hF2 j (by omega) x1 x2 x3 x4
                omega)
            refine ⟨R, u, h', ?_, s2, fr_trans p2 s3⟩
            simp (disch := first | omega | rfl | assumption) only [a1.2.1 47 rfl, v2, p1, bX11_parted_105, m1.1.1.2.1 47 rfl, v3, bX11_parted_116, q_cl, q_ps, q_pn, bI_t, bI_f, gI_same, gI_ne, gR_pI, gJ_pI, gV_pI, gN_pI, gC_pI, gS_pI, gI_pJ, gR_pJ, gV_pJ, gN_pJ, gJ_same, gJ_ne, gI_pR, gJ_pR, gV_pR, gN_pR, gR_same, gR_ne, zin_t, zin_f, x_ltt, x_ltf, x_let, x_lef, x_eqt, x_eqf, n_0, n_1, n_2, n_3, n_4, n_5, n_6, n_7, n_8, n_9, n_10, n_11, n_12, n_16, n_19, n_20, n_24, n_25, n_32, n_40, n_48, n_50, n_60, n_64, n_80, n_96, n_114, n_684, n_1000, n_9330, n_16806, n_1000000, n_5764800, ↓n_m, m_ltI, m_leI, m_lt', m_le', m_eq, m_eq', m_add, m_sub, mm_lt, mm_le, mm_eq, q_sub, nI_add, q_mul, nI_clamp, bz_0, bz_1, q_bzb, b_0, b_1, b_ft, b_tf, ne_eq, not_true_eq_false, not_false_eq_true, decide_true, decide_false, Bool.and_self, Bool.false_and, Bool.and_false, Bool.and_true, Bool.true_and, Bool.not_true, Bool.not_false, ↓reduceIte]
            exact s1
        · obtain ⟨R, u, h', s1, s2, s3⟩ := ih (k + 1) F (z_I (nI 1)) h (by omega) m' hF hF1 (fun j hj x1 x2 x3 x4 => by
            by_cases e : j = k
            · subst e; omega
            · exact hF2 j (by omega) x1 x2 x3 x4)
          refine ⟨R, u, h', ?_, s2, s3⟩
          simp (disch := first | omega | rfl | assumption) only [a1.2.1 47 rfl, v2, bX11_parted_116, q_cl, q_ps, q_pn, bI_t, bI_f, gI_same, gI_ne, gR_pI, gJ_pI, gV_pI, gN_pI, gC_pI, gS_pI, gI_pJ, gR_pJ, gV_pJ, gN_pJ, gJ_same, gJ_ne, gI_pR, gJ_pR, gV_pR, gN_pR, gR_same, gR_ne, zin_t, zin_f, x_ltt, x_ltf, x_let, x_lef, x_eqt, x_eqf, n_0, n_1, n_2, n_3, n_4, n_5, n_6, n_7, n_8, n_9, n_10, n_11, n_12, n_16, n_19, n_20, n_24, n_25, n_32, n_40, n_48, n_50, n_60, n_64, n_80, n_96, n_114, n_684, n_1000, n_9330, n_16806, n_1000000, n_5764800, ↓n_m, m_ltI, m_leI, m_lt', m_le', m_eq, m_eq', m_add, m_sub, mm_lt, mm_le, mm_eq, q_sub, nI_add, q_mul, nI_clamp, bz_0, bz_1, q_bzb, b_0, b_1, b_ft, b_tf, ne_eq, not_true_eq_false, not_false_eq_true, decide_true, decide_false, Bool.and_self, Bool.false_and, Bool.and_false, Bool.and_true, Bool.true_and, Bool.not_true, Bool.not_false, ↓reduceIte]
          exact s1
      · obtain ⟨R, u, h', s1, s2, s3⟩ := ih (k + 1) F (z_I (nI 0)) h (by omega) m' hF hF1 (fun j hj x1 x2 x3 x4 => by
          by_cases e : j = k
          · subst e; exact absurd x2 hab
          · exact hF2 j (by omega) x1 x2 x3 x4)
        refine ⟨R, u, h', ?_, s2, s3⟩
        have e0 : k - k / 8 * 8 ≠ a := by omega
        have e3 : k - k / 8 * 8 ≠ b := by omega
        rw [bX11_parted_32]
        simp (disch := first | omega | rfl | assumption) only [a3, q1, bX11_parted_73, bX11_parted_74, bX11_parted_116, q_cl, q_ps, q_pn, bI_t, bI_f, gI_same, gI_ne, gR_pI, gJ_pI, gV_pI, gN_pI, gC_pI, gS_pI, gI_pJ, gR_pJ, gV_pJ, gN_pJ, gJ_same, gJ_ne, gI_pR, gJ_pR, gV_pR, gN_pR, gR_same, gR_ne, zin_t, zin_f, x_ltt, x_ltf, x_let, x_lef, x_eqt, x_eqf, n_0, n_1, n_2, n_3, n_4, n_5, n_6, n_7, n_8, n_9, n_10, n_11, n_12, n_16, n_19, n_20, n_24, n_25, n_32, n_40, n_48, n_50, n_60, n_64, n_80, n_96, n_114, n_684, n_1000, n_9330, n_16806, n_1000000, n_5764800, ↓n_m, m_ltI, m_leI, m_lt', m_le', m_eq, m_eq', m_add, m_sub, mm_lt, mm_le, mm_eq, q_sub, nI_add, q_mul, nI_clamp, bz_0, bz_1, q_bzb, b_0, b_1, b_ft, b_tf, ne_eq, not_true_eq_false, not_false_eq_true, decide_true, decide_false, Bool.and_self, Bool.false_and, Bool.and_false, Bool.and_true, Bool.true_and, Bool.not_true, Bool.not_false, ↓reduceIte]
        exact s1
    · obtain ⟨R, u, h', s1, s2, s3⟩ := ih (k + 1) F (z_I (nI 0)) h (by omega) m' hF hF1 (fun j hj x1 x2 x3 x4 => by
        by_cases e : j = k
        · subst e; exact absurd x1 hkn
        · exact hF2 j (by omega) x1 x2 x3 x4)
      refine ⟨R, u, h', ?_, s2, s3⟩
      rw [bX11_parted_32]
      simp (disch := first | omega | rfl | assumption) only [a3, q1, bX11_parted_73, bX11_parted_74, bX11_parted_116, q_cl, q_ps, q_pn, bI_t, bI_f, gI_same, gI_ne, gR_pI, gJ_pI, gV_pI, gN_pI, gC_pI, gS_pI, gI_pJ, gR_pJ, gV_pJ, gN_pJ, gJ_same, gJ_ne, gI_pR, gJ_pR, gV_pR, gN_pR, gR_same, gR_ne, zin_t, zin_f, x_ltt, x_ltf, x_let, x_lef, x_eqt, x_eqf, n_0, n_1, n_2, n_3, n_4, n_5, n_6, n_7, n_8, n_9, n_10, n_11, n_12, n_16, n_19, n_20, n_24, n_25, n_32, n_40, n_48, n_50, n_60, n_64, n_80, n_96, n_114, n_684, n_1000, n_9330, n_16806, n_1000000, n_5764800, ↓n_m, m_ltI, m_leI, m_lt', m_le', m_eq, m_eq', m_add, m_sub, mm_lt, mm_le, mm_eq, q_sub, nI_add, q_mul, nI_clamp, bz_0, bz_1, q_bzb, b_0, b_1, b_ft, b_tf, ne_eq, not_true_eq_false, not_false_eq_true, decide_true, decide_false, Bool.and_self, Bool.false_and, Bool.and_false, Bool.and_true, Bool.true_and, Bool.not_true, Bool.not_false, ↓reduceIte]
      exact s1
theorem op_parted {N : Nat} {xs : Nat → Int32} (d : Nat) {h : z_H} (hI : Inv h N xs) (x1 x2 : Int32) : OKc N xs (d + 60) 122 232 [z_I x1, z_I x2] h := by
  obtain ⟨G, hG⟩ := hI
  have m := I_m hG
  have c := I_c hG
  cases g1 : z_in x1 8 with
  | false => exact OK_ref2 hG (-1000001) (by simp (disch := first | omega | rfl | assumption) only [bX10_parted_0, bX10_parted_5, bX10_parted_13, bX10_parted_16, bX10_parted_22, bX10_parted_23, bX10_parted_30, bX10_parted_39, bX10_parted_51, bX10_parted_54, bX10_parted_55, rX10_parted, c_noPlace, g1, c_finding, q_cl, q_ps, q_pn, bI_t, bI_f, gI_same, gI_ne, gR_pI, gJ_pI, gV_pI, gN_pI, gC_pI, gS_pI, gI_pJ, gR_pJ, gV_pJ, gN_pJ, gJ_same, gJ_ne, gI_pR, gJ_pR, gV_pR, gN_pR, gR_same, gR_ne, zin_t, zin_f, x_ltt, x_ltf, x_let, x_lef, x_eqt, x_eqf, n_0, n_1, n_2, n_3, n_4, n_5, n_6, n_7, n_8, n_9, n_10, n_11, n_12, n_16, n_19, n_20, n_24, n_25, n_32, n_40, n_48, n_50, n_60, n_64, n_80, n_96, n_114, n_684, n_1000, n_9330, n_16806, n_1000000, n_5764800, ↓n_m, m_ltI, m_leI, m_lt', m_le', m_eq, m_eq', m_add, m_sub, mm_lt, mm_le, mm_eq, q_sub, nI_add, q_mul, nI_clamp, bz_0, bz_1, q_bzb, b_0, b_1, b_ft, b_tf, ne_eq, not_true_eq_false, not_false_eq_true, decide_true, decide_false, Bool.and_self, Bool.false_and, Bool.and_false, Bool.and_true, Bool.true_and, Bool.not_true, Bool.not_false, ↓reduceIte]) (by simp (disch := first | omega | rfl | assumption) only [rX11_parted, bX11_parted_0, bX11_parted_4, bX11_parted_11, bX11_parted_14, bX11_parted_20, m_isPlace, g1, m_finding, q_cl, q_ps, q_pn, bI_t, bI_f, gI_same, gI_ne, gR_pI, gJ_pI, gV_pI, gN_pI, gC_pI, gS_pI, gI_pJ, gR_pJ, gV_pJ, gN_pJ, gJ_same, gJ_ne, gI_pR, gJ_pR, gV_pR, gN_pR, gR_same, gR_ne, zin_t, zin_f, x_ltt, x_ltf, x_let, x_lef, x_eqt, x_eqf, n_0, n_1, n_2, n_3, n_4, n_5, n_6, n_7, n_8, n_9, n_10, n_11, n_12, n_16, n_19, n_20, n_24, n_25, n_32, n_40, n_48, n_50, n_60, n_64, n_80, n_96, n_114, n_684, n_1000, n_9330, n_16806, n_1000000, n_5764800, ↓n_m, m_ltI, m_leI, m_lt', m_le', m_eq, m_eq', m_add, m_sub, mm_lt, mm_le, mm_eq, q_sub, nI_add, q_mul, nI_clamp, bz_0, bz_1, q_bzb, b_0, b_1, b_ft, b_tf, ne_eq, not_true_eq_false, not_false_eq_true, decide_true, decide_false, Bool.and_self, Bool.false_and, Bool.and_false, Bool.and_true, Bool.true_and, Bool.not_true, Bool.not_false, ↓reduceIte])
  | true =>
    obtain ⟨a, ha, -, rfl⟩ := zin_of g1
    cases g2 : z_in x2 8 with
    | false => exact OK_ref2 hG (-1000001) (by simp (disch := first | omega | rfl | assumption) only [bX10_parted_0, bX10_parted_5, bX10_parted_13, bX10_parted_16, bX10_parted_22, bX10_parted_23, bX10_parted_30, bX10_parted_39, bX10_parted_51, bX10_parted_54, bX10_parted_55, rX10_parted, c_noPlace, g1, g2, c_finding, q_cl, q_ps, q_pn, bI_t, bI_f, gI_same, gI_ne, gR_pI, gJ_pI, gV_pI, gN_pI, gC_pI, gS_pI, gI_pJ, gR_pJ, gV_pJ, gN_pJ, gJ_same, gJ_ne, gI_pR, gJ_pR, gV_pR, gN_pR, gR_same, gR_ne, zin_t, zin_f, x_ltt, x_ltf, x_let, x_lef, x_eqt, x_eqf, n_0, n_1, n_2, n_3, n_4, n_5, n_6, n_7, n_8, n_9, n_10, n_11, n_12, n_16, n_19, n_20, n_24, n_25, n_32, n_40, n_48, n_50, n_60, n_64, n_80, n_96, n_114, n_684, n_1000, n_9330, n_16806, n_1000000, n_5764800, ↓n_m, m_ltI, m_leI, m_lt', m_le', m_eq, m_eq', m_add, m_sub, mm_lt, mm_le, mm_eq, q_sub, nI_add, q_mul, nI_clamp, bz_0, bz_1, q_bzb, b_0, b_1, b_ft, b_tf, ne_eq, not_true_eq_false, not_false_eq_true, decide_true, decide_false, Bool.and_self, Bool.false_and, Bool.and_false, Bool.and_true, Bool.true_and, Bool.not_true, Bool.not_false, ↓reduceIte]) (by simp (disch := first | omega | rfl | assumption) only [rX11_parted, bX11_parted_0, bX11_parted_4, bX11_parted_11, bX11_parted_14, bX11_parted_20, m_isPlace, g1, g2, m_finding, q_cl, q_ps, q_pn, bI_t, bI_f, gI_same, gI_ne, gR_pI, gJ_pI, gV_pI, gN_pI, gC_pI, gS_pI, gI_pJ, gR_pJ, gV_pJ, gN_pJ, gJ_same, gJ_ne, gI_pR, gJ_pR, gV_pR, gN_pR, gR_same, gR_ne, zin_t, zin_f, x_ltt, x_ltf, x_let, x_lef, x_eqt, x_eqf, n_0, n_1, n_2, n_3, n_4, n_5, n_6, n_7, n_8, n_9, n_10, n_11, n_12, n_16, n_19, n_20, n_24, n_25, n_32, n_40, n_48, n_50, n_60, n_64, n_80, n_96, n_114, n_684, n_1000, n_9330, n_16806, n_1000000, n_5764800, ↓n_m, m_ltI, m_leI, m_lt', m_le', m_eq, m_eq', m_add, m_sub, mm_lt, mm_le, mm_eq, q_sub, nI_add, q_mul, nI_clamp, bz_0, bz_1, q_bzb, b_0, b_1, b_ft, b_tf, ne_eq, not_true_eq_false, not_false_eq_true, decide_true, decide_false, Bool.and_self, Bool.false_and, Bool.and_false, Bool.and_true, Bool.true_and, Bool.not_true, Bool.not_false, ↓reduceIte])
    | true =>
      obtain ⟨b, hb, -, rfl⟩ := zin_of g2
      obtain ⟨rd, sh, n, wl, wp, wy, hL⟩ := I_ld hG
      obtain ⟨h1, e1, I1, hL1, e2, F1⟩ := c_spread (d + 56) hG hL
      obtain ⟨nl, lw, hl⟩ := I_li I1
      have c1 := I_c I1
      have hny := c_nextYear (d + 56) c1 (lb := 0) (A := fun k => arr rd sh (wp k) (wy k) a) (B := fun k => arr rd sh (wp k) (wy k) b) (y3 := mI) hL1.2.2.2.1 ha hb hL1.2.2.2.2.1 (fun k hk => e2 k hk a ha) (fun k hk => e2 k hk b hb) (Or.inl ⟨rfl, rfl⟩)
      obtain ⟨R, h2, k1, kR, k2⟩ := c_part_loop (d + 53) ha hb (A := fun k => arr rd sh (wp k) (wy k) a) (B := fun k => arr rd sh (wp k) (wy k) b) (fun _ => rfl) (fun _ => rfl) 16 0 0 h1 (by omega) ⟨I1, hL1, e2, hl⟩ (fun y _ hy => by omega) (Nat.zero_le _)
      have I2 := Inv_scr k2 I1
      have hcl : Rn (d + 59) 48 [z_R 11030 0, z_I (nI a), z_I (nI b)] h1 = some (some (z_I (pyI R)), h2) := by
        rw [rX3_firstParting, bX3_firstParting_0]
        simp (disch := first | omega | rfl | assumption) only [hny, bX3_firstParting_7, q_cl, q_ps, q_pn, bI_t, bI_f, gI_same, gI_ne, gR_pI, gJ_pI, gV_pI, gN_pI, gC_pI, gS_pI, gI_pJ, gR_pJ, gV_pJ, gN_pJ, gJ_same, gJ_ne, gI_pR, gJ_pR, gV_pR, gN_pR, gR_same, gR_ne, zin_t, zin_f, x_ltt, x_ltf, x_let, x_lef, x_eqt, x_eqf, n_0, n_1, n_2, n_3, n_4, n_5, n_6, n_7, n_8, n_9, n_10, n_11, n_12, n_16, n_19, n_20, n_24, n_25, n_32, n_40, n_48, n_50, n_60, n_64, n_80, n_96, n_114, n_684, n_1000, n_9330, n_16806, n_1000000, n_5764800, ↓n_m, m_ltI, m_leI, m_lt', m_le', m_eq, m_eq', m_add, m_sub, mm_lt, mm_le, mm_eq, q_sub, nI_add, q_mul, nI_clamp, bz_0, bz_1, q_bzb, b_0, b_1, b_ft, b_tf, ne_eq, not_true_eq_false, not_false_eq_true, decide_true, decide_false, Bool.and_self, Bool.false_and, Bool.and_false, Bool.and_true, Bool.true_and, Bool.not_true, Bool.not_false, ↓reduceIte]
        exact k1
      have href : ∀ h0, InvG h0 N xs G 0 ∨ InvG h0 N xs G 1 → iLdG h0 (gnL G) rd sh n wl wp wy → iLiG h0 nl lw → ∃ u h', EX (d + 59) 232 0 [z_R 49100 0, z_I (nI a), z_I (nI b), z_U, z_U, z_U] [] h0 = EX (d + 59) 232 122 [z_R 49100 0, z_I (nI a), z_I (nI b), z_I (nI R), z_I (nI 64), u] [] h' ∧ frX [12] h0 h' := by
        intro h0 i0 i1 i2
        have hm : ∃ h', Rn (d + 59) 225 [z_R 49100 0] h0 = some (none, h') ∧ mSl h' G n wl (fun k p => arr rd sh (wp k) (wy k) p) nl lw ∧ frX [12] h0 h' := by
          rcases i0 with i0 | i0
          · exact mSl_of (d + 56) i0 i1 i2
          · exact mSl_of (d + 56) i0 i1 i2
        obtain ⟨h3, f1, f2, f3⟩ := hm
        obtain ⟨R2, u, h4, s1, s2, s3⟩ := m_part_loop (d + 51) ha hb 64 0 1000 z_U h3 (by omega) f2 (Nat.le_refl _) (fun z => by omega) (fun j hj => by omega)
        have hR : R2 = R := isR_uniq s2 kR
        subst hR
        refine ⟨u, h4, ?_, frX_trans f3 (frX_fr s3 tW_g)⟩
        rw [bX11_parted_0]
        simp (disch := first | omega | rfl | assumption) only [m_isPlace, g1, g2, bX11_parted_4, bX11_parted_11, bX11_parted_21, f1, bX11_parted_25, q_cl, q_ps, q_pn, bI_t, bI_f, gI_same, gI_ne, gR_pI, gJ_pI, gV_pI, gN_pI, gC_pI, gS_pI, gI_pJ, gR_pJ, gV_pJ, gN_pJ, gJ_same, gJ_ne, gI_pR, gJ_pR, gV_pR, gN_pR, gR_same, gR_ne, zin_t, zin_f, x_ltt, x_ltf, x_let, x_lef, x_eqt, x_eqf, n_0, n_1, n_2, n_3, n_4, n_5, n_6, n_7, n_8, n_9, n_10, n_11, n_12, n_16, n_19, n_20, n_24, n_25, n_32, n_40, n_48, n_50, n_60, n_64, n_80, n_96, n_114, n_684, n_1000, n_9330, n_16806, n_1000000, n_5764800, ↓n_m, m_ltI, m_leI, m_lt', m_le', m_eq, m_eq', m_add, m_sub, mm_lt, mm_le, mm_eq, q_sub, nI_add, q_mul, nI_clamp, bz_0, bz_1, q_bzb, b_0, b_1, b_ft, b_tf, ne_eq, not_true_eq_false, not_false_eq_true, decide_true, decide_false, Bool.and_self, Bool.false_and, Bool.and_false, Bool.and_true, Bool.true_and, Bool.not_true, Bool.not_false, ↓reduceIte]
        exact s1
      have hL2 := iLdG_fr k2 (by decide) (by decide) (by decide) hL1
      have hl2 := iLiG_fr k2 (by decide) hl
      have c2 := I_c I2
      have hR1 := kR.1
      by_cases hR : R < 1000
      · obtain ⟨u, h4, s1, s2⟩ := href h2 (Or.inl I2) hL2 hl2
        rw [show pyI R = nI R from if_pos hR] at hcl
        refine ⟨nI R, h2, h4, ?_, ?_, G, Inv_scr s2 I2⟩
        · simp (disch := first | omega | rfl | assumption) only [bX10_parted_0, bX10_parted_5, bX10_parted_13, bX10_parted_16, bX10_parted_22, bX10_parted_23, bX10_parted_30, bX10_parted_39, bX10_parted_51, bX10_parted_54, bX10_parted_55, rX10_parted, c_noPlace, g1, g2, c.1 10090 5 rfl, e1, c1.1 10090 5 rfl, hcl, q_cl, q_ps, q_pn, bI_t, bI_f, gI_same, gI_ne, gR_pI, gJ_pI, gV_pI, gN_pI, gC_pI, gS_pI, gI_pJ, gR_pJ, gV_pJ, gN_pJ, gJ_same, gJ_ne, gI_pR, gJ_pR, gV_pR, gN_pR, gR_same, gR_ne, zin_t, zin_f, x_ltt, x_ltf, x_let, x_lef, x_eqt, x_eqf, n_0, n_1, n_2, n_3, n_4, n_5, n_6, n_7, n_8, n_9, n_10, n_11, n_12, n_16, n_19, n_20, n_24, n_25, n_32, n_40, n_48, n_50, n_60, n_64, n_80, n_96, n_114, n_684, n_1000, n_9330, n_16806, n_1000000, n_5764800, ↓n_m, m_ltI, m_leI, m_lt', m_le', m_eq, m_eq', m_add, m_sub, mm_lt, mm_le, mm_eq, q_sub, nI_add, q_mul, nI_clamp, bz_0, bz_1, q_bzb, b_0, b_1, b_ft, b_tf, ne_eq, not_true_eq_false, not_false_eq_true, decide_true, decide_false, Bool.and_self, Bool.false_and, Bool.and_false, Bool.and_true, Bool.true_and, Bool.not_true, Bool.not_false, ↓reduceIte]
        · rw [rX11_parted, s1, bX11_parted_122]
          simp (disch := first | omega | rfl | assumption) only [bX11_parted_138, bX11_parted_139, q_cl, q_ps, q_pn, bI_t, bI_f, gI_same, gI_ne, gR_pI, gJ_pI, gV_pI, gN_pI, gC_pI, gS_pI, gI_pJ, gR_pJ, gV_pJ, gN_pJ, gJ_same, gJ_ne, gI_pR, gJ_pR, gV_pR, gN_pR, gR_same, gR_ne, zin_t, zin_f, x_ltt, x_ltf, x_let, x_lef, x_eqt, x_eqf, n_0, n_1, n_2, n_3, n_4, n_5, n_6, n_7, n_8, n_9, n_10, n_11, n_12, n_16, n_19, n_20, n_24, n_25, n_32, n_40, n_48, n_50, n_60, n_64, n_80, n_96, n_114, n_684, n_1000, n_9330, n_16806, n_1000000, n_5764800, ↓n_m, m_ltI, m_leI, m_lt', m_le', m_eq, m_eq', m_add, m_sub, mm_lt, mm_le, mm_eq, q_sub, nI_add, q_mul, nI_clamp, bz_0, bz_1, q_bzb, b_0, b_1, b_ft, b_tf, ne_eq, not_true_eq_false, not_false_eq_true, decide_true, decide_false, Bool.and_self, Bool.false_and, Bool.and_false, Bool.and_true, Bool.true_and, Bool.not_true, Bool.not_false, ↓reduceIte]
      · have I3 := Inv_cf I2
        have hL3 : iLdG (pI h2 10090 0 9 (gI h2 10090 0 9 + nI 1)) (gnL G) rd sh n wl wp wy := iLdG_fr (S := [0]) (frX_pI2 0 rfl (by decide) _ _) (by decide) (by decide) (by decide) hL2
        have hl3 : iLiG (pI h2 10090 0 9 (gI h2 10090 0 9 + nI 1)) nl lw := iLiG_fr (S := [0]) (frX_pI2 0 rfl (by decide) _ _) (by decide) hl2
        obtain ⟨u, h4, s1, s2⟩ := href (pI h2 10090 0 9 (gI h2 10090 0 9 + nI 1)) (Or.inr I3) hL3 hl3
        rw [show pyI R = mI from if_neg hR] at hcl
        refine OK_fin (G := G) (h1 := h2) (h2 := h4) (-1000004) ?_ ?_ (Inv_scr s2 I3)
        · simp (disch := first | omega | rfl | assumption) only [bX10_parted_0, bX10_parted_5, bX10_parted_13, bX10_parted_16, bX10_parted_22, bX10_parted_23, bX10_parted_30, bX10_parted_39, bX10_parted_51, bX10_parted_54, bX10_parted_55, rX10_parted, c_noPlace, g1, g2, c.1 10090 5 rfl, e1, c1.1 10090 5 rfl, hcl, c_finding, q_cl, q_ps, q_pn, bI_t, bI_f, gI_same, gI_ne, gR_pI, gJ_pI, gV_pI, gN_pI, gC_pI, gS_pI, gI_pJ, gR_pJ, gV_pJ, gN_pJ, gJ_same, gJ_ne, gI_pR, gJ_pR, gV_pR, gN_pR, gR_same, gR_ne, zin_t, zin_f, x_ltt, x_ltf, x_let, x_lef, x_eqt, x_eqf, n_0, n_1, n_2, n_3, n_4, n_5, n_6, n_7, n_8, n_9, n_10, n_11, n_12, n_16, n_19, n_20, n_24, n_25, n_32, n_40, n_48, n_50, n_60, n_64, n_80, n_96, n_114, n_684, n_1000, n_9330, n_16806, n_1000000, n_5764800, ↓n_m, m_ltI, m_leI, m_lt', m_le', m_eq, m_eq', m_add, m_sub, mm_lt, mm_le, mm_eq, q_sub, nI_add, q_mul, nI_clamp, bz_0, bz_1, q_bzb, b_0, b_1, b_ft, b_tf, ne_eq, not_true_eq_false, not_false_eq_true, decide_true, decide_false, Bool.and_self, Bool.false_and, Bool.and_false, Bool.and_true, Bool.true_and, Bool.not_true, Bool.not_false, ↓reduceIte]
        · rw [rX11_parted, s1, bX11_parted_122]
          simp (disch := first | omega | rfl | assumption) only [show R = 1000 by omega, m_finding, bX11_parted_135, bX11_parted_139, q_cl, q_ps, q_pn, bI_t, bI_f, gI_same, gI_ne, gR_pI, gJ_pI, gV_pI, gN_pI, gC_pI, gS_pI, gI_pJ, gR_pJ, gV_pJ, gN_pJ, gJ_same, gJ_ne, gI_pR, gJ_pR, gV_pR, gN_pR, gR_same, gR_ne, zin_t, zin_f, x_ltt, x_ltf, x_let, x_lef, x_eqt, x_eqf, n_0, n_1, n_2, n_3, n_4, n_5, n_6, n_7, n_8, n_9, n_10, n_11, n_12, n_16, n_19, n_20, n_24, n_25, n_32, n_40, n_48, n_50, n_60, n_64, n_80, n_96, n_114, n_684, n_1000, n_9330, n_16806, n_1000000, n_5764800, ↓n_m, m_ltI, m_leI, m_lt', m_le', m_eq, m_eq', m_add, m_sub, mm_lt, mm_le, mm_eq, q_sub, nI_add, q_mul, nI_clamp, bz_0, bz_1, q_bzb, b_0, b_1, b_ft, b_tf, ne_eq, not_true_eq_false, not_false_eq_true, decide_true, decide_false, Bool.and_self, Bool.false_and, Bool.and_false, Bool.and_true, Bool.true_and, Bool.not_true, Bool.not_false, ↓reduceIte]
