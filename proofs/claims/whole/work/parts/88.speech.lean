/-! ===== speech ===== -/
/-- the next wave: c: years in which they come, dn: those that are done -/
def nxF (c : Nat → Nat) (y dn : Nat) : Nat → Option Nat
  | 0 => none
  | n + 1 => if (!dn.testBit n && decide (c n ≤ y) && (match nxF c y dn n with | none => true | some k => decide (c n < c k))) = true then some n else nxF c y dn n
theorem nxF_succ (c : Nat → Nat) (y dn n : Nat) : nxF c y dn (n + 1) = if (!dn.testBit n && decide (c n ≤ y) && (match nxF c y dn n with | none => true | some k => decide (c n < c k))) = true then some n else nxF c y dn n := rfl
theorem nxF_spec (c : Nat → Nat) (y dn : Nat) : ∀ n k, nxF c y dn n = some k → k < n ∧ c k ≤ y ∧ dn.testBit k = false := by
  intro n
  induction n with
  | zero => intro k h; cases h
  | succ n ih =>
    intro k h
    rw [nxF_succ] at h
    by_cases q : (!dn.testBit n && decide (c n ≤ y) && (match nxF c y dn n with | none => true | some k => decide (c n < c k))) = true
    · rw [if_pos q] at h
      cases h
      rw [Bool.and_eq_true, Bool.and_eq_true, decide_eq_true_eq] at q
      exact ⟨by omega, q.1.2, by simpa using q.1.1⟩
    · rw [if_neg q] at h
      have := ih k h
      exact ⟨by omega, this.2⟩
theorem nxF_none (c : Nat → Nat) (y dn : Nat) : ∀ n, (∀ k, k < n → dn.testBit k = true) → nxF c y dn n = none := by
  intro n
  induction n with
  | zero => intro _; rfl
  | succ n ih =>
    intro h
    rw [nxF_succ, h n (by omega), ih (fun k hk => h k (by omega))]
    rfl
def nxI (o : Option Nat) : Int32 := match o with
  | none => mI
  | some k => nI k
/-- laws run one behind another -/
def spk (V : Nat) (LF : Nat → Lw) (wl c : Nat → Nat) (y n : Nat) : Nat → List Nat → Nat → List Nat
  | 0, w, _ => w
  | r + 1, w, dn => match nxF c y dn n with
    | none => w
    | some k => spk V LF wl c y n r (runW V (LF (wl k)) w) (dn ||| 2 ^ k)
theorem spk_ok {V : Nat} {LF : Nat → Lw} {nL : Nat} (hL : ∀ j, j < nL → nmL (LF j)) {wl c : Nat → Nat} {y n : Nat} (hw : ∀ k, k < n → wl k < nL) : ∀ r w dn, isW w → isW (spk V LF wl c y n r w dn) := by
  intro r
  induction r with
  | zero => intro w dn h; exact h
  | succ r ih =>
    intro w dn h
    show isW (match nxF c y dn n with | none => w | some k => spk V LF wl c y n r (runW V (LF (wl k)) w) (dn ||| 2 ^ k))
    cases hk : nxF c y dn n with
    | none => exact h
    | some k => exact ih _ _ (runW_ok (hL _ (hw k (nxF_spec c y dn n k hk).1)).1 h)
theorem c_next_loop (d : Nat) {h : z_H} (ck : cOK h) {n p y dn : Nat} {c : Nat → Nat} (hn : n ≤ 8) (hp : p < 8) (hy : y < 1000) (hdn : dn < 256) (e1 : gI h 11030 0 0 = nI n) (hc : ∀ k, k < n → gI h 64221 0 (8 * k + p) = comI (c k)) (hb : ∀ k, k < n → c k < 1000000 → c k ≤ 5608) : ∀ (r w : Nat) (x5 : Int32) (u7 : z_V), w + r = n → x5 = (match nxF c y dn w with | none => nI (y + 1) | some k => nI (c k)) →
    EX d 46 11 [z_R 11030 0, z_I (nI p), z_I (nI y), z_I (nI dn), z_I (nxI (nxF c y dn w)), z_I x5, z_I (nI w), u7] [] h = some (some (z_I (nxI (nxF c y dn n))), h) := by
  intro r
  induction r with
  | zero =>
    intro w x5 u7 hw _
    have : w = n := by omega
    subst this
    rw [bX3_nextWave_11]
    simp (disch := first | omega | rfl | assumption) only [e1, bX3_nextWave_70, q_cl, q_ps, q_pn, bI_t, bI_f, gI_same, gI_ne, gR_pI, gJ_pI, gV_pI, gN_pI, gC_pI, gS_pI, gI_pJ, gR_pJ, gV_pJ, gN_pJ, gJ_same, gJ_ne, gI_pR, gJ_pR, gV_pR, gN_pR, gR_same, gR_ne, zin_t, zin_f, x_ltt, x_ltf, x_let, x_lef, x_eqt, x_eqf, n_0, n_1, n_2, n_3, n_4, n_5, n_6, n_7, n_8, n_9, n_10, n_11, n_12, n_16, n_19, n_20, n_24, n_25, n_32, n_40, n_48, n_50, n_60, n_64, n_80, n_96, n_114, n_684, n_1000, n_9330, n_16806, n_1000000, n_5764800, ↓n_m, m_ltI, m_leI, m_lt', m_le', m_eq, m_eq', m_add, m_sub, mm_lt, mm_le, mm_eq, q_sub, nI_add, q_mul, nI_clamp, bz_0, bz_1, q_bzb, b_0, b_1, b_ft, b_tf, ne_eq, not_true_eq_false, not_false_eq_true, decide_true, decide_false, Bool.and_self, Bool.false_and, Bool.and_false, Bool.and_true, Bool.true_and, Bool.not_true, Bool.not_false, ↓reduceIte]
  | succ r ih =>
    intro w x5 u7 hw h5
    have hwp : w * 8 + p = 8 * w + p := by omega
    have hb1 : z_ush (nI dn) (nI w) &&& nI 1 = bI (dn.testBit w) := q_bit (by omega) (by omega)
    have hcw := hc w (by omega)
    have ih1 := fun x5 u7 => ih (w + 1) x5 u7 (by omega)
    rw [nxF_succ] at ih1
    rw [bX3_nextWave_11]
    cases hd : dn.testBit w with
    | true =>
      simp only [hd, Bool.not_true, Bool.false_and, Bool.false_eq_true, if_false] at ih1
      simp (disch := first | omega | rfl | assumption) only [e1, ck.1 11030 2 rfl, hwp, hb1, hd, bX3_nextWave_64, q_cl, q_ps, q_pn, bI_t, bI_f, gI_same, gI_ne, gR_pI, gJ_pI, gV_pI, gN_pI, gC_pI, gS_pI, gI_pJ, gR_pJ, gV_pJ, gN_pJ, gJ_same, gJ_ne, gI_pR, gJ_pR, gV_pR, gN_pR, gR_same, gR_ne, zin_t, zin_f, x_ltt, x_ltf, x_let, x_lef, x_eqt, x_eqf, n_0, n_1, n_2, n_3, n_4, n_5, n_6, n_7, n_8, n_9, n_10, n_11, n_12, n_16, n_19, n_20, n_24, n_25, n_32, n_40, n_48, n_50, n_60, n_64, n_80, n_96, n_114, n_684, n_1000, n_9330, n_16806, n_1000000, n_5764800, ↓n_m, m_ltI, m_leI, m_lt', m_le', m_eq, m_eq', m_add, m_sub, mm_lt, mm_le, mm_eq, q_sub, nI_add, q_mul, nI_clamp, bz_0, bz_1, q_bzb, b_0, b_1, b_ft, b_tf, ne_eq, not_true_eq_false, not_false_eq_true, decide_true, decide_false, Bool.and_self, Bool.false_and, Bool.and_false, Bool.and_true, Bool.true_and, Bool.not_true, Bool.not_false, ↓reduceIte]
      exact ih1 x5 _ h5
    | false =>
      by_cases hf : c w < 1000000
      · have hbw := hb w (by omega) hf
        rw [comI_fin hf] at hcw
        cases ho : nxF c y dn w with
        | none =>
          rw [ho] at h5
          subst h5
          by_cases hle : c w ≤ y
          · simp only [hd, ho, hle, Bool.not_false, decide_true, Bool.and_self, if_true] at ih1
            simp (disch := first | omega | rfl | assumption) only [e1, ck.1 11030 2 rfl, hwp, hb1, hd, hcw, bX3_nextWave_64, q_cl, q_ps, q_pn, bI_t, bI_f, gI_same, gI_ne, gR_pI, gJ_pI, gV_pI, gN_pI, gC_pI, gS_pI, gI_pJ, gR_pJ, gV_pJ, gN_pJ, gJ_same, gJ_ne, gI_pR, gJ_pR, gV_pR, gN_pR, gR_same, gR_ne, zin_t, zin_f, x_ltt, x_ltf, x_let, x_lef, x_eqt, x_eqf, n_0, n_1, n_2, n_3, n_4, n_5, n_6, n_7, n_8, n_9, n_10, n_11, n_12, n_16, n_19, n_20, n_24, n_25, n_32, n_40, n_48, n_50, n_60, n_64, n_80, n_96, n_114, n_684, n_1000, n_9330, n_16806, n_1000000, n_5764800, ↓n_m, m_ltI, m_leI, m_lt', m_le', m_eq, m_eq', m_add, m_sub, mm_lt, mm_le, mm_eq, q_sub, nI_add, q_mul, nI_clamp, bz_0, bz_1, q_bzb, b_0, b_1, b_ft, b_tf, ne_eq, not_true_eq_false, not_false_eq_true, decide_true, decide_false, Bool.and_self, Bool.false_and, Bool.and_false, Bool.and_true, Bool.true_and, Bool.not_true, Bool.not_false, ↓reduceIte]
            exact ih1 (nI (c w)) _ rfl
          · simp only [hd, ho, hle, decide_false, Bool.and_false, Bool.false_and, Bool.false_eq_true, if_false] at ih1
            simp (disch := first | omega | rfl | assumption) only [e1, ck.1 11030 2 rfl, hwp, hb1, hd, hcw, bX3_nextWave_64, q_cl, q_ps, q_pn, bI_t, bI_f, gI_same, gI_ne, gR_pI, gJ_pI, gV_pI, gN_pI, gC_pI, gS_pI, gI_pJ, gR_pJ, gV_pJ, gN_pJ, gJ_same, gJ_ne, gI_pR, gJ_pR, gV_pR, gN_pR, gR_same, gR_ne, zin_t, zin_f, x_ltt, x_ltf, x_let, x_lef, x_eqt, x_eqf, n_0, n_1, n_2, n_3, n_4, n_5, n_6, n_7, n_8, n_9, n_10, n_11, n_12, n_16, n_19, n_20, n_24, n_25, n_32, n_40, n_48, n_50, n_60, n_64, n_80, n_96, n_114, n_684, n_1000, n_9330, n_16806, n_1000000, n_5764800, ↓n_m, m_ltI, m_leI, m_lt', m_le', m_eq, m_eq', m_add, m_sub, mm_lt, mm_le, mm_eq, q_sub, nI_add, q_mul, nI_clamp, bz_0, bz_1, q_bzb, b_0, b_1, b_ft, b_tf, ne_eq, not_true_eq_false, not_false_eq_true, decide_true, decide_false, Bool.and_self, Bool.false_and, Bool.and_false, Bool.and_true, Bool.true_and, Bool.not_true, Bool.not_false, ↓reduceIte]
            exact ih1 (nI (y + 1)) _ rfl
        | some k =>
          have hk := nxF_spec c y dn w k ho
          rw [ho] at h5
          subst h5
          by_cases hlt : c w < c k
          · have hle : c w ≤ y := by omega
            simp only [hd, ho, hle, hlt, Bool.not_false, decide_true, Bool.and_self, if_true] at ih1
            simp (disch := first | omega | rfl | assumption) only [e1, ck.1 11030 2 rfl, hwp, hb1, hd, hcw, bX3_nextWave_64, q_cl, q_ps, q_pn, bI_t, bI_f, gI_same, gI_ne, gR_pI, gJ_pI, gV_pI, gN_pI, gC_pI, gS_pI, gI_pJ, gR_pJ, gV_pJ, gN_pJ, gJ_same, gJ_ne, gI_pR, gJ_pR, gV_pR, gN_pR, gR_same, gR_ne, zin_t, zin_f, x_ltt, x_ltf, x_let, x_lef, x_eqt, x_eqf, n_0, n_1, n_2, n_3, n_4, n_5, n_6, n_7, n_8, n_9, n_10, n_11, n_12, n_16, n_19, n_20, n_24, n_25, n_32, n_40, n_48, n_50, n_60, n_64, n_80, n_96, n_114, n_684, n_1000, n_9330, n_16806, n_1000000, n_5764800, ↓n_m, m_ltI, m_leI, m_lt', m_le', m_eq, m_eq', m_add, m_sub, mm_lt, mm_le, mm_eq, q_sub, nI_add, q_mul, nI_clamp, bz_0, bz_1, q_bzb, b_0, b_1, b_ft, b_tf, ne_eq, not_true_eq_false, not_false_eq_true, decide_true, decide_false, Bool.and_self, Bool.false_and, Bool.and_false, Bool.and_true, Bool.true_and, Bool.not_true, Bool.not_false, ↓reduceIte]
            exact ih1 (nI (c w)) _ rfl
          · simp only [hd, ho, hlt, decide_false, Bool.and_false, Bool.false_eq_true, if_false] at ih1
            simp (disch := first | omega | rfl | assumption) only [e1, ck.1 11030 2 rfl, hwp, hb1, hd, hcw, bX3_nextWave_64, q_cl, q_ps, q_pn, bI_t, bI_f, gI_same, gI_ne, gR_pI, gJ_pI, gV_pI, gN_pI, gC_pI, gS_pI, gI_pJ, gR_pJ, gV_pJ, gN_pJ, gJ_same, gJ_ne, gI_pR, gJ_pR, gV_pR, gN_pR, gR_same, gR_ne, zin_t, zin_f, x_ltt, x_ltf, x_let, x_lef, x_eqt, x_eqf, n_0, n_1, n_2, n_3, n_4, n_5, n_6, n_7, n_8, n_9, n_10, n_11, n_12, n_16, n_19, n_20, n_24, n_25, n_32, n_40, n_48, n_50, n_60, n_64, n_80, n_96, n_114, n_684, n_1000, n_9330, n_16806, n_1000000, n_5764800, ↓n_m, m_ltI, m_leI, m_lt', m_le', m_eq, m_eq', m_add, m_sub, mm_lt, mm_le, mm_eq, q_sub, nI_add, q_mul, nI_clamp, bz_0, bz_1, q_bzb, b_0, b_1, b_ft, b_tf, ne_eq, not_true_eq_false, not_false_eq_true, decide_true, decide_false, Bool.and_self, Bool.false_and, Bool.and_false, Bool.and_true, Bool.true_and, Bool.not_true, Bool.not_false, ↓reduceIte]
            exact ih1 (nI (c k)) _ rfl
      · have hle : ¬ c w ≤ y := by omega
        rw [comI_inf hf] at hcw
        simp only [hd, hle, decide_false, Bool.and_false, Bool.false_and, Bool.false_eq_true, if_false] at ih1
        simp (disch := first | omega | rfl | assumption) only [e1, ck.1 11030 2 rfl, hwp, hb1, hd, hcw, bX3_nextWave_64, q_cl, q_ps, q_pn, bI_t, bI_f, gI_same, gI_ne, gR_pI, gJ_pI, gV_pI, gN_pI, gC_pI, gS_pI, gI_pJ, gR_pJ, gV_pJ, gN_pJ, gJ_same, gJ_ne, gI_pR, gJ_pR, gV_pR, gN_pR, gR_same, gR_ne, zin_t, zin_f, x_ltt, x_ltf, x_let, x_lef, x_eqt, x_eqf, n_0, n_1, n_2, n_3, n_4, n_5, n_6, n_7, n_8, n_9, n_10, n_11, n_12, n_16, n_19, n_20, n_24, n_25, n_32, n_40, n_48, n_50, n_60, n_64, n_80, n_96, n_114, n_684, n_1000, n_9330, n_16806, n_1000000, n_5764800, ↓n_m, m_ltI, m_leI, m_lt', m_le', m_eq, m_eq', m_add, m_sub, mm_lt, mm_le, mm_eq, q_sub, nI_add, q_mul, nI_clamp, bz_0, bz_1, q_bzb, b_0, b_1, b_ft, b_tf, ne_eq, not_true_eq_false, not_false_eq_true, decide_true, decide_false, Bool.and_self, Bool.false_and, Bool.and_false, Bool.and_true, Bool.true_and, Bool.not_true, Bool.not_false, ↓reduceIte]
        exact ih1 x5 _ h5
theorem c_nextWave (d : Nat) {h : z_H} (ck : cOK h) {n p y dn : Nat} {c : Nat → Nat} (hn : n ≤ 8) (hp : p < 8) (hy : y < 1000) (hdn : dn < 256) (e1 : gI h 11030 0 0 = nI n) (hc : ∀ k, k < n → gI h 64221 0 (8 * k + p) = comI (c k)) (hb : ∀ k, k < n → c k < 1000000 → c k ≤ 5608) :
    Rn (d + 1) 46 [z_R 11030 0, z_I (nI p), z_I (nI y), z_I (nI dn)] h = some (some (z_I (nxI (nxF c y dn n))), h) := by
  rw [rX3_nextWave, bX3_nextWave_0]
  simp (disch := first | omega | rfl | assumption) only [q_cl, q_ps, q_pn, bI_t, bI_f, gI_same, gI_ne, gR_pI, gJ_pI, gV_pI, gN_pI, gC_pI, gS_pI, gI_pJ, gR_pJ, gV_pJ, gN_pJ, gJ_same, gJ_ne, gI_pR, gJ_pR, gV_pR, gN_pR, gR_same, gR_ne, zin_t, zin_f, x_ltt, x_ltf, x_let, x_lef, x_eqt, x_eqf, n_0, n_1, n_2, n_3, n_4, n_5, n_6, n_7, n_8, n_9, n_10, n_11, n_12, n_16, n_19, n_20, n_24, n_25, n_32, n_40, n_48, n_50, n_60, n_64, n_80, n_96, n_114, n_684, n_1000, n_9330, n_16806, n_1000000, n_5764800, ↓n_m, m_ltI, m_leI, m_lt', m_le', m_eq, m_eq', m_add, m_sub, mm_lt, mm_le, mm_eq, q_sub, nI_add, q_mul, nI_clamp, bz_0, bz_1, q_bzb, b_0, b_1, b_ft, b_tf, ne_eq, not_true_eq_false, not_false_eq_true, decide_true, decide_false, Bool.and_self, Bool.false_and, Bool.and_false, Bool.and_true, Bool.true_and, Bool.not_true, Bool.not_false, ↓reduceIte]
  exact c_next_loop d ck hn hp hy hdn e1 hc hb n 0 _ _ (by omega) rfl
theorem or_lt {a k : Nat} (ha : a < 256) (hk : k < 8) : a ||| 2 ^ k < 256 := Nat.or_lt_two_pow (n := 8) ha (Nat.pow_lt_pow_right (by decide) hk)
theorem c_spoken_loop (d : Nat) {h : z_H} (ck : cOK h) {V nL n p y : Nat} {LF : Nat → Lw} {wl c : Nat → Nat} (hV : V < 64) (hLF : ∀ j, j < nL → nmL (LF j) ∧ cC h j V (LF j)) (hwl : ∀ k, k < n → wl k < nL ∧ gR h 8255 0 k = wl k + 1) (hn : n ≤ 8) (hp : p < 8) (hy : y < 1000) (e1 : gI h 11030 0 0 = nI n) (hc : ∀ k, k < n → gI h 64221 0 (8 * k + p) = comI (c k)) (hb : ∀ k, k < n → c k < 1000000 → c k ≤ 5608) (x3 : Int32) : ∀ (r i : Nat) (w : List Nat) (dn : Nat) (u7 : z_V), i + r = n → dn < 256 → isW w →
    EX (d + 3) 45 9 [z_R 11030 0, z_I (nI p), z_I (nI y), z_I x3, z_I (nI (rowN w)), z_I (nI dn), z_I (nI i), u7] [] h = some (some (z_I (nI (rowN (spk V LF wl c y n r w dn)))), h) := by
  intro r
  induction r with
  | zero =>
    intro i w dn u7 hi hdn hw
    rw [bX3_spoken_9]
    simp (disch := first | omega | rfl | assumption) only [e1, bX3_spoken_66, q_cl, q_ps, q_pn, bI_t, bI_f, gI_same, gI_ne, gR_pI, gJ_pI, gV_pI, gN_pI, gC_pI, gS_pI, gI_pJ, gR_pJ, gV_pJ, gN_pJ, gJ_same, gJ_ne, gI_pR, gJ_pR, gV_pR, gN_pR, gR_same, gR_ne, zin_t, zin_f, x_ltt, x_ltf, x_let, x_lef, x_eqt, x_eqf, n_0, n_1, n_2, n_3, n_4, n_5, n_6, n_7, n_8, n_9, n_10, n_11, n_12, n_16, n_19, n_20, n_24, n_25, n_32, n_40, n_48, n_50, n_60, n_64, n_80, n_96, n_114, n_684, n_1000, n_9330, n_16806, n_1000000, n_5764800, ↓n_m, m_ltI, m_leI, m_lt', m_le', m_eq, m_eq', m_add, m_sub, mm_lt, mm_le, mm_eq, q_sub, nI_add, q_mul, nI_clamp, bz_0, bz_1, q_bzb, b_0, b_1, b_ft, b_tf, ne_eq, not_true_eq_false, not_false_eq_true, decide_true, decide_false, Bool.and_self, Bool.false_and, Bool.and_false, Bool.and_true, Bool.true_and, Bool.not_true, Bool.not_false, ↓reduceIte]
    rfl
  | succ r ih =>
    intro i w dn u7 hi hdn hw
    have e2 := c_nextWave (d + 2) ck hn hp hy hdn e1 hc hb
    have es : spk V LF wl c y n (r + 1) w dn = match nxF c y dn n with | none => w | some k => spk V LF wl c y n r (runW V (LF (wl k)) w) (dn ||| 2 ^ k) := rfl
    rw [bX3_spoken_9]
    cases hk : nxF c y dn n with
    | none =>
      rw [hk] at e2 es
      have e2' : Rn (d + 3) 46 [z_R 11030 0, z_I (nI p), z_I (nI y), z_I (nI dn)] h = some (some (z_I mI), h) := e2
      rw [es]
      simp (disch := first | omega | rfl | assumption) only [e1, e2', bX3_spoken_26, bX3_spoken_66, q_cl, q_ps, q_pn, bI_t, bI_f, gI_same, gI_ne, gR_pI, gJ_pI, gV_pI, gN_pI, gC_pI, gS_pI, gI_pJ, gR_pJ, gV_pJ, gN_pJ, gJ_same, gJ_ne, gI_pR, gJ_pR, gV_pR, gN_pR, gR_same, gR_ne, zin_t, zin_f, x_ltt, x_ltf, x_let, x_lef, x_eqt, x_eqf, n_0, n_1, n_2, n_3, n_4, n_5, n_6, n_7, n_8, n_9, n_10, n_11, n_12, n_16, n_19, n_20, n_24, n_25, n_32, n_40, n_48, n_50, n_60, n_64, n_80, n_96, n_114, n_684, n_1000, n_9330, n_16806, n_1000000, n_5764800, ↓n_m, m_ltI, m_leI, m_lt', m_le', m_eq, m_eq', m_add, m_sub, mm_lt, mm_le, mm_eq, q_sub, nI_add, q_mul, nI_clamp, bz_0, bz_1, q_bzb, b_0, b_1, b_ft, b_tf, ne_eq, not_true_eq_false, not_false_eq_true, decide_true, decide_false, Bool.and_self, Bool.false_and, Bool.and_false, Bool.and_true, Bool.true_and, Bool.not_true, Bool.not_false, ↓reduceIte]
    | some k =>
      rw [hk] at e2 es
      obtain ⟨k1, k2, k3⟩ := nxF_spec c y dn n k hk
      have e2' : Rn (d + 3) 46 [z_R 11030 0, z_I (nI p), z_I (nI y), z_I (nI dn)] h = some (some (z_I (nI k)), h) := e2
      obtain ⟨w1, w2⟩ := hwl k k1
      obtain ⟨q1, q2⟩ := hLF _ w1
      have hsh : nI 1 <<< (nI k &&& 31) = nI (2 ^ k) := by rw [q_shl 1 (by omega), Nat.one_mul]
      have ih1 := ih (i + 1) (runW V (LF (wl k)) w) (dn ||| 2 ^ k) (z_I (nI k)) (by omega) (or_lt hdn (by omega)) (runW_ok q1.1 hw)
      rw [es]
      simp (disch := first | omega | rfl | assumption) only [e1, e2', bX3_spoken_26, bX3_spoken_37, ck.1 11030 6 rfl, w2, Nat.add_one_ne_zero, Nat.add_sub_cancel, c_over d hV q1 q2 hw, bX3_spoken_49, hsh, q_or, q_cl, q_ps, q_pn, bI_t, bI_f, gI_same, gI_ne, gR_pI, gJ_pI, gV_pI, gN_pI, gC_pI, gS_pI, gI_pJ, gR_pJ, gV_pJ, gN_pJ, gJ_same, gJ_ne, gI_pR, gJ_pR, gV_pR, gN_pR, gR_same, gR_ne, zin_t, zin_f, x_ltt, x_ltf, x_let, x_lef, x_eqt, x_eqf, n_0, n_1, n_2, n_3, n_4, n_5, n_6, n_7, n_8, n_9, n_10, n_11, n_12, n_16, n_19, n_20, n_24, n_25, n_32, n_40, n_48, n_50, n_60, n_64, n_80, n_96, n_114, n_684, n_1000, n_9330, n_16806, n_1000000, n_5764800, ↓n_m, m_ltI, m_leI, m_lt', m_le', m_eq, m_eq', m_add, m_sub, mm_lt, mm_le, mm_eq, q_sub, nI_add, q_mul, nI_clamp, bz_0, bz_1, q_bzb, b_0, b_1, b_ft, b_tf, ne_eq, not_true_eq_false, not_false_eq_true, decide_true, decide_false, Bool.and_self, Bool.false_and, Bool.and_false, Bool.and_true, Bool.true_and, Bool.not_true, Bool.not_false, ↓reduceIte]
      exact ih1
/-- all that speech needs, in the class -/
theorem c_spoken (d : Nat) {h : z_H} {N : Nat} {xs : Nat → Int32} {G : Gh} {e : Int32} (hG : InvG h N xs G e) {rd sh : Nat → Nat} {n : Nat} {wl wp wy : Nat → Nat} (hL : iLdG h (gnL G) rd sh n wl wp wy) (ha : ∀ k, k < n → ∀ p, p < 8 → gI h 64221 0 (8 * k + p) = comI (arr rd sh (wp k) (wy k) p)) {p y : Nat} (hp : p < 8) (hy : y < 1000) {w : List Nat} (hw : isW w) :
    Rn (d + 4) 45 [z_R 11030 0, z_I (nI p), z_I (nI y), z_I (nI (rowN w))] h = some (some (z_I (nI (rowN (spk (gvV G) (gLF G) wl (fun k => arr rd sh (wp k) (wy k) p) y n n w 0)))), h) := by
  have ct := cT_of hG
  obtain ⟨l1, l2, l3, l4, l5, l6, l7, l8⟩ := hL
  have := c_spoken_loop d ct.2.1 (nL := gnL G) (LF := gLF G) (wl := wl) (c := fun k => arr rd sh (wp k) (wy k) p) ct.1.1 (fun j hj => ⟨ct.1.2.2.1 j hj, (ct.2.2.2.2.1 j hj).2.2.2⟩) (fun k hk => ⟨(l7 k hk).1, (l7 k hk).2.2.2.1⟩) l4 hp hy l5 (fun k hk => ha k hk p hp) (fun k hk => (arr_le (fun j hj => (l1 j hj).1) (l7 k hk).2.2.1 p).2) (nI (rowN w)) n 0 w 0 z_U (by omega) (by decide) hw
  rw [rX3_spoken, bX3_spoken_0]
  exact this
/-! the reference -/
theorem m_next_w (d : Nat) {h : z_H} (m : mOK h) {n p y dn : Nat} {c : Nat → Nat} (hn : n ≤ 8) (hp : p < 8) (hy : y < 1000) (hdn : dn < 256) (e1 : gI h 49100 0 26 = nI n) (hc : ∀ k, k < n → gI h 64751 0 (8 * k + p) = nI (c k)) (hb : ∀ k, k < n → c k ≤ 1000000) (x3 : Int32) : ∀ (r w : Nat) (u8 u9 : z_V), w + r = n →
    ∃ v8 v9, EX d 227 22 [z_R 49100 0, z_I (nI p), z_I (nI y), z_I x3, z_I (nI dn), z_I (nI 1), z_I (nxI (nxF c y dn w)), z_I (nI w), u8, u9] [] h = EX d 227 110 [z_R 49100 0, z_I (nI p), z_I (nI y), z_I x3, z_I (nI dn), z_I (nI 1), z_I (nxI (nxF c y dn n)), z_I (nI n), v8, v9] [] h := by
  intro r
  induction r with
  | zero =>
    intro w u8 u9 hw
    have : w = n := by omega
    subst this
    refine ⟨u8, u9, ?_⟩
    rw [bX11_speechOf_22]
    simp (disch := first | omega | rfl | assumption) only [e1, q_cl, q_ps, q_pn, bI_t, bI_f, gI_same, gI_ne, gR_pI, gJ_pI, gV_pI, gN_pI, gC_pI, gS_pI, gI_pJ, gR_pJ, gV_pJ, gN_pJ, gJ_same, gJ_ne, gI_pR, gJ_pR, gV_pR, gN_pR, gR_same, gR_ne, zin_t, zin_f, x_ltt, x_ltf, x_let, x_lef, x_eqt, x_eqf, n_0, n_1, n_2, n_3, n_4, n_5, n_6, n_7, n_8, n_9, n_10, n_11, n_12, n_16, n_19, n_20, n_24, n_25, n_32, n_40, n_48, n_50, n_60, n_64, n_80, n_96, n_114, n_684, n_1000, n_9330, n_16806, n_1000000, n_5764800, ↓n_m, m_ltI, m_leI, m_lt', m_le', m_eq, m_eq', m_add, m_sub, mm_lt, mm_le, mm_eq, q_sub, nI_add, q_mul, nI_clamp, bz_0, bz_1, q_bzb, b_0, b_1, b_ft, b_tf, ne_eq, not_true_eq_false, not_false_eq_true, decide_true, decide_false, Bool.and_self, Bool.false_and, Bool.and_false, Bool.and_true, Bool.true_and, Bool.not_true, Bool.not_false, ↓reduceIte]
  | succ r ih =>
    intro w u8 u9 hw
    have hb1 : (nI dn >>> (nI w &&& 31)) &&& nI 1 = bI (dn.testBit w) := q_bitS (by omega) (by omega)
    have hcw := hc w (by omega)
    have hbw := hb w (by omega)
    have ih1 := fun u8 u9 => ih (w + 1) u8 u9 (by omega)
    rw [nxF_succ] at ih1
    cases hd : dn.testBit w with
    | true =>
      simp only [hd, Bool.not_true, Bool.false_and, Bool.false_eq_true, if_false] at ih1
      obtain ⟨v8, v9, q⟩ := ih1 (z_I (nI (c w))) (z_I (nI 0))
      refine ⟨v8, v9, ?_⟩
      rw [← q, bX11_speechOf_22]
      simp (disch := first | omega | rfl | assumption) only [e1, m 47 rfl, hb1, hd, hcw, bX11_speechOf_65, bX11_speechOf_66, bX11_speechOf_100, bX11_speechOf_102, q_cl, q_ps, q_pn, bI_t, bI_f, gI_same, gI_ne, gR_pI, gJ_pI, gV_pI, gN_pI, gC_pI, gS_pI, gI_pJ, gR_pJ, gV_pJ, gN_pJ, gJ_same, gJ_ne, gI_pR, gJ_pR, gV_pR, gN_pR, gR_same, gR_ne, zin_t, zin_f, x_ltt, x_ltf, x_let, x_lef, x_eqt, x_eqf, n_0, n_1, n_2, n_3, n_4, n_5, n_6, n_7, n_8, n_9, n_10, n_11, n_12, n_16, n_19, n_20, n_24, n_25, n_32, n_40, n_48, n_50, n_60, n_64, n_80, n_96, n_114, n_684, n_1000, n_9330, n_16806, n_1000000, n_5764800, ↓n_m, m_ltI, m_leI, m_lt', m_le', m_eq, m_eq', m_add, m_sub, mm_lt, mm_le, mm_eq, q_sub, nI_add, q_mul, nI_clamp, bz_0, bz_1, q_bzb, b_0, b_1, b_ft, b_tf, ne_eq, not_true_eq_false, not_false_eq_true, decide_true, decide_false, Bool.and_self, Bool.false_and, Bool.and_false, Bool.and_true, Bool.true_and, Bool.not_true, Bool.not_false, ↓reduceIte]
    | false =>
      by_cases hle : c w ≤ y
      · cases ho : nxF c y dn w with
        | none =>
          simp only [hd, ho, hle, Bool.not_false, decide_true, Bool.and_self, if_true] at ih1
          obtain ⟨v8, v9, q⟩ := ih1 (z_I (nI (c w))) (z_I (nI 1))
          refine ⟨v8, v9, ?_⟩
          rw [← q, bX11_speechOf_22]
          simp (disch := first | omega | rfl | assumption) only [e1, m 47 rfl, hb1, hd, hcw, bX11_speechOf_66, show nxI none = mI from rfl, show nxI (some w) = nI w from rfl, mI_lt0, bX11_speechOf_95, bX11_speechOf_102, q_cl, q_ps, q_pn, bI_t, bI_f, gI_same, gI_ne, gR_pI, gJ_pI, gV_pI, gN_pI, gC_pI, gS_pI, gI_pJ, gR_pJ, gV_pJ, gN_pJ, gJ_same, gJ_ne, gI_pR, gJ_pR, gV_pR, gN_pR, gR_same, gR_ne, zin_t, zin_f, x_ltt, x_ltf, x_let, x_lef, x_eqt, x_eqf, n_0, n_1, n_2, n_3, n_4, n_5, n_6, n_7, n_8, n_9, n_10, n_11, n_12, n_16, n_19, n_20, n_24, n_25, n_32, n_40, n_48, n_50, n_60, n_64, n_80, n_96, n_114, n_684, n_1000, n_9330, n_16806, n_1000000, n_5764800, ↓n_m, m_ltI, m_leI, m_lt', m_le', m_eq, m_eq', m_add, m_sub, mm_lt, mm_le, mm_eq, q_sub, nI_add, q_mul, nI_clamp, bz_0, bz_1, q_bzb, b_0, b_1, b_ft, b_tf, ne_eq, not_true_eq_false, not_false_eq_true, decide_true, decide_false, Bool.and_self, Bool.false_and, Bool.and_false, Bool.and_true, Bool.true_and, Bool.not_true, Bool.not_false, ↓reduceIte]
        | some k =>
          have hk := nxF_spec c y dn w k ho
          have hck := hc k (by omega)
          by_cases hlt : c w < c k
          · simp only [hd, ho, hle, hlt, Bool.not_false, decide_true, Bool.and_self, if_true] at ih1
            obtain ⟨v8, v9, q⟩ := ih1 (z_I (nI (c w))) (z_I (nI 1))
            refine ⟨v8, v9, ?_⟩
            rw [← q, bX11_speechOf_22]
            simp (disch := first | omega | rfl | assumption) only [e1, m 47 rfl, hb1, hd, hcw, bX11_speechOf_66, show nxI (some k) = nI k from rfl, show nxI (some w) = nI w from rfl, hck, bX11_speechOf_95, bX11_speechOf_102, q_cl, q_ps, q_pn, bI_t, bI_f, gI_same, gI_ne, gR_pI, gJ_pI, gV_pI, gN_pI, gC_pI, gS_pI, gI_pJ, gR_pJ, gV_pJ, gN_pJ, gJ_same, gJ_ne, gI_pR, gJ_pR, gV_pR, gN_pR, gR_same, gR_ne, zin_t, zin_f, x_ltt, x_ltf, x_let, x_lef, x_eqt, x_eqf, n_0, n_1, n_2, n_3, n_4, n_5, n_6, n_7, n_8, n_9, n_10, n_11, n_12, n_16, n_19, n_20, n_24, n_25, n_32, n_40, n_48, n_50, n_60, n_64, n_80, n_96, n_114, n_684, n_1000, n_9330, n_16806, n_1000000, n_5764800, ↓n_m, m_ltI, m_leI, m_lt', m_le', m_eq, m_eq', m_add, m_sub, mm_lt, mm_le, mm_eq, q_sub, nI_add, q_mul, nI_clamp, bz_0, bz_1, q_bzb, b_0, b_1, b_ft, b_tf, ne_eq, not_true_eq_false, not_false_eq_true, decide_true, decide_false, Bool.and_self, Bool.false_and, Bool.and_false, Bool.and_true, Bool.true_and, Bool.not_true, Bool.not_false, ↓reduceIte]
          · simp only [hd, ho, hlt, decide_false, Bool.and_false, Bool.false_eq_true, if_false] at ih1
            obtain ⟨v8, v9, q⟩ := ih1 (z_I (nI (c w))) (z_I (nI 1))
            refine ⟨v8, v9, ?_⟩
            rw [← q, bX11_speechOf_22]
            simp (disch := first | omega | rfl | assumption) only [e1, m 47 rfl, hb1, hd, hcw, bX11_speechOf_66, show nxI (some k) = nI k from rfl, hck, bX11_speechOf_100, bX11_speechOf_102, q_cl, q_ps, q_pn, bI_t, bI_f, gI_same, gI_ne, gR_pI, gJ_pI, gV_pI, gN_pI, gC_pI, gS_pI, gI_pJ, gR_pJ, gV_pJ, gN_pJ, gJ_same, gJ_ne, gI_pR, gJ_pR, gV_pR, gN_pR, gR_same, gR_ne, zin_t, zin_f, x_ltt, x_ltf, x_let, x_lef, x_eqt, x_eqf, n_0, n_1, n_2, n_3, n_4, n_5, n_6, n_7, n_8, n_9, n_10, n_11, n_12, n_16, n_19, n_20, n_24, n_25, n_32, n_40, n_48, n_50, n_60, n_64, n_80, n_96, n_114, n_684, n_1000, n_9330, n_16806, n_1000000, n_5764800, ↓n_m, m_ltI, m_leI, m_lt', m_le', m_eq, m_eq', m_add, m_sub, mm_lt, mm_le, mm_eq, q_sub, nI_add, q_mul, nI_clamp, bz_0, bz_1, q_bzb, b_0, b_1, b_ft, b_tf, ne_eq, not_true_eq_false, not_false_eq_true, decide_true, decide_false, Bool.and_self, Bool.false_and, Bool.and_false, Bool.and_true, Bool.true_and, Bool.not_true, Bool.not_false, ↓reduceIte]
      · simp only [hd, hle, decide_false, Bool.and_false, Bool.false_and, Bool.false_eq_true, if_false] at ih1
        obtain ⟨v8, v9, q⟩ := ih1 (z_I (nI (c w))) (z_I (nI 0))
        refine ⟨v8, v9, ?_⟩
        rw [← q, bX11_speechOf_22]
        simp (disch := first | omega | rfl | assumption) only [e1, m 47 rfl, hb1, hd, hcw, bX11_speechOf_65, bX11_speechOf_66, bX11_speechOf_100, bX11_speechOf_102, q_cl, q_ps, q_pn, bI_t, bI_f, gI_same, gI_ne, gR_pI, gJ_pI, gV_pI, gN_pI, gC_pI, gS_pI, gI_pJ, gR_pJ, gV_pJ, gN_pJ, gJ_same, gJ_ne, gI_pR, gJ_pR, gV_pR, gN_pR, gR_same, gR_ne, zin_t, zin_f, x_ltt, x_ltf, x_let, x_lef, x_eqt, x_eqf, n_0, n_1, n_2, n_3, n_4, n_5, n_6, n_7, n_8, n_9, n_10, n_11, n_12, n_16, n_19, n_20, n_24, n_25, n_32, n_40, n_48, n_50, n_60, n_64, n_80, n_96, n_114, n_684, n_1000, n_9330, n_16806, n_1000000, n_5764800, ↓n_m, m_ltI, m_leI, m_lt', m_le', m_eq, m_eq', m_add, m_sub, mm_lt, mm_le, mm_eq, q_sub, nI_add, q_mul, nI_clamp, bz_0, bz_1, q_bzb, b_0, b_1, b_ft, b_tf, ne_eq, not_true_eq_false, not_false_eq_true, decide_true, decide_false, Bool.and_self, Bool.false_and, Bool.and_false, Bool.and_true, Bool.true_and, Bool.not_true, Bool.not_false, ↓reduceIte]
theorem m_speech_end (d : Nat) {n p y dn : Nat} (x3 : Int32) (v8 v9 : z_V) {h : z_H} (m : mOK h) {w : List Nat} (hw : isW w) (hW : mW h w) :
    EX (d + 1) 227 110 [z_R 49100 0, z_I (nI p), z_I (nI y), z_I x3, z_I (nI dn), z_I (nI 1), z_I mI, z_I (nI n), v8, v9] [] h = some (some (z_I (nI (wN w))), h) := by
  have e7 := m_number d m hw hW
  rw [bX11_speechOf_110]
  simp (disch := first | omega | rfl | assumption) only [mI_lt0, bX11_speechOf_119, bX11_speechOf_120, bX11_speechOf_147, bX11_speechOf_11, bX11_speechOf_150, e7, bX11_speechOf_154, q_cl, q_ps, q_pn, bI_t, bI_f, gI_same, gI_ne, gR_pI, gJ_pI, gV_pI, gN_pI, gC_pI, gS_pI, gI_pJ, gR_pJ, gV_pJ, gN_pJ, gJ_same, gJ_ne, gI_pR, gJ_pR, gV_pR, gN_pR, gR_same, gR_ne, zin_t, zin_f, x_ltt, x_ltf, x_let, x_lef, x_eqt, x_eqf, n_0, n_1, n_2, n_3, n_4, n_5, n_6, n_7, n_8, n_9, n_10, n_11, n_12, n_16, n_19, n_20, n_24, n_25, n_32, n_40, n_48, n_50, n_60, n_64, n_80, n_96, n_114, n_684, n_1000, n_9330, n_16806, n_1000000, n_5764800, ↓n_m, m_ltI, m_leI, m_lt', m_le', m_eq, m_eq', m_add, m_sub, mm_lt, mm_le, mm_eq, q_sub, nI_add, q_mul, nI_clamp, bz_0, bz_1, q_bzb, b_0, b_1, b_ft, b_tf, ne_eq, not_true_eq_false, not_false_eq_true, decide_true, decide_false, Bool.and_self, Bool.false_and, Bool.and_false, Bool.and_true, Bool.true_and, Bool.not_true, Bool.not_false, ↓reduceIte]
/-- all that speech needs, in the reference -/
def mSp (h : z_H) (G : Gh) (n : Nat) (wl : Nat → Nat) (cc : Nat → Nat → Nat) : Prop := mT h G 0 ∧ n ≤ 8 ∧ gI h 49100 0 26 = nI n ∧ (∀ k, k < n → wl k < gnL G ∧ gI h 8611 0 k = nI (wl k)) ∧ ∀ k, k < n → ∀ p, p < 8 → cc k p ≤ 1000000 ∧ gI h 64751 0 (8 * k + p) = nI (cc k p)
theorem tW_kp {h h1 : z_H} (f : fr tW h h1) : ∀ p i k, p ≠ 8681 → p ≠ 16691 → (p ≠ 49100 ∨ k ≠ 37) → gI h1 p i k = gI h p i k := fun p i k a b c => f.2 p i k (fun z => by
  rcases z with z | z | z <;> omega)
theorem mSp_tW {h h' : z_H} (f : fr tW h h') {G : Gh} {n : Nat} {wl : Nat → Nat} {cc : Nat → Nat → Nat} (m : mSp h G n wl cc) : mSp h' G n wl cc := by
  obtain ⟨a1, a2, a3, a4, a5⟩ := m
  have kp := tW_kp f
  exact ⟨mT_tW f a1, a2, (kp _ _ _ (by decide) (by decide) (by first | decide | exact Or.inl (by decide))).trans a3, fun k hk => ⟨(a4 k hk).1, (kp _ _ _ (by decide) (by decide) (by first | decide | exact Or.inl (by decide))).trans (a4 k hk).2⟩, fun k hk p hp => ⟨(a5 k hk p hp).1, (kp _ _ _ (by decide) (by decide) (by first | decide | exact Or.inl (by decide))).trans (a5 k hk p hp).2⟩⟩
theorem m_speech_loop (d : Nat) {G : Gh} {n p y : Nat} {wl : Nat → Nat} {cc : Nat → Nat → Nat} (hp : p < 8) (hy : y < 1000) (x3 : Int32) : ∀ (r i : Nat) (w : List Nat) (dn : Nat) (u6 u7 u8 u9 : z_V) (h : z_H), i + r = n → dn < 256 → i ≤ cntB (fun k => dn.testBit k) n → isW w → mSp h G n wl cc → mW h w →
    ∃ h', EX (d + 6) 227 11 [z_R 49100 0, z_I (nI p), z_I (nI y), z_I x3, z_I (nI dn), z_I (nI 1), u6, u7, u8, u9] [] h = some (some (z_I (nI (wN (spk (gvV G) (gLF G) wl (fun k => cc k p) y n r w dn)))), h') ∧ fr tW h h' := by
  intro r
  induction r with
  | zero =>
    intro i w dn u6 u7 u8 u9 h hi hdn hcn hw m hW
    obtain ⟨a1, a2, a3, a4, a5⟩ := m
    have hnone := nxF_none (fun k => cc k p) y dn n (cntB_all (p := fun k => dn.testBit k) n (by omega))
    obtain ⟨v8, v9, q⟩ := m_next_w (d + 6) a1.2.1 a2 hp hy hdn a3 (c := fun k => cc k p) (fun k hk => (a5 k hk p hp).2) (fun k hk => (a5 k hk p hp).1) x3 n 0 u8 u9 (by omega)
    rw [hnone] at q
    refine ⟨h, ?_, fr_rfl _ _⟩
    have q' : EX (d + 6) 227 22 [z_R 49100 0, z_I (nI p), z_I (nI y), z_I x3, z_I (nI dn), z_I (nI 1), z_I mI, z_I (nI 0), u8, u9] [] h = EX (d + 6) 227 110 [z_R 49100 0, z_I (nI p), z_I (nI y), z_I x3, z_I (nI dn), z_I (nI 1), z_I mI, z_I (nI n), v8, v9] [] h := q
    show _ = some (some (z_I (nI (wN w))), h)
    rw [bX11_speechOf_11]
    simp (disch := first | omega | rfl | assumption) only [q_cl, q_ps, q_pn, bI_t, bI_f, gI_same, gI_ne, gR_pI, gJ_pI, gV_pI, gN_pI, gC_pI, gS_pI, gI_pJ, gR_pJ, gV_pJ, gN_pJ, gJ_same, gJ_ne, gI_pR, gJ_pR, gV_pR, gN_pR, gR_same, gR_ne, zin_t, zin_f, x_ltt, x_ltf, x_let, x_lef, x_eqt, x_eqf, n_0, n_1, n_2, n_3, n_4, n_5, n_6, n_7, n_8, n_9, n_10, n_11, n_12, n_16, n_19, n_20, n_24, n_25, n_32, n_40, n_48, n_50, n_60, n_64, n_80, n_96, n_114, n_684, n_1000, n_9330, n_16806, n_1000000, n_5764800, ↓n_m, m_ltI, m_leI, m_lt', m_le', m_eq, m_eq', m_add, m_sub, mm_lt, mm_le, mm_eq, q_sub, nI_add, q_mul, nI_clamp, bz_0, bz_1, q_bzb, b_0, b_1, b_ft, b_tf, ne_eq, not_true_eq_false, not_false_eq_true, decide_true, decide_false, Bool.and_self, Bool.false_and, Bool.and_false, Bool.and_true, Bool.true_and, Bool.not_true, Bool.not_false, ↓reduceIte]
    rw [q']
    exact m_speech_end (d + 5) x3 v8 v9 a1.2.1 hw hW
  | succ r ih =>
    intro i w dn u6 u7 u8 u9 h hi hdn hcn hw m hW
    have m' := m
    obtain ⟨a1, a2, a3, a4, a5⟩ := m
    obtain ⟨v8, v9, q⟩ := m_next_w (d + 6) a1.2.1 a2 hp hy hdn a3 (c := fun k => cc k p) (fun k hk => (a5 k hk p hp).2) (fun k hk => (a5 k hk p hp).1) x3 n 0 u8 u9 (by omega)
    have es : spk (gvV G) (gLF G) wl (fun k => cc k p) y n (r + 1) w dn = match nxF (fun k => cc k p) y dn n with | none => w | some k => spk (gvV G) (gLF G) wl (fun k => cc k p) y n r (runW (gvV G) (gLF G (wl k)) w) (dn ||| 2 ^ k) := rfl
    rw [bX11_speechOf_11]
    cases hk : nxF (fun k => cc k p) y dn n with
    | none =>
      rw [hk] at q es
      have q' : EX (d + 6) 227 22 [z_R 49100 0, z_I (nI p), z_I (nI y), z_I x3, z_I (nI dn), z_I (nI 1), z_I mI, z_I (nI 0), u8, u9] [] h = EX (d + 6) 227 110 [z_R 49100 0, z_I (nI p), z_I (nI y), z_I x3, z_I (nI dn), z_I (nI 1), z_I mI, z_I (nI n), v8, v9] [] h := q
      refine ⟨h, ?_, fr_rfl _ _⟩
      rw [es]
      simp (disch := first | omega | rfl | assumption) only [q_cl, q_ps, q_pn, bI_t, bI_f, gI_same, gI_ne, gR_pI, gJ_pI, gV_pI, gN_pI, gC_pI, gS_pI, gI_pJ, gR_pJ, gV_pJ, gN_pJ, gJ_same, gJ_ne, gI_pR, gJ_pR, gV_pR, gN_pR, gR_same, gR_ne, zin_t, zin_f, x_ltt, x_ltf, x_let, x_lef, x_eqt, x_eqf, n_0, n_1, n_2, n_3, n_4, n_5, n_6, n_7, n_8, n_9, n_10, n_11, n_12, n_16, n_19, n_20, n_24, n_25, n_32, n_40, n_48, n_50, n_60, n_64, n_80, n_96, n_114, n_684, n_1000, n_9330, n_16806, n_1000000, n_5764800, ↓n_m, m_ltI, m_leI, m_lt', m_le', m_eq, m_eq', m_add, m_sub, mm_lt, mm_le, mm_eq, q_sub, nI_add, q_mul, nI_clamp, bz_0, bz_1, q_bzb, b_0, b_1, b_ft, b_tf, ne_eq, not_true_eq_false, not_false_eq_true, decide_true, decide_false, Bool.and_self, Bool.false_and, Bool.and_false, Bool.and_true, Bool.true_and, Bool.not_true, Bool.not_false, ↓reduceIte]
      rw [q']
      exact m_speech_end (d + 5) x3 v8 v9 a1.2.1 hw hW
    | some k =>
      rw [hk] at q es
      obtain ⟨k1, k2, k3⟩ := nxF_spec _ y dn n k hk
      have q' : EX (d + 6) 227 22 [z_R 49100 0, z_I (nI p), z_I (nI y), z_I x3, z_I (nI dn), z_I (nI 1), z_I mI, z_I (nI 0), u8, u9] [] h = EX (d + 6) 227 110 [z_R 49100 0, z_I (nI p), z_I (nI y), z_I x3, z_I (nI dn), z_I (nI 1), z_I (nI k), z_I (nI n), v8, v9] [] h := q
      obtain ⟨hl, w2⟩ := a4 k k1
      have g1 := a1.1
      obtain ⟨h1, p1, p2, p3⟩ := m_runLaw d a1.2.1 a1.2.2.1 g1.1 hw hW (j := wl k) (by have := g1.2.1; omega) (g1.2.2.1 _ hl).1 (mLs_mL (a1.2.2.2.2.1 (wl k) hl))
      have hsh : nI 1 <<< (nI k &&& 31) = nI (2 ^ k) := by rw [q_shl 1 (by omega), Nat.one_mul]
      have hmore := cntB_more (p := fun k => dn.testBit k) (q := fun j => (dn ||| 2 ^ k).testBit j) (x := k) k3 (by show (dn ||| 2 ^ k).testBit k = true; rw [Nat.testBit_or, Nat.testBit_two_pow_self, Bool.or_true]) n k1 (fun j _ hj => by
        have hj' : dn.testBit j = true := hj
        show (dn ||| 2 ^ k).testBit j = true
        rw [Nat.testBit_or, hj', Bool.true_or])
      obtain ⟨h', r1, r2⟩ := ih (i + 1) (runW (gvV G) (gLF G (wl k)) w) (dn ||| 2 ^ k) (z_I (nI k)) (z_I (nI n)) v8 v9 h1 (by omega) (or_lt hdn (by omega)) (by omega) (runW_ok (g1.2.2.1 _ hl).1 hw) (mSp_tW p3 m') p2
      refine ⟨h', ?_, fr_trans p3 r2⟩
      rw [es]
      simp (disch := first | omega | rfl | assumption) only [q_cl, q_ps, q_pn, bI_t, bI_f, gI_same, gI_ne, gR_pI, gJ_pI, gV_pI, gN_pI, gC_pI, gS_pI, gI_pJ, gR_pJ, gV_pJ, gN_pJ, gJ_same, gJ_ne, gI_pR, gJ_pR, gV_pR, gN_pR, gR_same, gR_ne, zin_t, zin_f, x_ltt, x_ltf, x_let, x_lef, x_eqt, x_eqf, n_0, n_1, n_2, n_3, n_4, n_5, n_6, n_7, n_8, n_9, n_10, n_11, n_12, n_16, n_19, n_20, n_24, n_25, n_32, n_40, n_48, n_50, n_60, n_64, n_80, n_96, n_114, n_684, n_1000, n_9330, n_16806, n_1000000, n_5764800, ↓n_m, m_ltI, m_leI, m_lt', m_le', m_eq, m_eq', m_add, m_sub, mm_lt, mm_le, mm_eq, q_sub, nI_add, q_mul, nI_clamp, bz_0, bz_1, q_bzb, b_0, b_1, b_ft, b_tf, ne_eq, not_true_eq_false, not_false_eq_true, decide_true, decide_false, Bool.and_self, Bool.false_and, Bool.and_false, Bool.and_true, Bool.true_and, Bool.not_true, Bool.not_false, ↓reduceIte]
      rw [q', bX11_speechOf_110]
      simp (disch := first | omega | rfl | assumption) only [bX11_speechOf_120, a1.2.1 27 rfl, w2, p1, hsh, q_or, bX11_speechOf_147, q_cl, q_ps, q_pn, bI_t, bI_f, gI_same, gI_ne, gR_pI, gJ_pI, gV_pI, gN_pI, gC_pI, gS_pI, gI_pJ, gR_pJ, gV_pJ, gN_pJ, gJ_same, gJ_ne, gI_pR, gJ_pR, gV_pR, gN_pR, gR_same, gR_ne, zin_t, zin_f, x_ltt, x_ltf, x_let, x_lef, x_eqt, x_eqf, n_0, n_1, n_2, n_3, n_4, n_5, n_6, n_7, n_8, n_9, n_10, n_11, n_12, n_16, n_19, n_20, n_24, n_25, n_32, n_40, n_48, n_50, n_60, n_64, n_80, n_96, n_114, n_684, n_1000, n_9330, n_16806, n_1000000, n_5764800, ↓n_m, m_ltI, m_leI, m_lt', m_le', m_eq, m_eq', m_add, m_sub, mm_lt, mm_le, mm_eq, q_sub, nI_add, q_mul, nI_clamp, bz_0, bz_1, q_bzb, b_0, b_1, b_ft, b_tf, ne_eq, not_true_eq_false, not_false_eq_true, decide_true, decide_false, Bool.and_self, Bool.false_and, Bool.and_false, Bool.and_true, Bool.true_and, Bool.not_true, Bool.not_false, ↓reduceIte]
      exact r1
theorem m_speechOf (d : Nat) {h : z_H} {G : Gh} {n p y : Nat} {wl : Nat → Nat} {cc : Nat → Nat → Nat} (m : mSp h G n wl cc) (hp : p < 8) (hy : y < 1000) {w : List Nat} (hw : isW w) :
    ∃ h', Rn (d + 7) 227 [z_R 49100 0, z_I (nI p), z_I (nI y), z_I (nI (wN w))] h = some (some (z_I (nI (wN (spk (gvV G) (gLF G) wl (fun k => cc k p) y n n w 0)))), h') ∧ fr tW h h' := by
  obtain ⟨h1, e1, e2, e3⟩ := m_load (d + 5) m.1.2.1 hw
  obtain ⟨h', q1, q2⟩ := m_speech_loop d hp hy (nI (wN w)) n 0 w 0 z_U z_U z_U z_U h1 (by omega) (by decide) (Nat.zero_le _) hw (mSp_tW e3 m) e2
  refine ⟨h', ?_, fr_trans e3 q2⟩
  rw [rX11_speechOf, bX11_speechOf_0]
  simp (disch := first | omega | rfl | assumption) only [e1, bX11_speechOf_5, q_cl, q_ps, q_pn, bI_t, bI_f, gI_same, gI_ne, gR_pI, gJ_pI, gV_pI, gN_pI, gC_pI, gS_pI, gI_pJ, gR_pJ, gV_pJ, gN_pJ, gJ_same, gJ_ne, gI_pR, gJ_pR, gV_pR, gN_pR, gR_same, gR_ne, zin_t, zin_f, x_ltt, x_ltf, x_let, x_lef, x_eqt, x_eqf, n_0, n_1, n_2, n_3, n_4, n_5, n_6, n_7, n_8, n_9, n_10, n_11, n_12, n_16, n_19, n_20, n_24, n_25, n_32, n_40, n_48, n_50, n_60, n_64, n_80, n_96, n_114, n_684, n_1000, n_9330, n_16806, n_1000000, n_5764800, ↓n_m, m_ltI, m_leI, m_lt', m_le', m_eq, m_eq', m_add, m_sub, mm_lt, mm_le, mm_eq, q_sub, nI_add, q_mul, nI_clamp, bz_0, bz_1, q_bzb, b_0, b_1, b_ft, b_tf, ne_eq, not_true_eq_false, not_false_eq_true, decide_true, decide_false, Bool.and_self, Bool.false_and, Bool.and_false, Bool.and_true, Bool.true_and, Bool.not_true, Bool.not_false, ↓reduceIte]
  exact q1
/-- what a word is in the speech of a place in a year -/
abbrev spF (G : Gh) (rd sh : Nat → Nat) (n : Nat) (wl wp wy : Nat → Nat) (p y : Nat) (w : List Nat) : List Nat := spk (gvV G) (gLF G) wl (fun k => arr rd sh (wp k) (wy k) p) y n n w 0
theorem spF_ok {h : z_H} {G : Gh} (hG : okG G) {rd sh : Nat → Nat} {n : Nat} {wl wp wy : Nat → Nat} (hL : iLdG h (gnL G) rd sh n wl wp wy) (p y : Nat) {w : List Nat} (hw : isW w) : isW (spF G rd sh n wl wp wy p y w) := spk_ok hG.2.2.1 (fun k hk => (hL.2.2.2.2.2.2.1 k hk).1) n w 0 hw
theorem mSp_of (d : Nat) {h : z_H} {N : Nat} {xs : Nat → Int32} {G : Gh} {e : Int32} (hG : InvG h N xs G e) {rd sh : Nat → Nat} {n : Nat} {wl wp wy : Nat → Nat} (hL : iLdG h (gnL G) rd sh n wl wp wy) :
    ∃ h', Rn (d + 3) 225 [z_R 49100 0] h = some (none, h') ∧ mSp h' G n wl (fun k p => arr rd sh (wp k) (wy k) p) ∧ frX [12] h h' := by
  obtain ⟨h2, f1, f2, f3⟩ := m_findWaves d (I_m hG) hL
  have F := frX_fr f3 g_com
  have I2 := Inv_scr F hG
  obtain ⟨l1, l2, l3, l4, l5, l6, l7, l8⟩ := iLdG_fr F (by decide) (by decide) (by decide) hL
  exact ⟨h2, f1, ⟨mT_of I2, l4, l6, fun k hk => ⟨(l7 k hk).1, (l7 k hk).2.2.2.2.2.2.1⟩, fun k hk p hp => ⟨(arr_le (fun j hj => (l1 j hj).1) (l7 k hk).2.2.1 p).1, f2 k hk p hp⟩⟩, F⟩
theorem op_speech {N : Nat} {xs : Nat → Int32} (d : Nat) {h : z_H} (hI : Inv h N xs) (x1 x2 x3 : Int32) : OKc N xs (d + 60) 119 228 [z_I x1, z_I x2, z_I x3] h := by
  obtain ⟨G, hG⟩ := hI
  have m := I_m hG
  have c := I_c hG
  cases g1 : z_in x1 8 with
  | false => exact OK_ref2 hG (-1000001) (by simp (disch := first | omega | rfl | assumption) only [bX10_speech_0, bX10_speech_4, bX10_speech_11, bX10_speech_19, bX10_speech_28, bX10_speech_34, bX10_speech_35, bX10_speech_42, bX10_speech_53, bX10_speech_56, rX10_speech, c_rowOf, c_noPlace, g1, c_finding, q_cl, q_ps, q_pn, bI_t, bI_f, gI_same, gI_ne, gR_pI, gJ_pI, gV_pI, gN_pI, gC_pI, gS_pI, gI_pJ, gR_pJ, gV_pJ, gN_pJ, gJ_same, gJ_ne, gI_pR, gJ_pR, gV_pR, gN_pR, gR_same, gR_ne, zin_t, zin_f, x_ltt, x_ltf, x_let, x_lef, x_eqt, x_eqf, n_0, n_1, n_2, n_3, n_4, n_5, n_6, n_7, n_8, n_9, n_10, n_11, n_12, n_16, n_19, n_20, n_24, n_25, n_32, n_40, n_48, n_50, n_60, n_64, n_80, n_96, n_114, n_684, n_1000, n_9330, n_16806, n_1000000, n_5764800, ↓n_m, m_ltI, m_leI, m_lt', m_le', m_eq, m_eq', m_add, m_sub, mm_lt, mm_le, mm_eq, q_sub, nI_add, q_mul, nI_clamp, bz_0, bz_1, q_bzb, b_0, b_1, b_ft, b_tf, ne_eq, not_true_eq_false, not_false_eq_true, decide_true, decide_false, Bool.and_self, Bool.false_and, Bool.and_false, Bool.and_true, Bool.true_and, Bool.not_true, Bool.not_false, ↓reduceIte]) (by simp (disch := first | omega | rfl | assumption) only [bX11_speech_0, bX11_speech_4, bX11_speech_11, bX11_speech_18, bX11_speech_21, bX11_speech_27, bX11_speech_28, bX11_speech_32, bX11_speech_39, rX11_speech, m_isPlace, g1, m_finding, q_cl, q_ps, q_pn, bI_t, bI_f, gI_same, gI_ne, gR_pI, gJ_pI, gV_pI, gN_pI, gC_pI, gS_pI, gI_pJ, gR_pJ, gV_pJ, gN_pJ, gJ_same, gJ_ne, gI_pR, gJ_pR, gV_pR, gN_pR, gR_same, gR_ne, zin_t, zin_f, x_ltt, x_ltf, x_let, x_lef, x_eqt, x_eqf, n_0, n_1, n_2, n_3, n_4, n_5, n_6, n_7, n_8, n_9, n_10, n_11, n_12, n_16, n_19, n_20, n_24, n_25, n_32, n_40, n_48, n_50, n_60, n_64, n_80, n_96, n_114, n_684, n_1000, n_9330, n_16806, n_1000000, n_5764800, ↓n_m, m_ltI, m_leI, m_lt', m_le', m_eq, m_eq', m_add, m_sub, mm_lt, mm_le, mm_eq, q_sub, nI_add, q_mul, nI_clamp, bz_0, bz_1, q_bzb, b_0, b_1, b_ft, b_tf, ne_eq, not_true_eq_false, not_false_eq_true, decide_true, decide_false, Bool.and_self, Bool.false_and, Bool.and_false, Bool.and_true, Bool.true_and, Bool.not_true, Bool.not_false, ↓reduceIte])
  | true =>
    obtain ⟨p, hp, -, rfl⟩ := zin_of g1
    cases g2 : z_in x2 1000 with
    | false => exact OK_ref2 hG (-1000001) (by simp (disch := first | omega | rfl | assumption) only [bX10_speech_0, bX10_speech_4, bX10_speech_11, bX10_speech_19, bX10_speech_28, bX10_speech_34, bX10_speech_35, bX10_speech_42, bX10_speech_53, bX10_speech_56, rX10_speech, c_rowOf, c_noPlace, g1, c_noYear, g2, c_finding, q_cl, q_ps, q_pn, bI_t, bI_f, gI_same, gI_ne, gR_pI, gJ_pI, gV_pI, gN_pI, gC_pI, gS_pI, gI_pJ, gR_pJ, gV_pJ, gN_pJ, gJ_same, gJ_ne, gI_pR, gJ_pR, gV_pR, gN_pR, gR_same, gR_ne, zin_t, zin_f, x_ltt, x_ltf, x_let, x_lef, x_eqt, x_eqf, n_0, n_1, n_2, n_3, n_4, n_5, n_6, n_7, n_8, n_9, n_10, n_11, n_12, n_16, n_19, n_20, n_24, n_25, n_32, n_40, n_48, n_50, n_60, n_64, n_80, n_96, n_114, n_684, n_1000, n_9330, n_16806, n_1000000, n_5764800, ↓n_m, m_ltI, m_leI, m_lt', m_le', m_eq, m_eq', m_add, m_sub, mm_lt, mm_le, mm_eq, q_sub, nI_add, q_mul, nI_clamp, bz_0, bz_1, q_bzb, b_0, b_1, b_ft, b_tf, ne_eq, not_true_eq_false, not_false_eq_true, decide_true, decide_false, Bool.and_self, Bool.false_and, Bool.and_false, Bool.and_true, Bool.true_and, Bool.not_true, Bool.not_false, ↓reduceIte]) (by simp (disch := first | omega | rfl | assumption) only [bX11_speech_0, bX11_speech_4, bX11_speech_11, bX11_speech_18, bX11_speech_21, bX11_speech_27, bX11_speech_28, bX11_speech_32, bX11_speech_39, rX11_speech, m_isPlace, g1, m_isYear, g2, m_finding, q_cl, q_ps, q_pn, bI_t, bI_f, gI_same, gI_ne, gR_pI, gJ_pI, gV_pI, gN_pI, gC_pI, gS_pI, gI_pJ, gR_pJ, gV_pJ, gN_pJ, gJ_same, gJ_ne, gI_pR, gJ_pR, gV_pR, gN_pR, gR_same, gR_ne, zin_t, zin_f, x_ltt, x_ltf, x_let, x_lef, x_eqt, x_eqf, n_0, n_1, n_2, n_3, n_4, n_5, n_6, n_7, n_8, n_9, n_10, n_11, n_12, n_16, n_19, n_20, n_24, n_25, n_32, n_40, n_48, n_50, n_60, n_64, n_80, n_96, n_114, n_684, n_1000, n_9330, n_16806, n_1000000, n_5764800, ↓n_m, m_ltI, m_leI, m_lt', m_le', m_eq, m_eq', m_add, m_sub, mm_lt, mm_le, mm_eq, q_sub, nI_add, q_mul, nI_clamp, bz_0, bz_1, q_bzb, b_0, b_1, b_ft, b_tf, ne_eq, not_true_eq_false, not_false_eq_true, decide_true, decide_false, Bool.and_self, Bool.false_and, Bool.and_false, Bool.and_true, Bool.true_and, Bool.not_true, Bool.not_false, ↓reduceIte])
    | true =>
      obtain ⟨y, hy, -, rfl⟩ := zin_of g2
      cases g3 : isX x3 with
      | false => exact OK_ref2 hG (-1000001) (by simp (disch := first | omega | rfl | assumption) only [bX10_speech_0, bX10_speech_4, bX10_speech_11, bX10_speech_19, bX10_speech_28, bX10_speech_34, bX10_speech_35, bX10_speech_42, bX10_speech_53, bX10_speech_56, rX10_speech, c_rowOf, rowX_no g3, c_noPlace, g1, c_noYear, g2, c_finding, q_cl, q_ps, q_pn, bI_t, bI_f, gI_same, gI_ne, gR_pI, gJ_pI, gV_pI, gN_pI, gC_pI, gS_pI, gI_pJ, gR_pJ, gV_pJ, gN_pJ, gJ_same, gJ_ne, gI_pR, gJ_pR, gV_pR, gN_pR, gR_same, gR_ne, zin_t, zin_f, x_ltt, x_ltf, x_let, x_lef, x_eqt, x_eqf, n_0, n_1, n_2, n_3, n_4, n_5, n_6, n_7, n_8, n_9, n_10, n_11, n_12, n_16, n_19, n_20, n_24, n_25, n_32, n_40, n_48, n_50, n_60, n_64, n_80, n_96, n_114, n_684, n_1000, n_9330, n_16806, n_1000000, n_5764800, ↓n_m, m_ltI, m_leI, m_lt', m_le', m_eq, m_eq', m_add, m_sub, mm_lt, mm_le, mm_eq, q_sub, nI_add, q_mul, nI_clamp, bz_0, bz_1, q_bzb, b_0, b_1, b_ft, b_tf, ne_eq, not_true_eq_false, not_false_eq_true, decide_true, decide_false, Bool.and_self, Bool.false_and, Bool.and_false, Bool.and_true, Bool.true_and, Bool.not_true, Bool.not_false, ↓reduceIte]) (by simp (disch := first | omega | rfl | assumption) only [bX11_speech_0, bX11_speech_4, bX11_speech_11, bX11_speech_18, bX11_speech_21, bX11_speech_27, bX11_speech_28, bX11_speech_32, bX11_speech_39, rX11_speech, m_isPlace, g1, m_isYear, g2, m_isWord, g3, m_finding, q_cl, q_ps, q_pn, bI_t, bI_f, gI_same, gI_ne, gR_pI, gJ_pI, gV_pI, gN_pI, gC_pI, gS_pI, gI_pJ, gR_pJ, gV_pJ, gN_pJ, gJ_same, gJ_ne, gI_pR, gJ_pR, gV_pR, gN_pR, gR_same, gR_ne, zin_t, zin_f, x_ltt, x_ltf, x_let, x_lef, x_eqt, x_eqf, n_0, n_1, n_2, n_3, n_4, n_5, n_6, n_7, n_8, n_9, n_10, n_11, n_12, n_16, n_19, n_20, n_24, n_25, n_32, n_40, n_48, n_50, n_60, n_64, n_80, n_96, n_114, n_684, n_1000, n_9330, n_16806, n_1000000, n_5764800, ↓n_m, m_ltI, m_leI, m_lt', m_le', m_eq, m_eq', m_add, m_sub, mm_lt, mm_le, mm_eq, q_sub, nI_add, q_mul, nI_clamp, bz_0, bz_1, q_bzb, b_0, b_1, b_ft, b_tf, ne_eq, not_true_eq_false, not_false_eq_true, decide_true, decide_false, Bool.and_self, Bool.false_and, Bool.and_false, Bool.and_true, Bool.true_and, Bool.not_true, Bool.not_false, ↓reduceIte])
      | true =>
        obtain ⟨w, hw, rfl⟩ := isX_of g3
        have hlt := rowN_lt' hw
        obtain ⟨rd, sh, n, wl, wp, wy, hL⟩ := I_ld hG
        obtain ⟨h1, e1, I1, hL1, e2, F1⟩ := c_spread (d + 56) hG hL
        obtain ⟨h2, f1, f2, f3⟩ := mSp_of (d + 56) I1 hL1
        have I2 := Inv_scr f3 I1
        have c1 := c_spoken (d + 55) I1 hL1 e2 hp hy hw
        have ok := spF_ok (mT_of hG).1 hL p y hw
        obtain ⟨h3, k1, k2⟩ := m_speechOf (d + 52) f2 hp hy hw
        refine ⟨nI (wN (spF G rd sh n wl wp wy p y w)), h1, h3, ?_, ?_, G, Inv_scr (frX_fr k2 tW_g) I2⟩
        · simp (disch := first | omega | rfl | assumption) only [bX10_speech_0, bX10_speech_4, bX10_speech_11, bX10_speech_19, bX10_speech_28, bX10_speech_34, bX10_speech_35, bX10_speech_42, bX10_speech_53, bX10_speech_56, rX10_speech, c_rowOf, rowX_w hw, c_noPlace, g1, c_noYear, g2, c.1 10090 5 rfl, e1, (I_c I1).1 10090 5 rfl, c1, c_numberOf _ ok, q_cl, q_ps, q_pn, bI_t, bI_f, gI_same, gI_ne, gR_pI, gJ_pI, gV_pI, gN_pI, gC_pI, gS_pI, gI_pJ, gR_pJ, gV_pJ, gN_pJ, gJ_same, gJ_ne, gI_pR, gJ_pR, gV_pR, gN_pR, gR_same, gR_ne, zin_t, zin_f, x_ltt, x_ltf, x_let, x_lef, x_eqt, x_eqf, n_0, n_1, n_2, n_3, n_4, n_5, n_6, n_7, n_8, n_9, n_10, n_11, n_12, n_16, n_19, n_20, n_24, n_25, n_32, n_40, n_48, n_50, n_60, n_64, n_80, n_96, n_114, n_684, n_1000, n_9330, n_16806, n_1000000, n_5764800, ↓n_m, m_ltI, m_leI, m_lt', m_le', m_eq, m_eq', m_add, m_sub, mm_lt, mm_le, mm_eq, q_sub, nI_add, q_mul, nI_clamp, bz_0, bz_1, q_bzb, b_0, b_1, b_ft, b_tf, ne_eq, not_true_eq_false, not_false_eq_true, decide_true, decide_false, Bool.and_self, Bool.false_and, Bool.and_false, Bool.and_true, Bool.true_and, Bool.not_true, Bool.not_false, ↓reduceIte]
        · simp (disch := first | omega | rfl | assumption) only [bX11_speech_0, bX11_speech_4, bX11_speech_11, bX11_speech_18, bX11_speech_21, bX11_speech_27, bX11_speech_28, bX11_speech_32, bX11_speech_39, rX11_speech, m_isPlace, g1, m_isYear, g2, m_isWord, g3, f1, k1, q_cl, q_ps, q_pn, bI_t, bI_f, gI_same, gI_ne, gR_pI, gJ_pI, gV_pI, gN_pI, gC_pI, gS_pI, gI_pJ, gR_pJ, gV_pJ, gN_pJ, gJ_same, gJ_ne, gI_pR, gJ_pR, gV_pR, gN_pR, gR_same, gR_ne, zin_t, zin_f, x_ltt, x_ltf, x_let, x_lef, x_eqt, x_eqf, n_0, n_1, n_2, n_3, n_4, n_5, n_6, n_7, n_8, n_9, n_10, n_11, n_12, n_16, n_19, n_20, n_24, n_25, n_32, n_40, n_48, n_50, n_60, n_64, n_80, n_96, n_114, n_684, n_1000, n_9330, n_16806, n_1000000, n_5764800, ↓n_m, m_ltI, m_leI, m_lt', m_le', m_eq, m_eq', m_add, m_sub, mm_lt, mm_le, mm_eq, q_sub, nI_add, q_mul, nI_clamp, bz_0, bz_1, q_bzb, b_0, b_1, b_ft, b_tf, ne_eq, not_true_eq_false, not_false_eq_true, decide_true, decide_false, Bool.and_self, Bool.false_and, Bool.and_false, Bool.and_true, Bool.true_and, Bool.not_true, Bool.not_false, ↓reduceIte]
