/-! ===== speech ===== -/
/-- the next wave: c: years in which they come, dn: those that are done -/
def nxF (c : Nat → Nat) (y dn : Nat) : Nat → Option Nat
  | 0 => none
  | n + 1 => if (!dn.testBit n && decide (c n ≤ y) && (match nxF c y dn n with | none => true | some k => decide (c n < c k))) = true then some n else nxF c y dn n
theorem nxF_succ (c : Nat → Nat) (y dn n : Nat) : nxF c y dn (n + 1) = if (!dn.testBit n && decide (c n ≤ y) && (match nxF c y dn n with | none => true | some k => decide (c n < c k))) = true then some n else nxF c y dn n := rfl
theorem nxF_spec (c : Nat → Nat) (y dn : Nat) : ∀ n k, nxF c y dn n = some k → k < n ∧ c k ≤ y ∧ dn.testBit k = false := by
  intro n
  induction n with
  | zero => intro k h; cases h
  | succ n ih =>
    intro k h
    rw [nxF_succ] at h
    split at h
    · next q =>
      cases h
      rw [Bool.and_eq_true, Bool.and_eq_true, decide_eq_true_eq] at q
      exact ⟨by omega, q.1.2, by simpa using q.1.1⟩
    · have := ih k h
      exact ⟨by omega, this.2⟩
theorem nxF_none (c : Nat → Nat) (y dn : Nat) : ∀ n, (∀ k, k < n → dn.testBit k = true) → nxF c y dn n = none := by
  intro n
  induction n with
  | zero => intro _; rfl
  | succ n ih =>
    intro h
    rw [nxF_succ, h n (by omega), ih (fun k hk => h k (by omega))]
    rfl
def nxI (o : Option Nat) : Int32 := match o with
  | none => mI
  | some k => nI k
/-- laws run one behind another -/
def spk (V : Nat) (LF : Nat → Lw) (wl c : Nat → Nat) (y n : Nat) : Nat → List Nat → Nat → List Nat
  | 0, w, _ => w
  | r + 1, w, dn => match nxF c y dn n with
    | none => w
    | some k => spk V LF wl c y n r (runW V (LF (wl k)) w) (dn ||| 2 ^ k)
theorem spk_ok {V : Nat} {LF : Nat → Lw} {nL : Nat} (hL : ∀ j, j < nL → nmL (LF j)) {wl c : Nat → Nat} {y n : Nat} (hw : ∀ k, k < n → wl k < nL) : ∀ r w dn, isW w → isW (spk V LF wl c y n r w dn) := by
  intro r
  induction r with
  | zero => intro w dn h; exact h
  | succ r ih =>
    intro w dn h
    show isW (match nxF c y dn n with | none => w | some k => spk V LF wl c y n r (runW V (LF (wl k)) w) (dn ||| 2 ^ k))
    cases hk : nxF c y dn n with
    | none => exact h
    | some k => exact ih _ _ (runW_ok (hL _ (hw k (nxF_spec c y dn n k hk).1)).1 h)
theorem c_next_loop (d : Nat) {h : z_H} (ck : cOK h) {n p y dn : Nat} {c : Nat → Nat} (hn : n ≤ 8) (hp : p < 8) (hy : y < 1000) (hdn : dn < 256) (e1 : gI h 11030 0 0 = nI n) (hc : ∀ k, k < n → gI h 64221 0 (8 * k + p) = comI (c k)) (hb : ∀ k, k < n → c k < 1000000 → c k ≤ 5608) : ∀ (r w : Nat) (x5 : Int32) (u7 : z_V), w + r = n → x5 = (match nxF c y dn w with | none => nI (y + 1) | some k => nI (c k)) →
    EX d 46 11 [z_R 11030 0, z_I (nI p), z_I (nI y), z_I (nI dn), z_I (nxI (nxF c y dn w)), z_I x5, z_I (nI w), u7] [] h = some (some (z_I (nxI (nxF c y dn n))), h) := by
  intro r
  induction r with
  | zero =>
    intro w x5 u7 hw _
    have : w = n := by omega
    subst this
    rw [bX3_nextWave_11]
    simp (disch := first | omega | rfl | assumption) only [e1, bX3_nextWave_70, q_cl, q_ps, q_pn, bI_t, bI_f, gI_same, gI_ne, gR_pI, gJ_pI, gV_pI, gN_pI, gC_pI, gS_pI, gI_pJ, gR_pJ, gV_pJ, gN_pJ, gJ_same, gJ_ne, gI_pR, gJ_pR, gV_pR, gN_pR, gR_same, gR_ne, zin_t, zin_f, x_ltt, x_ltf, x_let, x_lef, x_eqt, x_eqf, n_0, n_1, n_2, n_3, n_4, n_5, n_6, n_7, n_8, n_9, n_10, n_11, n_12, n_16, n_19, n_20, n_24, n_25, n_32, n_40, n_48, n_50, n_60, n_64, n_80, n_96, n_114, n_684, n_1000, n_9330, n_16806, n_1000000, n_5764800, ↓n_m, m_ltI, m_leI, m_lt', m_le', m_eq, m_eq', m_add, m_sub, mm_lt, mm_le, mm_eq, q_sub, nI_add, q_mul, nI_clamp, bz_0, bz_1, q_bzb, b_0, b_1, b_ft, b_tf, ne_eq, not_true_eq_false, not_false_eq_true, decide_true, decide_false, Bool.and_self, Bool.false_and, Bool.and_false, Bool.and_true, Bool.true_and, Bool.not_true, Bool.not_false, ↓reduceIte]
  | succ r ih =>
    intro w x5 u7 hw h5
    have hwp : w * 8 + p = 8 * w + p := by omega
    have hb1 : z_ush (nI dn) (nI w) &&& nI 1 = bI (dn.testBit w) := q_bit (by omega) (by omega)
    have hcw := hc w (by omega)
    have ih1 := fun x5 u7 => ih (w + 1) x5 u7 (by omega)
    rw [nxF_succ] at ih1
    rw [bX3_nextWave_11]
    cases hd : dn.testBit w with
    | true =>
      simp only [hd, Bool.not_true, Bool.false_and, Bool.false_eq_true, if_false] at ih1
      simp (disch := first | omega | rfl | assumption) only [e1, ck.1 11030 2 rfl, hwp, hb1, hd, bX3_nextWave_64, q_cl, q_ps, q_pn, bI_t, bI_f, gI_same, gI_ne, gR_pI, gJ_pI, gV_pI, gN_pI, gC_pI, gS_pI, gI_pJ, gR_pJ, gV_pJ, gN_pJ, gJ_same, gJ_ne, gI_pR, gJ_pR, gV_pR, gN_pR, gR_same, gR_ne, zin_t, zin_f, x_ltt, x_ltf, x_let, x_lef, x_eqt, x_eqf, n_0, n_1, n_2, n_3, n_4, n_5, n_6, n_7, n_8, n_9, n_10, n_11, n_12, n_16, n_19, n_20, n_24, n_25, n_32, n_40, n_48, n_50, n_60, n_64, n_80, n_96, n_114, n_684, n_1000, n_9330, n_16806, n_1000000, n_5764800, ↓n_m, m_ltI, m_leI, m_lt', m_le', m_eq, m_eq', m_add, m_sub, mm_lt, mm_le, mm_eq, q_sub, nI_add, q_mul, nI_clamp, bz_0, bz_1, q_bzb, b_0, b_1, b_ft, b_tf, ne_eq, not_true_eq_false, not_false_eq_true, decide_true, decide_false, Bool.and_self, Bool.false_and, Bool.and_false, Bool.and_true, Bool.true_and, Bool.not_true, Bool.not_false, ↓reduceIte]
      exact ih1 x5 _ h5
    | false =>
      by_cases hf : c w < 1000000
      · have hbw := hb w (by omega) hf
        rw [comI_fin hf] at hcw
        cases ho : nxF c y dn w with
        | none =>
          rw [ho] at h5
          subst h5
          by_cases hle : c w ≤ y
          · simp only [hd, ho, hle, Bool.not_false, decide_true, Bool.and_self, if_true] at ih1
            simp (disch := first | omega | rfl | assumption) only [e1, ck.1 11030 2 rfl, hwp, hb1, hd, hcw, bX3_nextWave_64, q_cl, q_ps, q_pn, bI_t, bI_f, gI_same, gI_ne, gR_pI, gJ_pI, gV_pI, gN_pI, gC_pI, gS_pI, gI_pJ, gR_pJ, gV_pJ, gN_pJ, gJ_same, gJ_ne, gI_pR, gJ_pR, gV_pR, gN_pR, gR_same, gR_ne, zin_t, zin_f, x_ltt, x_ltf, x_let, x_lef, x_eqt, x_eqf, n_0, n_1, n_2, n_3, n_4, n_5, n_6, n_7, n_8, n_9, n_10, n_11, n_12, n_16, n_19, n_20, n_24, n_25, n_32, n_40, n_48, n_50, n_60, n_64, n_80, n_96, n_114, n_684, n_1000, n_9330, n_16806, n_1000000, n_5764800, ↓n_m, m_ltI, m_leI, m_lt', m_le', m_eq, m_eq', m_add, m_sub, mm_lt, mm_le, mm_eq, q_sub, nI_add, q_mul, nI_clamp, bz_0, bz_1, q_bzb, b_0, b_1, b_ft, b_tf, ne_eq, not_true_eq_false, not_false_eq_true, decide_true, decide_false, Bool.and_self, Bool.false_and, Bool.and_false, Bool.and_true, Bool.true_and, Bool.not_true, Bool.not_false, ↓reduceIte]
            exact ih1 (nI (c w)) _ rfl
          · simp only [hd, ho, hle, decide_false, Bool.and_false, Bool.false_and, Bool.false_eq_true, if_false] at ih1
            simp (disch := first | omega | rfl | assumption) only [e1, ck.1 11030 2 rfl, hwp, hb1, hd, hcw, bX3_nextWave_64, q_cl, q_ps, q_pn, bI_t, bI_f, gI_same, gI_ne, gR_pI, gJ_pI, gV_pI, gN_pI, gC_pI, gS_pI, gI_pJ, gR_pJ, gV_pJ, gN_pJ, gJ_same, gJ_ne, gI_pR, gJ_pR, gV_pR, gN_pR, gR_same, gR_ne, zin_t, zin_f, x_ltt, x_ltf, x_let, x_lef, x_eqt, x_eqf, n_0, n_1, n_2, n_3, n_4, n_5, n_6, n_7, n_8, n_9, n_10, n_11, n_12, n_16, n_19, n_20, n_24, n_25, n_32, n_40, n_48, n_50, n_60, n_64, n_80, n_96, n_114, n_684, n_1000, n_9330, n_16806, n_1000000, n_5764800, ↓n_m, m_ltI, m_leI, m_lt', m_le', m_eq, m_eq', m_add, m_sub, mm_lt, mm_le, mm_eq, q_sub, nI_add, q_mul, nI_clamp, bz_0, bz_1, q_bzb, b_0, b_1, b_ft, b_tf, ne_eq, not_true_eq_false, not_false_eq_true, decide_true, decide_false, Bool.and_self, Bool.false_and, Bool.and_false, Bool.and_true, Bool.true_and, Bool.not_true, Bool.not_false, ↓reduceIte]
            exact ih1 (nI (y + 1)) _ rfl
        | some k =>
          have hk := nxF_spec c y dn w k ho
          rw [ho] at h5
          subst h5
          by_cases hlt : c w < c k
          · have hle : c w ≤ y := by omega
            simp only [hd, ho, hle, hlt, Bool.not_false, decide_true, Bool.and_self, if_true] at ih1
            simp (disch := first | omega | rfl | assumption) only [e1, ck.1 11030 2 rfl, hwp, hb1, hd, hcw, bX3_nextWave_64, q_cl, q_ps, q_pn, bI_t, bI_f, gI_same, gI_ne, gR_pI, gJ_pI, gV_pI, gN_pI, gC_pI, gS_pI, gI_pJ, gR_pJ, gV_pJ, gN_pJ, gJ_same, gJ_ne, gI_pR, gJ_pR, gV_pR, gN_pR, gR_same, gR_ne, zin_t, zin_f, x_ltt, x_ltf, x_let, x_lef, x_eqt, x_eqf, n_0, n_1, n_2, n_3, n_4, n_5, n_6, n_7, n_8, n_9, n_10, n_11, n_12, n_16, n_19, n_20, n_24, n_25, n_32, n_40, n_48, n_50, n_60, n_64, n_80, n_96, n_114, n_684, n_1000, n_9330, n_16806, n_1000000, n_5764800, ↓n_m, m_ltI, m_leI, m_lt', m_le', m_eq, m_eq', m_add, m_sub, mm_lt, mm_le, mm_eq, q_sub, nI_add, q_mul, nI_clamp, bz_0, bz_1, q_bzb, b_0, b_1, b_ft, b_tf, ne_eq, not_true_eq_false, not_false_eq_true, decide_true, decide_false, Bool.and_self, Bool.false_and, Bool.and_false, Bool.and_true, Bool.true_and, Bool.not_true, Bool.not_false, ↓reduceIte]
            exact ih1 (nI (c w)) _ rfl
          · simp only [hd, ho, hlt, decide_false, Bool.and_false, Bool.false_eq_true, if_false] at ih1
            simp (disch := first | omega | rfl | assumption) only [e1, ck.1 11030 2 rfl, hwp, hb1, hd, hcw, bX3_nextWave_64, q_cl, q_ps, q_pn, bI_t, bI_f, gI_same, gI_ne, gR_pI, gJ_pI, gV_pI, gN_pI, gC_pI, gS_pI, gI_pJ, gR_pJ, gV_pJ, gN_pJ, gJ_same, gJ_ne, gI_pR, gJ_pR, gV_pR, gN_pR, gR_same, gR_ne, zin_t, zin_f, x_ltt, x_ltf, x_let, x_lef, x_eqt, x_eqf, n_0, n_1, n_2, n_3, n_4, n_5, n_6, n_7, n_8, n_9, n_10, n_11, n_12, n_16, n_19, n_20, n_24, n_25, n_32, n_40, n_48, n_50, n_60, n_64, n_80, n_96, n_114, n_684, n_1000, n_9330, n_16806, n_1000000, n_5764800, ↓n_m, m_ltI, m_leI, m_lt', m_le', m_eq, m_eq', m_add, m_sub, mm_lt, mm_le, mm_eq, q_sub, nI_add, q_mul, nI_clamp, bz_0, bz_1, q_bzb, b_0, b_1, b_ft, b_tf, ne_eq, not_true_eq_false, not_false_eq_true, decide_true, decide_false, Bool.and_self, Bool.false_and, Bool.and_false, Bool.and_true, Bool.true_and, Bool.not_true, Bool.not_false, ↓reduceIte]
            exact ih1 (nI (c k)) _ rfl
      · have hle : ¬ c w ≤ y := by omega
        rw [comI_inf hf] at hcw
        simp only [hd, hle, decide_false, Bool.and_false, Bool.false_and, Bool.false_eq_true, if_false] at ih1
        simp (disch := first | omega | rfl | assumption) only [e1, ck.1 11030 2 rfl, hwp, hb1, hd, hcw, bX3_nextWave_64, q_cl, q_ps, q_pn, bI_t, bI_f, gI_same, gI_ne, gR_pI, gJ_pI, gV_pI, gN_pI, gC_pI, gS_pI, gI_pJ, gR_pJ, gV_pJ, gN_pJ, gJ_same, gJ_ne, gI_pR, gJ_pR, gV_pR, gN_pR, gR_same, gR_ne, zin_t, zin_f, x_ltt, x_ltf, x_let, x_lef, x_eqt, x_eqf, n_0, n_1, n_2, n_3, n_4, n_5, n_6, n_7, n_8, n_9, n_10, n_11, n_12, n_16, n_19, n_20, n_24, n_25, n_32, n_40, n_48, n_50, n_60, n_64, n_80, n_96, n_114, n_684, n_1000, n_9330, n_16806, n_1000000, n_5764800, ↓n_m, m_ltI, m_leI, m_lt', m_le', m_eq, m_eq', m_add, m_sub, mm_lt, mm_le, mm_eq, q_sub, nI_add, q_mul, nI_clamp, bz_0, bz_1, q_bzb, b_0, b_1, b_ft, b_tf, ne_eq, not_true_eq_false, not_false_eq_true, decide_true, decide_false, Bool.and_self, Bool.false_and, Bool.and_false, Bool.and_true, Bool.true_and, Bool.not_true, Bool.not_false, ↓reduceIte]
        exact ih1 x5 _ h5
theorem c_nextWave (d : Nat) {h : z_H} (ck : cOK h) {n p y dn : Nat} {c : Nat → Nat} (hn : n ≤ 8) (hp : p < 8) (hy : y < 1000) (hdn : dn < 256) (e1 : gI h 11030 0 0 = nI n) (hc : ∀ k, k < n → gI h 64221 0 (8 * k + p) = comI (c k)) (hb : ∀ k, k < n → c k < 1000000 → c k ≤ 5608) :
    Rn (d + 1) 46 [z_R 11030 0, z_I (nI p), z_I (nI y), z_I (nI dn)] h = some (some (z_I (nxI (nxF c y dn n))), h) := by
  rw [rX3_nextWave, bX3_nextWave_0]
  simp (disch := first | omega | rfl | assumption) only [q_cl, q_ps, q_pn, bI_t, bI_f, gI_same, gI_ne, gR_pI, gJ_pI, gV_pI, gN_pI, gC_pI, gS_pI, gI_pJ, gR_pJ, gV_pJ, gN_pJ, gJ_same, gJ_ne, gI_pR, gJ_pR, gV_pR, gN_pR, gR_same, gR_ne, zin_t, zin_f, x_ltt, x_ltf, x_let, x_lef, x_eqt, x_eqf, n_0, n_1, n_2, n_3, n_4, n_5, n_6, n_7, n_8, n_9, n_10, n_11, n_12, n_16, n_19, n_20, n_24, n_25, n_32, n_40, n_48, n_50, n_60, n_64, n_80, n_96, n_114, n_684, n_1000, n_9330, n_16806, n_1000000, n_5764800, ↓n_m, m_ltI, m_leI, m_lt', m_le', m_eq, m_eq', m_add, m_sub, mm_lt, mm_le, mm_eq, q_sub, nI_add, q_mul, nI_clamp, bz_0, bz_1, q_bzb, b_0, b_1, b_ft, b_tf, ne_eq, not_true_eq_false, not_false_eq_true, decide_true, decide_false, Bool.and_self, Bool.false_and, Bool.and_false, Bool.and_true, Bool.true_and, Bool.not_true, Bool.not_false, ↓reduceIte]
  exact c_next_loop d ck hn hp hy hdn e1 hc hb n 0 _ _ (by omega) rfl
theorem or_lt {a k : Nat} (ha : a < 256) (hk : k < 8) : a ||| 2 ^ k < 256 := Nat.or_lt_two_pow (n := 8) ha (Nat.pow_lt_pow_right (by decide) hk)
theorem c_spoken_loop (d : Nat) {h : z_H} (ck : cOK h) {V nL n p y : Nat} {LF : Nat → Lw} {wl c : Nat → Nat} (hV : V < 64) (hLF : ∀ j, j < nL → nmL (LF j) ∧ cC h j V (LF j)) (hwl : ∀ k, k < n → wl k < nL ∧ gR h 8255 0 k = wl k + 1) (hn : n ≤ 8) (hp : p < 8) (hy : y < 1000) (e1 : gI h 11030 0 0 = nI n) (hc : ∀ k, k < n → gI h 64221 0 (8 * k + p) = comI (c k)) (hb : ∀ k, k < n → c k < 1000000 → c k ≤ 5608) (x3 : Int32) : ∀ (r i : Nat) (w : List Nat) (dn : Nat) (u7 : z_V), i + r = n → dn < 256 → isW w →
    EX (d + 3) 45 9 [z_R 11030 0, z_I (nI p), z_I (nI y), z_I x3, z_I (nI (rowN w)), z_I (nI dn), z_I (nI i), u7] [] h = some (some (z_I (nI (rowN (spk V LF wl c y n r w dn)))), h) := by
  intro r
  induction r with
  | zero =>
    intro i w dn u7 hi hdn hw
    rw [bX3_spoken_9]
    simp (disch := first | omega | rfl | assumption) only [e1, bX3_spoken_66, q_cl, q_ps, q_pn, bI_t, bI_f, gI_same, gI_ne, gR_pI, gJ_pI, gV_pI, gN_pI, gC_pI, gS_pI, gI_pJ, gR_pJ, gV_pJ, gN_pJ, gJ_same, gJ_ne, gI_pR, gJ_pR, gV_pR, gN_pR, gR_same, gR_ne, zin_t, zin_f, x_ltt, x_ltf, x_let, x_lef, x_eqt, x_eqf, n_0, n_1, n_2, n_3, n_4, n_5, n_6, n_7, n_8, n_9, n_10, n_11, n_12, n_16, n_19, n_20, n_24, n_25, n_32, n_40, n_48, n_50, n_60, n_64, n_80, n_96, n_114, n_684, n_1000, n_9330, n_16806, n_1000000, n_5764800, ↓n_m, m_ltI, m_leI, m_lt', m_le', m_eq, m_eq', m_add, m_sub, mm_lt, mm_le, mm_eq, q_sub, nI_add, q_mul, nI_clamp, bz_0, bz_1, q_bzb, b_0, b_1, b_ft, b_tf, ne_eq, not_true_eq_false, not_false_eq_true, decide_true, decide_false, Bool.and_self, Bool.false_and, Bool.and_false, Bool.and_true, Bool.true_and, Bool.not_true, Bool.not_false, ↓reduceIte]
    rfl
  | succ r ih =>
    intro i w dn u7 hi hdn hw
    have e2 := c_nextWave (d + 2) ck hn hp hy hdn e1 hc hb
    have es : spk V LF wl c y n (r + 1) w dn = match nxF c y dn n with | none => w | some k => spk V LF wl c y n r (runW V (LF (wl k)) w) (dn ||| 2 ^ k) := rfl
    rw [bX3_spoken_9]
    cases hk : nxF c y dn n with
    | none =>
      rw [hk] at e2 es
      have e2' : Rn (d + 3) 46 [z_R 11030 0, z_I (nI p), z_I (nI y), z_I (nI dn)] h = some (some (z_I mI), h) := e2
      rw [es]
      simp (disch := first | omega | rfl | assumption) only [e1, e2', bX3_spoken_26, bX3_spoken_66, q_cl, q_ps, q_pn, bI_t, bI_f, gI_same, gI_ne, gR_pI, gJ_pI, gV_pI, gN_pI, gC_pI, gS_pI, gI_pJ, gR_pJ, gV_pJ, gN_pJ, gJ_same, gJ_ne, gI_pR, gJ_pR, gV_pR, gN_pR, gR_same, gR_ne, zin_t, zin_f, x_ltt, x_ltf, x_let, x_lef, x_eqt, x_eqf, n_0, n_1, n_2, n_3, n_4, n_5, n_6, n_7, n_8, n_9, n_10, n_11, n_12, n_16, n_19, n_20, n_24, n_25, n_32, n_40, n_48, n_50, n_60, n_64, n_80, n_96, n_114, n_684, n_1000, n_9330, n_16806, n_1000000, n_5764800, ↓n_m, m_ltI, m_leI, m_lt', m_le', m_eq, m_eq', m_add, m_sub, mm_lt, mm_le, mm_eq, q_sub, nI_add, q_mul, nI_clamp, bz_0, bz_1, q_bzb, b_0, b_1, b_ft, b_tf, ne_eq, not_true_eq_false, not_false_eq_true, decide_true, decide_false, Bool.and_self, Bool.false_and, Bool.and_false, Bool.and_true, Bool.true_and, Bool.not_true, Bool.not_false, ↓reduceIte]
    | some k =>
      rw [hk] at e2 es
      obtain ⟨k1, k2, k3⟩ := nxF_spec c y dn n k hk
      have e2' : Rn (d + 3) 46 [z_R 11030 0, z_I (nI p), z_I (nI y), z_I (nI dn)] h = some (some (z_I (nI k)), h) := e2
      obtain ⟨w1, w2⟩ := hwl k k1
      obtain ⟨q1, q2⟩ := hLF _ w1
      have hsh : nI 1 <<< (nI k &&& 31) = nI (2 ^ k) := by rw [q_shl 1 (by omega), Nat.one_mul]
      have ih1 := ih (i + 1) (runW V (LF (wl k)) w) (dn ||| 2 ^ k) (z_I (nI k)) (by omega) (or_lt hdn (by omega)) (runW_ok q1.1 hw)
      rw [es]
      simp (disch := first | omega | rfl | assumption) only [e1, e2', bX3_spoken_26, bX3_spoken_37, ck.1 11030 6 rfl, w2, Nat.add_one_ne_zero, Nat.add_sub_cancel, c_over d hV q1 q2 hw, bX3_spoken_49, hsh, q_or, q_cl, q_ps, q_pn, bI_t, bI_f, gI_same, gI_ne, gR_pI, gJ_pI, gV_pI, gN_pI, gC_pI, gS_pI, gI_pJ, gR_pJ, gV_pJ, gN_pJ, gJ_same, gJ_ne, gI_pR, gJ_pR, gV_pR, gN_pR, gR_same, gR_ne, zin_t, zin_f, x_ltt, x_ltf, x_let, x_lef, x_eqt, x_eqf, n_0, n_1, n_2, n_3, n_4, n_5, n_6, n_7, n_8, n_9, n_10, n_11, n_12, n_16, n_19, n_20, n_24, n_25, n_32, n_40, n_48, n_50, n_60, n_64, n_80, n_96, n_114, n_684, n_1000, n_9330, n_16806, n_1000000, n_5764800, ↓n_m, m_ltI, m_leI, m_lt', m_le', m_eq, m_eq', m_add, m_sub, mm_lt, mm_le, mm_eq, q_sub, nI_add, q_mul, nI_clamp, bz_0, bz_1, q_bzb, b_0, b_1, b_ft, b_tf, ne_eq, not_true_eq_false, not_false_eq_true, decide_true, decide_false, Bool.and_self, Bool.false_and, Bool.and_false, Bool.and_true, Bool.true_and, Bool.not_true, Bool.not_false, ↓reduceIte]
      exact ih1
/-- all that speech needs, in the class -/
theorem c_spoken (d : Nat) {h : z_H} {N : Nat} {xs : Nat → Int32} {G : Gh} {e : Int32} (hG : InvG h N xs G e) {rd sh : Nat → Nat} {n : Nat} {wl wp wy : Nat → Nat} (hL : iLdG h (gnL G) rd sh n wl wp wy) (ha : ∀ k, k < n → ∀ p, p < 8 → gI h 64221 0 (8 * k + p) = comI (arr rd sh (wp k) (wy k) p)) {p y : Nat} (hp : p < 8) (hy : y < 1000) {w : List Nat} (hw : isW w) :
    Rn (d + 4) 45 [z_R 11030 0, z_I (nI p), z_I (nI y), z_I (nI (rowN w))] h = some (some (z_I (nI (rowN (spk (gvV G) (gLF G) wl (fun k => arr rd sh (wp k) (wy k) p) y n n w 0)))), h) := by
  have ct := cT_of hG
  obtain ⟨l1, l2, l3, l4, l5, l6, l7, l8⟩ := hL
  have := c_spoken_loop d ct.2.1 (nL := gnL G) (LF := gLF G) (wl := wl) (c := fun k => arr rd sh (wp k) (wy k) p) ct.1.1 (fun j hj => ⟨ct.1.2.2.1 j hj, (ct.2.2.2.2.1 j hj).2.2.2⟩) (fun k hk => ⟨(l7 k hk).1, (l7 k hk).2.2.2.1⟩) l4 hp hy l5 (fun k hk => ha k hk p hp) (fun k hk => (arr_le (fun j hj => (l1 j hj).1) (l7 k hk).2.2.1 p).2) (nI (rowN w)) n 0 w 0 z_U (by omega) (by decide) hw
  rw [rX3_spoken, bX3_spoken_0]
  exact this
/-! the reference -/
theorem m_next_w (d : Nat) {h : z_H} (m : mOK h) {n p y dn : Nat} {c : Nat → Nat} (hn : n ≤ 8) (hp : p < 8) (hy : y < 1000) (hdn : dn < 256) (e1 : gI h 49100 0 26 = nI n) (hc : ∀ k, k < n → gI h 64751 0 (8 * k + p) = nI (c k)) (hb : ∀ k, k < n → c k ≤ 1000000) (x3 : Int32) : ∀ (r w : Nat) (u8 u9 : z_V), w + r = n →
    ∃ v8 v9, EX d 227 22 [z_R 49100 0, z_I (nI p), z_I (nI y), z_I x3, z_I (nI dn), z_I (nI 1), z_I (nxI (nxF c y dn w)), z_I (nI w), u8, u9] [] h = EX d 227 110 [z_R 49100 0, z_I (nI p), z_I (nI y), z_I x3, z_I (nI dn), z_I (nI 1), z_I (nxI (nxF c y dn n)), z_I (nI n), v8, v9] [] h := by
  intro r
  induction r with
  | zero =>
    intro w u8 u9 hw
    have : w = n := by omega
    subst this
    refine ⟨u8, u9, ?_⟩
    rw [bX11_speechOf_22]
    simp (disch := first | omega | rfl | assumption) only [e1, q_cl, q_ps, q_pn, bI_t, bI_f, gI_same, gI_ne, gR_pI, gJ_pI, gV_pI, gN_pI, gC_pI, gS_pI, gI_pJ, gR_pJ, gV_pJ, gN_pJ, gJ_same, gJ_ne, gI_pR, gJ_pR, gV_pR, gN_pR, gR_same, gR_ne, zin_t, zin_f, x_ltt, x_ltf, x_let, x_lef, x_eqt, x_eqf, n_0, n_1, n_2, n_3, n_4, n_5, n_6, n_7, n_8, n_9, n_10, n_11, n_12, n_16, n_19, n_20, n_24, n_25, n_32, n_40, n_48, n_50, n_60, n_64, n_80, n_96, n_114, n_684, n_1000, n_9330, n_16806, n_1000000, n_5764800, ↓n_m, m_ltI, m_leI, m_lt', m_le', m_eq, m_eq', m_add, m_sub, mm_lt, mm_le, mm_eq, q_sub, nI_add, q_mul, nI_clamp, bz_0, bz_1, q_bzb, b_0, b_1, b_ft, b_tf, ne_eq, not_true_eq_false, not_false_eq_true, decide_true, decide_false, Bool.and_self, Bool.false_and, Bool.and_false, Bool.and_true, Bool.true_and, Bool.not_true, Bool.not_false, ↓reduceIte]
  | succ r ih =>
    intro w u8 u9 hw
    have hb1 : (nI dn >>> (nI w &&& 31)) &&& nI 1 = bI (dn.testBit w) := q_bitS (by omega) (by omega)
    have hcw := hc w (by omega)
    have hbw := hb w (by omega)
    have ih1 := fun u8 u9 => ih (w + 1) u8 u9 (by omega)
    rw [nxF_succ] at ih1
    cases hd : dn.testBit w with
    | true =>
      simp only [hd, Bool.not_true, Bool.false_and, Bool.false_eq_true, if_false] at ih1
      obtain ⟨v8, v9, q⟩ := ih1 (z_I (nI (c w))) (z_I (nI 0))
      refine ⟨v8, v9, ?_⟩
      rw [← q, bX11_speechOf_22]
      simp (disch := first | omega | rfl | assumption) only [e1, m 47 rfl, hb1, hd, hcw, bX11_speechOf_65, bX11_speechOf_66, bX11_speechOf_100, bX11_speechOf_102, q_cl, q_ps, q_pn, bI_t, bI_f, gI_same, gI_ne, gR_pI, gJ_pI, gV_pI, gN_pI, gC_pI, gS_pI, gI_pJ, gR_pJ, gV_pJ, gN_pJ, gJ_same, gJ_ne, gI_pR, gJ_pR, gV_pR, gN_pR, gR_same, gR_ne, zin_t, zin_f, x_ltt, x_ltf, x_let, x_lef, x_eqt, x_eqf, n_0, n_1, n_2, n_3, n_4, n_5, n_6, n_7, n_8, n_9, n_10, n_11, n_12, n_16, n_19, n_20, n_24, n_25, n_32, n_40, n_48, n_50, n_60, n_64, n_80, n_96, n_114, n_684, n_1000, n_9330, n_16806, n_1000000, n_5764800, ↓n_m, m_ltI, m_leI, m_lt', m_le', m_eq, m_eq', m_add, m_sub, mm_lt, mm_le, mm_eq, q_sub, nI_add, q_mul, nI_clamp, bz_0, bz_1, q_bzb, b_0, b_1, b_ft, b_tf, ne_eq, not_true_eq_false, not_false_eq_true, decide_true, decide_false, Bool.and_self, Bool.false_and, Bool.and_false, Bool.and_true, Bool.true_and, Bool.not_true, Bool.not_false, ↓reduceIte]
    | false =>
      by_cases hle : c w ≤ y
      · cases ho : nxF c y dn w with
        | none =>
          simp only [hd, ho, hle, Bool.not_false, decide_true, Bool.and_self, if_true] at ih1
          obtain ⟨v8, v9, q⟩ := ih1 (z_I (nI (c w))) (z_I (nI 1))
          refine ⟨v8, v9, ?_⟩
          rw [← q, bX11_speechOf_22]
          simp (disch := first | omega | rfl | assumption) only [e1, m 47 rfl, hb1, hd, hcw, bX11_speechOf_66, show nxI none = mI from rfl, show nxI (some w) = nI w from rfl, mI_lt0, bX11_speechOf_95, bX11_speechOf_102, q_cl, q_ps, q_pn, bI_t, bI_f, gI_same, gI_ne, gR_pI, gJ_pI, gV_pI, gN_pI, gC_pI, gS_pI, gI_pJ, gR_pJ, gV_pJ, gN_pJ, gJ_same, gJ_ne, gI_pR, gJ_pR, gV_pR, gN_pR, gR_same, gR_ne, zin_t, zin_f, x_ltt, x_ltf, x_let, x_lef, x_eqt, x_eqf, n_0, n_1, n_2, n_3, n_4, n_5, n_6, n_7, n_8, n_9, n_10, n_11, n_12, n_16, n_19, n_20, n_24, n_25, n_32, n_40, n_48, n_50, n_60, n_64, n_80, n_96, n_114, n_684, n_1000, n_9330, n_16806, n_1000000, n_5764800, ↓n_m, m_ltI, m_leI, m_lt', m_le', m_eq, m_eq', m_add, m_sub, mm_lt, mm_le, mm_eq, q_sub, nI_add, q_mul, nI_clamp, bz_0, bz_1, q_bzb, b_0, b_1, b_ft, b_tf, ne_eq, not_true_eq_false, not_false_eq_true, decide_true, decide_false, Bool.and_self, Bool.false_and, Bool.and_false, Bool.and_true, Bool.true_and, Bool.not_true, Bool.not_false, ↓reduceIte]
        | some k =>
          have hk := nxF_spec c y dn w k ho
          have hck := hc k (by omega)
          by_cases hlt : c w < c k
          · simp only [hd, ho, hle, hlt, Bool.not_false, decide_true, Bool.and_self, if_true] at ih1
            obtain ⟨v8, v9, q⟩ := ih1 (z_I (nI (c w))) (z_I (nI 1))
            refine ⟨v8, v9, ?_⟩
            rw [← q, bX11_speechOf_22]
            simp (disch := first | omega | rfl | assumption) only [e1, m 47 rfl, hb1, hd, hcw, bX11_speechOf_66, show nxI (some k) = nI k from rfl, show nxI (some w) = nI w from rfl, hck, bX11_speechOf_95, bX11_speechOf_102, q_cl, q_ps, q_pn, bI_t, bI_f, gI_same, gI_ne, gR_pI, gJ_pI, gV_pI, gN_pI, gC_pI, gS_pI, gI_pJ, gR_pJ, gV_pJ, gN_pJ, gJ_same, gJ_ne, gI_pR, gJ_pR, gV_pR, gN_pR, gR_same, gR_ne, zin_t, zin_f, x_ltt, x_ltf, x_let, x_lef, x_eqt, x_eqf, n_0, n_1, n_2, n_3, n_4, n_5, n_6, n_7, n_8, n_9, n_10, n_11, n_12, n_16, n_19, n_20, n_24, n_25, n_32, n_40, n_48, n_50, n_60, n_64, n_80, n_96, n_114, n_684, n_1000, n_9330, n_16806, n_1000000, n_5764800, ↓n_m, m_ltI, m_leI, m_lt', m_le', m_eq, m_eq', m_add, m_sub, mm_lt, mm_le, mm_eq, q_sub, nI_add, q_mul, nI_clamp, bz_0, bz_1, q_bzb, b_0, b_1, b_ft, b_tf, ne_eq, not_true_eq_false, not_false_eq_true, decide_true, decide_false, Bool.and_self, Bool.false_and, Bool.and_false, Bool.and_true, Bool.true_and, Bool.not_true, Bool.not_false, ↓reduceIte]
          · simp only [hd, ho, hlt, decide_false, Bool.and_false, Bool.false_eq_true, if_false] at ih1
            obtain ⟨v8, v9, q⟩ := ih1 (z_I (nI (c w))) (z_I (nI 1))
            refine ⟨v8, v9, ?_⟩
            rw [← q, bX11_speechOf_22]
            simp (disch := first | omega | rfl | assumption) only [e1, m 47 rfl, hb1, hd, hcw, bX11_speechOf_66, show nxI (some k) = nI k from rfl, hck, bX11_speechOf_100, bX11_speechOf_102, q_cl, q_ps, q_pn, bI_t, bI_f, gI_same, gI_ne, gR_pI, gJ_pI, gV_pI, gN_pI, gC_pI, gS_pI, gI_pJ, gR_pJ, gV_pJ, gN_pJ, gJ_same, gJ_ne, gI_pR, gJ_pR, gV_pR, gN_pR, gR_same, gR_ne, zin_t, zin_f, x_ltt, x_ltf, x_let, x_lef, x_eqt, x_eqf, n_0, n_1, n_2, n_3, n_4, n_5, n_6, n_7, n_8, n_9, n_10, n_11, n_12, n_16, n_19, n_20, n_24, n_25, n_32, n_40, n_48, n_50, n_60, n_64, n_80, n_96, n_114, n_684, n_1000, n_9330, n_16806, n_1000000, n_5764800, ↓n_m, m_ltI, m_leI, m_lt', m_le', m_eq, m_eq', m_add, m_sub, mm_lt, mm_le, mm_eq, q_sub, nI_add, q_mul, nI_clamp, bz_0, bz_1, q_bzb, b_0, b_1, b_ft, b_tf, ne_eq, not_true_eq_false, not_false_eq_true, decide_true, decide_false, Bool.and_self, Bool.false_and, Bool.and_false, Bool.and_true, Bool.true_and, Bool.not_true, Bool.not_false, ↓reduceIte]
      · simp only [hd, hle, decide_false, Bool.and_false, Bool.false_and, Bool.false_eq_true, if_false] at ih1
        obtain ⟨v8, v9, q⟩ := ih1 (z_I (nI (c w))) (z_I (nI 0))
        refine ⟨v8, v9, ?_⟩
        rw [← q, bX11_speechOf_22]
        simp (disch := first | omega | rfl | assumption) only [e1, m 47 rfl, hb1, hd, hcw, bX11_speechOf_65, bX11_speechOf_66, bX11_speechOf_100, bX11_speechOf_102, q_cl, q_ps, q_pn, bI_t, bI_f, gI_same, gI_ne, gR_pI, gJ_pI, gV_pI, gN_pI, gC_pI, gS_pI, gI_pJ, gR_pJ, gV_pJ, gN_pJ, gJ_same, gJ_ne, gI_pR, gJ_pR, gV_pR, gN_pR, gR_same, gR_ne, zin_t, zin_f, x_ltt, x_ltf, x_let, x_lef, x_eqt, x_eqf, n_0, n_1, n_2, n_3, n_4, n_5, n_6, n_7, n_8, n_9, n_10, n_11, n_12, n_16, n_19, n_20, n_24, n_25, n_32, n_40, n_48, n_50, n_60, n_64, n_80, n_96, n_114, n_684, n_1000, n_9330, n_16806, n_1000000, n_5764800, ↓n_m, m_ltI, m_leI, m_lt', m_le', m_eq, m_eq', m_add, m_sub, mm_lt, mm_le, mm_eq, q_sub, nI_add, q_mul, nI_clamp, bz_0, bz_1, q_bzb, b_0, b_1, b_ft, b_tf, ne_eq, not_true_eq_false, not_false_eq_true, decide_true, decide_false, Bool.and_self, Bool.false_and, Bool.and_false, Bool.and_true, Bool.true_and, Bool.not_true, Bool.not_false, ↓reduceIte]
