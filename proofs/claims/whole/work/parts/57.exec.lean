/-! ===== rows for running blocks by simp ===== -/
theorem bI_t : bI true = 1 := rfl
theorem bI_f : bI false = 0 := rfl
theorem gI_same (h : z_H) (p i k : Nat) (v : Int32) : gI (pI h p i k v) p i k = v := by rw [gI_pI, if_pos ⟨rfl, rfl, rfl⟩]
theorem gI_ne {p i k q j n : Nat} (hn : q ≠ p ∨ j ≠ i ∨ n ≠ k) (h : z_H) (v : Int32) : gI (pI h p i k v) q j n = gI h q j n := by rw [gI_pI, if_neg (by omega)]
theorem gJ_same (h : z_H) (p i k : Nat) (v : Int64) : gJ (pJ h p i k v) p i k = v := by rw [gJ_pJ, if_pos ⟨rfl, rfl, rfl⟩]
theorem gJ_ne {p i k q j n : Nat} (hn : q ≠ p ∨ j ≠ i ∨ n ≠ k) (h : z_H) (v : Int64) : gJ (pJ h p i k v) q j n = gJ h q j n := by rw [gJ_pJ, if_neg (by omega)]
theorem gR_same (h : z_H) (p i k : Nat) (v : Nat) : gR (pR h p i k v) p i k = v := by rw [gR_pR, if_pos ⟨rfl, rfl, rfl⟩]
theorem gR_ne {p i k q j n : Nat} (hn : q ≠ p ∨ j ≠ i ∨ n ≠ k) (h : z_H) (v : Nat) : gR (pR h p i k v) q j n = gR h q j n := by rw [gR_pR, if_neg (by omega)]
theorem gC_pI (h : z_H) (p i k : Nat) (v : Int32) : gC (pI h p i k v) = gC h := rfl
theorem gS_pI (h : z_H) (p i k : Nat) (v : Int32) : gS (pI h p i k v) = gS h := rfl
theorem gV_pJ (h : z_H) (p i k : Nat) (v : Int64) (q j : Nat) : gV (pJ h p i k v) q j = gV h q j := rfl
theorem gN_pJ (h : z_H) (p i k : Nat) (v : Int64) (q : Nat) : gN (pJ h p i k v) q = gN h q := rfl
theorem gV_pR (h : z_H) (p i k : Nat) (v : Nat) (q j : Nat) : gV (pR h p i k v) q j = gV h q j := rfl
theorem gN_pR (h : z_H) (p i k : Nat) (v : Nat) (q : Nat) : gN (pR h p i k v) q = gN h q := rfl
theorem zin_t {i n : Nat} (hi : i < 2 ^ 31) (h : i < n) : z_in (nI i) n = true := by rw [q_in hi]; simp [h]
theorem zin_f {i n : Nat} (hi : i < 2 ^ 31) (h : n ≤ i) : z_in (nI i) n = false := by rw [q_in hi]; simp; omega
theorem x_ltt {a b : Nat} (h : a < b) (hb : b < 2 ^ 31) : (nI a < nI b) = True := by rw [nI_ltI (by omega) hb]; exact eq_true h
theorem x_ltf {a b : Nat} (h : b ≤ a) (ha : a < 2 ^ 31) : (nI a < nI b) = False := by rw [nI_ltI ha (by omega)]; exact eq_false (by omega)
theorem x_let {a b : Nat} (h : a ≤ b) (hb : b < 2 ^ 31) : (nI a ≤ nI b) = True := by rw [nI_leI (by omega) hb]; exact eq_true h
theorem x_lef {a b : Nat} (h : b < a) (ha : a < 2 ^ 31) : (nI a ≤ nI b) = False := by rw [nI_leI ha (by omega)]; exact eq_false (by omega)
theorem x_eqt {a b : Nat} (h : a = b) : (nI a = nI b) = True := by rw [h]; exact eq_true rfl
theorem x_eqf {a b : Nat} (h : a ≠ b) (ha : a < 2 ^ 31) (hb : b < 2 ^ 31) : (nI a = nI b) = False := by rw [nI_eq ha hb]; exact eq_false h
theorem n_0 : (0 : Int32) = nI 0 := rfl
theorem n_1 : (1 : Int32) = nI 1 := rfl
theorem n_2 : (2 : Int32) = nI 2 := rfl
theorem n_3 : (3 : Int32) = nI 3 := rfl
theorem n_4 : (4 : Int32) = nI 4 := rfl
theorem n_5 : (5 : Int32) = nI 5 := rfl
theorem n_6 : (6 : Int32) = nI 6 := rfl
theorem n_7 : (7 : Int32) = nI 7 := rfl
theorem n_8 : (8 : Int32) = nI 8 := rfl
theorem n_9 : (9 : Int32) = nI 9 := rfl
theorem n_10 : (10 : Int32) = nI 10 := rfl
theorem n_11 : (11 : Int32) = nI 11 := rfl
theorem n_12 : (12 : Int32) = nI 12 := rfl
theorem n_16 : (16 : Int32) = nI 16 := rfl
theorem n_19 : (19 : Int32) = nI 19 := rfl
theorem n_20 : (20 : Int32) = nI 20 := rfl
theorem n_24 : (24 : Int32) = nI 24 := rfl
theorem n_25 : (25 : Int32) = nI 25 := rfl
theorem n_32 : (32 : Int32) = nI 32 := rfl
theorem n_40 : (40 : Int32) = nI 40 := rfl
theorem n_48 : (48 : Int32) = nI 48 := rfl
theorem n_50 : (50 : Int32) = nI 50 := rfl
theorem n_60 : (60 : Int32) = nI 60 := rfl
theorem n_64 : (64 : Int32) = nI 64 := rfl
theorem n_80 : (80 : Int32) = nI 80 := rfl
theorem n_96 : (96 : Int32) = nI 96 := rfl
theorem n_114 : (114 : Int32) = nI 114 := rfl
theorem n_684 : (684 : Int32) = nI 684 := rfl
theorem n_1000 : (1000 : Int32) = nI 1000 := rfl
theorem n_9330 : (9330 : Int32) = nI 9330 := rfl
theorem n_16806 : (16806 : Int32) = nI 16806 := rfl
theorem n_1000000 : (1000000 : Int32) = nI 1000000 := rfl
theorem n_5764800 : (5764800 : Int32) = nI 5764800 := rfl
def mI : Int32 := -1
theorem n_m : (-1 : Int32) = mI := rfl
theorem m_toInt : mI.toInt = -1 := by decide
theorem m_ltI {a : Nat} (ha : a < 2 ^ 31) : (mI < nI a) = True := eq_true (by rw [Int32.lt_iff_toInt_lt, m_toInt, nI_toInt ha]; omega)
theorem m_leI {a : Nat} (ha : a < 2 ^ 31) : (mI ≤ nI a) = True := eq_true (by rw [Int32.le_iff_toInt_le, m_toInt, nI_toInt ha]; omega)
theorem m_lt' {a : Nat} (ha : a < 2 ^ 31) : (nI a < mI) = False := eq_false (by rw [Int32.lt_iff_toInt_lt, m_toInt, nI_toInt ha]; omega)
theorem m_le' {a : Nat} (ha : a < 2 ^ 31) : (nI a ≤ mI) = False := eq_false (by rw [Int32.le_iff_toInt_le, m_toInt, nI_toInt ha]; omega)
theorem m_eq {a : Nat} (ha : a < 2 ^ 31) : (mI = nI a) = False := eq_false (fun z => by have := congrArg Int32.toInt z; rw [m_toInt, nI_toInt ha] at this; omega)
theorem m_eq' {a : Nat} (ha : a < 2 ^ 31) : (nI a = mI) = False := eq_false (fun z => by have := congrArg Int32.toInt z; rw [m_toInt, nI_toInt ha] at this; omega)
theorem m_add : mI + nI 1 = nI 0 := by decide
theorem m_sub : nI 0 - nI 1 = mI := by decide
theorem mk_0 : mkI 0 = mI := by decide
theorem mm_lt : (mI < mI) = False := by decide
theorem mm_le : (mI ≤ mI) = True := by decide
theorem mm_eq : (mI = mI) = True := by decide
theorem bz_0 : z_bz (nI 0) = true := by decide
theorem bz_1 : z_bz (nI 1) = true := by decide
theorem b_0 (b : Bool) : (bI b = nI 0) = (b = false) := by cases b <;> simp [bI, nI_0]
theorem b_1 (b : Bool) : (bI b = nI 1) = (b = true) := by cases b <;> decide
theorem b_ft : (false = true) = False := by decide
theorem b_tf : (true = false) = False := by decide
/-! a number in bounds -/
theorem zin_of {x : Int32} {n : Nat} (h : z_in x n = true) : ∃ k, k < n ∧ k < 2 ^ 31 ∧ x = nI k := by
  unfold z_in at h
  rw [Bool.and_eq_true, decide_eq_true_eq] at h
  obtain ⟨j, hj, rfl⟩ := nI_of (x := x) (by simpa using h.1)
  rw [nI_clamp hj] at h
  exact ⟨j, h.2, hj, rfl⟩
theorem zin_neg {x : Int32} (h : x < 0) (n : Nat) : z_in x n = false := by unfold z_in; simp [h]
/-- x < 0 or n ≤ x, just if not in bounds -/
theorem zin_ge {x : Int32} {n : Nat} (hn : n < 2 ^ 31) : (z_in x n = false) ↔ (x < 0 ∨ nI n ≤ x) := by
  by_cases hx : x < 0
  · simp [zin_neg hx, hx]
  · obtain ⟨j, hj, rfl⟩ := nI_of hx
    rw [q_in hj, nI_leI hn hj]
    simp [hx]
/-! ===== what a law does with rows ===== -/
theorem q_each : (2396745 : Nat) = nF (fun _ => 1) 8 := by decide
theorem each_bit (t : Nat) (ht : t < 8) {i b : Nat} (hi : i < 8) (hb : b < 3) : (2396745 * t).testBit (3 * i + b) = t.testBit b := by
  rw [q_each, nF_mul, nF_bit 8 (fun _ _ => by omega)]
  rw [show (3 * i + b) % 3 = b by omega, Nat.one_mul]
  simp
  omega
theorem like8 : ∀ a, a < 8 → ∀ t, t < 8 → (!((a.testBit 0 ^^ t.testBit 0) || (a.testBit 1 ^^ t.testBit 1) || (a.testBit 2 ^^ t.testBit 2))) = decide (a = t) := by decide +kernel
def fB (D : Nat) (f : Nat → Nat) : Nat := nF (fun i => if D.testBit (f i) then 1 else 0) 8
theorem c_fieldsIn_loop (d : Nat) (r D : Nat) (f : Nat → Nat) (hf : ∀ i, i < 8 → f i ≤ 6) (hr : ∀ i, i < 8 → ∀ b, b < 3 → r.testBit (3 * i + b) = (f i).testBit b) (hD : D < 128) (h : z_H) :
    ∀ (m t : Nat) (X : Int32) (u : z_V), m + t = 7 → (∀ i, i < 8 → bt X (3 * i) = (decide (f i < t) && D.testBit (f i))) → EX d 3 13 [z_I (nI r), z_I (nI D), z_I X, z_I (nI t), u] [] h = some (some (z_I (nI (fB D f))), h) := by
  have fin : ∀ (t : Nat) (X : Int32) (u : z_V), D / 2 ^ t = 0 → (∀ i, i < 8 → bt X (3 * i) = (decide (f i < t) && D.testBit (f i))) → EX d 3 64 [z_I (nI r), z_I (nI D), z_I X, z_I (nI t), u] [] h = some (some (z_I (nI (fB D f))), h) := by
    intro t X u h0 hX
    rw [bX6_fieldsIn_64]
    have hlt : D < 2 ^ t := by
      have := Nat.div_eq_zero_iff.mp h0
      have hp : 0 < 2 ^ t := Nat.pow_pos (by decide)
      omega
    congr 4
    apply bt_ext
    intro k hk
    have e0 : (2396745 : Int32) = nI 2396745 := rfl
    unfold fB
    rw [e0, bt_and, bt_nI _ hk, bt_nI _ hk, q_each, nF_bit 8 (fun _ _ => by omega), nF_bit 8 (fun i _ => by show (if _ then 1 else 0) < 8; split <;> omega)]
    by_cases hk2 : k < 24
    · simp only [hk2, decide_true, Bool.true_and]
      by_cases hk3 : k % 3 = 0
      · have e1 : k = 3 * (k / 3) := by omega
        rw [hk3]
        conv => lhs; rw [e1]
        rw [hX (k / 3) (by omega)]
        have : D.testBit (f (k / 3)) = true → f (k / 3) < t := fun z => by
          apply Decidable.byContradiction
          intro z2
          have z3 : D < 2 ^ f (k / 3) := Nat.lt_of_lt_of_le hlt (Nat.pow_le_pow_right (by decide) (by omega))
          rw [Nat.testBit_lt_two_pow z3] at z
          cases z
        cases hb : D.testBit (f (k / 3)) with
        | true => have := this hb; simp [this]
        | false => simp
      · have hk4 : k % 3 = 1 ∨ k % 3 = 2 := by omega
        have e1 : Nat.testBit 1 (k % 3) = false := by rcases hk4 with z | z <;> rw [z] <;> decide
        rw [e1, Bool.and_false]
        rcases hk4 with z | z <;> rw [z] <;> split <;> decide
    · simp [hk2]
  intro m
  induction m with
  | zero =>
    intro t X u hm hX
    have h7 : t = 7 := by omega
    subst h7
    have h0 : D / 2 ^ 7 = 0 := by omega
    rw [bX6_fieldsIn_13, if_pos (show (6 : Int32) < nI 7 by decide)]
    exact fin 7 X u h0 hX
  | succ m ih =>
    intro t X u hm hX
    have hle : D / 2 ^ t ≤ D := Nat.div_le_self _ _
    have e0 : z_ush (nI D) (nI t) = nI (D / 2 ^ t) := q_ush (by omega) (by omega)
    rw [bX6_fieldsIn_13, if_neg (show ¬ (6 : Int32) < nI t by rw [show (6 : Int32) = nI 6 from rfl, nI_ltI (by omega) (by omega)]; omega), e0]
    by_cases h0 : D / 2 ^ t = 0
    · rw [if_pos (by rw [h0]; rfl)]
      exact fin t X u h0 hX
    · rw [if_neg (by rw [q_eq0 (by omega)]; exact h0)]
      have e1 : nI (D / 2 ^ t) &&& 1 = nI (D / 2 ^ t % 2) := by
        have : (1 : Int32) = nI 1 := rfl
        rw [this, q_and]
        congr 1
        exact Nat.and_two_pow_sub_one_eq_mod _ 1
      have e2 : D.testBit t = decide (D / 2 ^ t % 2 = 1) := Nat.testBit_eq_decide_div_mod_eq
      have e3 : nI t * 2396745 = nI (2396745 * t) := by
        rw [show (2396745 : Int32) = nI 2396745 from rfl, q_mul, Nat.mul_comm]
      have e4 : nI t + 1 = nI (t + 1) := nI_1 t
      rw [e1, e3]
      by_cases hb : D / 2 ^ t % 2 = 0
      · have hb2 : D.testBit t = false := by rw [e2]; simp; omega
        rw [if_pos (by rw [hb]; rfl), bX6_fieldsIn_58, e4]
        apply ih (t + 1) X _ (by omega)
        intro i hi
        rw [hX i hi]
        by_cases hft : f i = t
        · rw [hft, hb2]; simp
        · have : decide (f i < t + 1) = decide (f i < t) := by simp; omega
          rw [this]
      · have hb2 : D.testBit t = true := by rw [e2]; simp; omega
        rw [if_neg (by rw [q_eq0 (by omega)]; exact hb), bX6_fieldsIn_58, e4]
        apply ih (t + 1) _ _ (by omega)
        intro i hi
        have u1 : (1 : Int32) = nI 1 := rfl
        have u2 : (2 : Int32) = nI 2 := rfl
        have g0 : ∀ b, b < 3 → bt (nI r ^^^ nI (2396745 * t)) (3 * i + b) = ((f i).testBit b ^^ t.testBit b) := fun b hb => by
          rw [bt_xor, bt_nI _ (by omega), bt_nI _ (by omega), hr i hi b hb, each_bit t (by omega) hi hb]
        rw [bt_or, bt_xor, bt_or, bt_or, bt_m1 _ (by omega), u1, u2, bt_ush _ (by decide), bt_ush _ (by decide), hX i hi]
        have h00 := g0 0 (by omega)
        have h01 := g0 1 (by omega)
        have h02 := g0 2 (by omega)
        rw [Nat.add_zero] at h00
        rw [h00, show 1 + 3 * i = 3 * i + 1 by omega, h01, show 2 + 3 * i = 3 * i + 2 by omega, h02]
        have := like8 (f i) (by have := hf i hi; omega) t (by omega)
        rw [Bool.xor_true, this]
        by_cases hft : f i = t
        · simp [hft, hb2]
        · have : decide (f i < t + 1) = decide (f i < t) := by simp; omega
          rw [this]
          simp [hft]
theorem c_fieldsIn (d : Nat) (r D : Nat) (f : Nat → Nat) (hf : ∀ i, i < 8 → f i ≤ 6) (hr : ∀ i, i < 8 → ∀ b, b < 3 → r.testBit (3 * i + b) = (f i).testBit b) (hD : D < 128) (h : z_H) :
    Rn (d + 1) 3 [z_I (nI r), z_I (nI D)] h = some (some (z_I (nI (fB D f))), h) := by
  rw [rX6_fieldsIn, bX6_fieldsIn_0]
  by_cases h7 : D = 127
  · subst h7
    rw [if_neg (by decide)]
    have : fB 127 f = 2396745 := by
      rw [q_each]
      apply nF_congr
      intro i hi
      have h6 := hf i hi
      have : ∀ a, a ≤ 6 → Nat.testBit 127 a = true := by decide +kernel
      rw [this _ h6]
      rfl
    rw [this]
    rfl
  · have e : (127 : Int32) = nI 127 := rfl
    rw [if_pos (by rw [e, ne_eq, nI_eq (by omega) (by omega)]; exact h7), bX6_fieldsIn_9]
    have := c_fieldsIn_loop d r D f hf hr hD h 7 0 0 z_U (by omega) (fun i hi => by
      have : bt 0 (3 * i) = false := by
        have e : (0 : Int32) = nI 0 := rfl
        rw [e, bt_nI _ (by omega)]
        simp
      rw [this]; simp)
    exact this
