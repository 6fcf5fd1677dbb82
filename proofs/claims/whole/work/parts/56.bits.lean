/-! ===== rows of eight fields of three bits ===== -/
/-- the number whose digits to the base of 8 are f 0, f 1 .. -/
def nF (f : Nat → Nat) : Nat → Nat
  | 0 => 0
  | n + 1 => 2 ^ (3 * n) * f n + nF f n
theorem nF_lt {f : Nat → Nat} : ∀ n, (∀ i, i < n → f i < 8) → nF f n < 2 ^ (3 * n) := by
  intro n
  induction n with
  | zero => intro _; exact Nat.one_pos
  | succ n ih =>
    intro h
    have h1 := ih (fun i hi => h i (by omega))
    have h2 := h n (by omega)
    show 2 ^ (3 * n) * f n + nF f n < 2 ^ (3 * (n + 1))
    rw [show 3 * (n + 1) = 3 * n + 3 by omega, Nat.pow_add]
    have : 2 ^ (3 * n) * f n ≤ 2 ^ (3 * n) * 7 := Nat.mul_le_mul_left _ (by omega)
    omega
theorem nF_bit {f : Nat → Nat} : ∀ n, (∀ i, i < n → f i < 8) → ∀ k, (nF f n).testBit k = (decide (k < 3 * n) && (f (k / 3)).testBit (k % 3)) := by
  intro n
  induction n with
  | zero => intro _ k; simp [nF]
  | succ n ih =>
    intro h k
    have h1 := nF_lt n (fun i hi => h i (by omega))
    have h2 := h n (by omega)
    show (2 ^ (3 * n) * f n + nF f n).testBit k = _
    rw [Nat.two_pow_add_eq_or_of_lt h1, Nat.testBit_or, ih (fun i hi => h i (by omega)), Nat.testBit_two_pow_mul]
    by_cases hk : k < 3 * n
    · have : ¬ k ≥ 3 * n := by omega
      simp [hk, show k < 3 * (n + 1) by omega, this]
    · have hge : k ≥ 3 * n := by omega
      simp only [hk, decide_false, Bool.false_and, Bool.or_false, hge, decide_true, Bool.true_and]
      by_cases hk2 : k < 3 * (n + 1)
      · have e1 : k / 3 = n := by omega
        have e2 : k - 3 * n = k % 3 := by omega
        simp [hk2, e1, e2]
      · simp only [hk2, decide_false, Bool.false_and]
        apply Nat.testBit_lt_two_pow
        refine Nat.lt_of_lt_of_le h2 ?_
        have : 2 ^ 3 ≤ 2 ^ (k - 3 * n) := Nat.pow_le_pow_right (by decide) (by omega)
        omega
theorem nF_ext {a : Nat} {f : Nat → Nat} (hf : ∀ i, i < 8 → f i < 8) (h : ∀ k, a.testBit k = (decide (k < 24) && (f (k / 3)).testBit (k % 3))) : a = nF f 8 := by
  apply Nat.eq_of_testBit_eq
  intro k
  rw [h, nF_bit 8 hf]
theorem nF_congr {f g : Nat → Nat} : ∀ n, (∀ i, i < n → f i = g i) → nF f n = nF g n := by
  intro n
  induction n with
  | zero => intro _; rfl
  | succ n ih =>
    intro h
    show 2 ^ (3 * n) * f n + nF f n = 2 ^ (3 * n) * g n + nF g n
    rw [h n (by omega), ih (fun i hi => h i (by omega))]
theorem nF_mul (f : Nat → Nat) (c : Nat) : ∀ n, nF f n * c = nF (fun i => f i * c) n := by
  intro n
  induction n with
  | zero => simp [nF]
  | succ n ih =>
    show (2 ^ (3 * n) * f n + nF f n) * c = 2 ^ (3 * n) * (f n * c) + nF (fun i => f i * c) n
    rw [Nat.add_mul, ih, Nat.mul_assoc]
theorem nF_zero {f : Nat → Nat} : ∀ n, nF f n = 0 ↔ ∀ i, i < n → f i = 0 := by
  intro n
  induction n with
  | zero => exact ⟨fun _ i hi => by omega, fun _ => rfl⟩
  | succ n ih =>
    have hp : 0 < 2 ^ (3 * n) := Nat.pow_pos (by decide)
    constructor
    · intro h i hi
      have h : 2 ^ (3 * n) * f n + nF f n = 0 := h
      have h1 : nF f n = 0 := by omega
      have h2 : 2 ^ (3 * n) * f n = 0 := by omega
      rcases Nat.mul_eq_zero.mp h2 with z | z
      · omega
      · by_cases hi2 : i = n
        · subst hi2; exact z
        · exact ih.mp h1 i (by omega)
    · intro h
      show 2 ^ (3 * n) * f n + nF f n = 0
      rw [h n (by omega), ih.mpr (fun i hi => h i (by omega))]
      rfl
theorem nF_and {f g : Nat → Nat} (hf : ∀ i, i < 8 → f i < 8) (hg : ∀ i, i < 8 → g i < 8) : nF f 8 &&& nF g 8 = nF (fun i => f i &&& g i) 8 := by
  apply nF_ext (fun i hi => Nat.lt_of_le_of_lt Nat.and_le_left (hf i hi))
  intro k
  rw [Nat.testBit_and, nF_bit 8 hf, nF_bit 8 hg, Nat.testBit_and]
  cases decide (k < 3 * 8) <;> rfl
theorem nF_or {f g : Nat → Nat} (hf : ∀ i, i < 8 → f i < 8) (hg : ∀ i, i < 8 → g i < 8) : nF f 8 ||| nF g 8 = nF (fun i => f i ||| g i) 8 := by
  apply nF_ext (fun i hi => Nat.or_lt_two_pow (n := 3) (hf i hi) (hg i hi))
  intro k
  rw [Nat.testBit_or, nF_bit 8 hf, nF_bit 8 hg, Nat.testBit_or]
  cases decide (k < 3 * 8) <;> rfl
/-! rows of words -/
theorem rowN_shift : ∀ (w : List Nat) (n : Nat), w.length ≤ n → nF (fun i => w.getD i 0) n = rowN w := by
  have key : ∀ (n : Nat) (f : Nat → Nat), nF f (n + 1) = nF (fun i => f (i + 1)) n * 8 + f 0 := by
    intro n
    induction n with
    | zero => intro f; simp [nF]
    | succ n ih =>
      intro f
      show 2 ^ (3 * (n + 1)) * f (n + 1) + nF f (n + 1) = (2 ^ (3 * n) * f (n + 1) + nF (fun i => f (i + 1)) n) * 8 + f 0
      rw [ih f, show 3 * (n + 1) = 3 * n + 3 by omega, Nat.pow_add, Nat.add_mul, Nat.mul_assoc, Nat.mul_assoc, show (2 : Nat) ^ 3 = 8 from rfl, Nat.mul_comm 8]
      omega
  intro w
  induction w with
  | nil =>
    intro n _
    rw [show rowN [] = 0 from rfl, nF_zero]
    intro i _
    simp
  | cons x r ih =>
    intro n hn
    obtain ⟨m, rfl⟩ : ∃ m, n = m + 1 := ⟨n - 1, by simp only [List.length_cons] at hn; omega⟩
    rw [key]
    have e : nF (fun i => (x :: r).getD (i + 1) 0) m = rowN r := ih m (by simp only [List.length_cons] at hn; omega)
    rw [e]
    rfl
theorem rowN_nF {w : List Nat} (h : w.length ≤ 8) : rowN w = nF (fun i => cD w (i + 1)) 8 := by
  rw [← rowN_shift w 8 h]
  apply nF_congr
  intro i _
  unfold cD
  rw [if_neg (by omega), Nat.add_sub_cancel]
theorem cD_lt {w : List Nat} (hw : isW w) (j : Nat) : cD w j < 8 := by
  unfold cD
  split
  · decide
  · rw [List.getD_eq_getElem?_getD]
    cases hx : w[j - 1]? with
    | none => decide
    | some x =>
      have := hw.2 x (List.mem_of_getElem? hx)
      show x < 8
      omega
theorem cD_le6 {w : List Nat} (hw : isW w) (j : Nat) : cD w j ≤ 6 := by
  unfold cD
  split
  · decide
  · rw [List.getD_eq_getElem?_getD]
    cases hx : w[j - 1]? with
    | none => decide
    | some x =>
      have := hw.2 x (List.mem_of_getElem? hx)
      show x ≤ 6
      omega
theorem cD_big {w : List Nat} {j : Nat} (h : w.length < j) : cD w j = 0 := by
  unfold cD
  split
  · rfl
  · rw [List.getD_eq_getElem?_getD, List.getElem?_eq_none (by omega)]
    rfl
/-! bits of ints -/
def bt (x : Int32) (k : Nat) : Bool := x.toBitVec.getLsbD k
theorem bt_ext {x y : Int32} (h : ∀ k, k < 32 → bt x k = bt y k) : x = y := Int32.toBitVec_inj.mp (BitVec.eq_of_getLsbD_eq (fun i hi => h i hi))
theorem bt_nI (a : Nat) {k : Nat} (hk : k < 32) : bt (nI a) k = a.testBit k := by
  unfold bt
  rw [q_bv, BitVec.getLsbD_ofNat]
  simp [hk]
theorem bt_or (x y : Int32) (k : Nat) : bt (x ||| y) k = (bt x k || bt y k) := by unfold bt; rw [Int32.toBitVec_or, BitVec.getLsbD_or]
theorem bt_and (x y : Int32) (k : Nat) : bt (x &&& y) k = (bt x k && bt y k) := by unfold bt; rw [Int32.toBitVec_and, BitVec.getLsbD_and]
theorem bt_xor (x y : Int32) (k : Nat) : bt (x ^^^ y) k = (bt x k ^^ bt y k) := by unfold bt; rw [Int32.toBitVec_xor, BitVec.getLsbD_xor]
theorem bt_m1 : ∀ k, k < 32 → bt (-1) k = true := by decide +kernel
theorem bt_ush (x : Int32) {n : Nat} (hn : n < 32) (k : Nat) : bt (z_ush x (nI n)) k = bt x (n + k) := by
  unfold bt z_ush
  show (x.toUInt32 >>> ((nI n).toUInt32 &&& Int32.toUInt32 31)).toBitVec.getLsbD k = _
  rw [UInt32.toBitVec_shiftRight, BitVec.ushiftRight_eq', BitVec.getLsbD_ushiftRight, q_shu n hn]
  rfl
