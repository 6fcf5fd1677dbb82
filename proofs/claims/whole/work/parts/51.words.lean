/-! ===== words: rows of digits from 1 to 6, at most 8 ===== -/
/-- the number of the digits, the last one first -/
def wR : List Nat → Nat
  | [] => 0
  | d :: r => wR r * 7 + d
def wN (w : List Nat) : Nat := wR w.reverse
def isW (w : List Nat) : Prop := w.length ≤ 8 ∧ ∀ x ∈ w, 1 ≤ x ∧ x ≤ 6
/-- the row of bits: the first sound in the lowest field -/
def rowN : List Nat → Nat
  | [] => 0
  | d :: r => rowN r * 8 + d
def dg : Nat → Nat → List Nat
  | 0, _ => []
  | f + 1, n => if n = 0 then [] else (n % 7) :: dg f (n / 7)
theorem dg_zero (f : Nat) : dg f 0 = [] := by cases f <;> rfl
theorem dg_succ {f n : Nat} (h : n ≠ 0) : dg (f + 1) n = (n % 7) :: dg f (n / 7) := by rw [dg, if_neg h]
theorem dg_spec : ∀ (f n : Nat), n < 7 ^ f → wR (dg f n) = n ∧ (dg f n).length ≤ f ∧ ∀ x ∈ dg f n, x < 7 := by
  intro f
  induction f with
  | zero => intro n h; have : n = 0 := by omega
            subst this; exact ⟨rfl, Nat.le_refl _, fun x h => by cases h⟩
  | succ f ih =>
    intro n h
    by_cases hn : n = 0
    · subst hn; rw [dg_zero]; exact ⟨rfl, Nat.zero_le _, fun x h => by cases h⟩
    · rw [dg_succ hn]
      have hp : 7 ^ (f + 1) = 7 ^ f * 7 := Nat.pow_succ 7 f
      obtain ⟨h1, h2, h3⟩ := ih (n / 7) (by omega)
      refine ⟨?_, by simp only [List.length_cons]; omega, fun x hx => ?_⟩
      · show wR (dg f (n / 7)) * 7 + n % 7 = n
        rw [h1]; omega
      · rcases List.mem_cons.mp hx with rfl | hx
        · omega
        · exact h3 x hx
theorem wR_lt : ∀ (r : List Nat), (∀ x ∈ r, x < 7) → wR r < 7 ^ r.length := by
  intro r
  induction r with
  | nil => intro _; decide
  | cons d r ih =>
    intro h
    have h1 := ih (fun x hx => h x (List.mem_cons_of_mem _ hx))
    have h2 := h d List.mem_cons_self
    show wR r * 7 + d < 7 ^ (r.length + 1)
    rw [Nat.pow_succ]; omega
theorem rowN_lt : ∀ (r : List Nat), (∀ x ∈ r, x < 8) → rowN r < 8 ^ r.length := by
  intro r
  induction r with
  | nil => intro _; decide
  | cons d r ih =>
    intro h
    have h1 := ih (fun x hx => h x (List.mem_cons_of_mem _ hx))
    have h2 := h d List.mem_cons_self
    show rowN r * 8 + d < 8 ^ (r.length + 1)
    rw [Nat.pow_succ]; omega
theorem pow_le7 {n : Nat} (h : n ≤ 8) : 7 ^ n ≤ 5764801 := Nat.le_trans (Nat.pow_le_pow_right (by decide) h) (by decide)
theorem pow_le8 {n : Nat} (h : n ≤ 8) : 8 ^ n ≤ 16777216 := Nat.le_trans (Nat.pow_le_pow_right (by decide) h) (by decide)
theorem wN_lt {w : List Nat} (h : isW w) : wN w < 5764801 := by
  have := wR_lt w.reverse (fun x hx => by have := h.2 x (List.mem_reverse.mp hx); omega)
  rw [List.length_reverse] at this
  exact Nat.lt_of_lt_of_le this (pow_le7 h.1)
theorem rowN_lt' {w : List Nat} (h : isW w) : rowN w < 16777216 := Nat.lt_of_lt_of_le (rowN_lt w (fun x hx => by have := h.2 x hx; omega)) (pow_le8 h.1)
/-- the digits of a word's number are those of the word -/
theorem dg_wR : ∀ (r : List Nat) (f : Nat), (∀ x ∈ r, 1 ≤ x ∧ x ≤ 6) → r.length ≤ f → dg f (wR r) = r := by
  intro r
  induction r with
  | nil => intro f _ _; exact dg_zero f
  | cons d r ih =>
    intro f h hf
    obtain ⟨g, rfl⟩ : ∃ g, f = g + 1 := ⟨f - 1, by simp only [List.length_cons] at hf; omega⟩
    have hd := h d List.mem_cons_self
    have hne : wR (d :: r) ≠ 0 := by show wR r * 7 + d ≠ 0; omega
    rw [dg_succ hne]
    have e1 : wR (d :: r) % 7 = d := by show (wR r * 7 + d) % 7 = d; omega
    have e2 : wR (d :: r) / 7 = wR r := by show (wR r * 7 + d) / 7 = wR r; omega
    rw [e1, e2, ih g (fun x hx => h x (List.mem_cons_of_mem _ hx)) (by simp only [List.length_cons] at hf; omega)]
theorem wN_inj {v w : List Nat} (hv : isW v) (hw : isW w) (h : wN v = wN w) : v = w := by
  have h1 := dg_wR v.reverse 8 (fun x hx => hv.2 x (List.mem_reverse.mp hx)) (by rw [List.length_reverse]; exact hv.1)
  have h2 := dg_wR w.reverse 8 (fun x hx => hw.2 x (List.mem_reverse.mp hx)) (by rw [List.length_reverse]; exact hw.1)
  have h3 : wR v.reverse = wR w.reverse := h
  rw [h3, h2] at h1
  exact (List.reverse_inj.mp h1).symm
/-- a number tells a word just if none of its digits is 0 and there are at most 8 -/
def isWd (n : Nat) : Bool := decide (n < 5764801) && (dg 8 n).all (fun x => x != 0)
theorem isWd_iff (n : Nat) : isWd n = true ↔ ∃ w, isW w ∧ wN w = n := by
  unfold isWd
  rw [Bool.and_eq_true, decide_eq_true_eq, List.all_eq_true]
  constructor
  · rintro ⟨h1, h2⟩
    obtain ⟨e1, e2, e3⟩ := dg_spec 8 n (by omega)
    refine ⟨(dg 8 n).reverse, ⟨by rw [List.length_reverse]; exact e2, fun x hx => ?_⟩, ?_⟩
    · have hx := List.mem_reverse.mp hx
      have := e3 x hx
      have := h2 x hx
      simp at this
      omega
    · show wR (dg 8 n).reverse.reverse = n
      rw [List.reverse_reverse]; exact e1
  · rintro ⟨w, hw, rfl⟩
    refine ⟨wN_lt hw, fun x hx => ?_⟩
    have e : dg 8 (wN w) = w.reverse := dg_wR w.reverse 8 (fun x hx => hw.2 x (List.mem_reverse.mp hx)) (by rw [List.length_reverse]; exact hw.1)
    rw [e] at hx
    have := hw.2 x (List.mem_reverse.mp hx)
    simp
    omega
/-- an int that tells a word -/
def isX (x : Int32) : Bool := decide (0 ≤ x) && isWd x.toNatClampNeg
theorem isX_nI {n : Nat} (h : n < 2 ^ 31) : isX (nI n) = isWd n := by
  unfold isX
  rw [nI_clamp h]
  simp [nI_pos' h]
theorem isX_of {x : Int32} (h : isX x = true) : ∃ w, isW w ∧ x = nI (wN w) := by
  unfold isX at h
  rw [Bool.and_eq_true, decide_eq_true_eq] at h
  obtain ⟨j, hj, rfl⟩ := nI_of (x := x) (fun z => by have := h.1; rw [Int32.le_iff_toInt_le] at this; rw [Int32.lt_iff_toInt_lt] at z; omega)
  rw [nI_clamp hj] at h
  obtain ⟨w, hw, e⟩ := (isWd_iff j).mp h.2
  exact ⟨w, hw, by rw [e]⟩
theorem isX_w {w : List Nat} (h : isW w) : isX (nI (wN w)) = true := by
  rw [isX_nI (by have := wN_lt h; omega)]
  exact (isWd_iff _).mpr ⟨w, h, rfl⟩
