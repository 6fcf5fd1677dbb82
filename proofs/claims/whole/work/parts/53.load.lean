/-! ===== numbers of rows; the word at hand of the reference ===== -/
theorem wR_fold : ∀ (r : List Nat), r.reverse.foldl (fun a x => a * 7 + x) 0 = wR r := by
  intro r
  induction r with
  | nil => rfl
  | cons d r ih => rw [List.reverse_cons, List.foldl_append, ih]; rfl
theorem wN_fold (w : List Nat) : w.foldl (fun a x => a * 7 + x) 0 = wN w := by
  have := wR_fold w.reverse
  rw [List.reverse_reverse] at this
  exact this
theorem q_ush3 {a : Nat} (h : a < 2 ^ 32) : z_ush (nI a) 3 = nI (a / 8) := q_ush (k := 3) h (by decide)
theorem q_and7 (a : Nat) : nI a &&& 7 = nI (a % 8) := by
  have : (7 : Int32) = nI 7 := rfl
  rw [this, q_and]
  congr 1
  exact Nat.and_two_pow_sub_one_eq_mod a 3
/-- a row without its first fields -/
theorem rowN_drop : ∀ (l r : List Nat), (∀ x ∈ l, x < 8) → rowN (l ++ r) / 2 ^ (3 * l.length) = rowN r := by
  intro l
  induction l with
  | nil => intro r _; show rowN r / 1 = rowN r; exact Nat.div_one _
  | cons x l ih =>
    intro r hl
    have hx := hl x List.mem_cons_self
    have e1 : rowN (x :: l ++ r) / 8 = rowN (l ++ r) := by show (rowN (l ++ r) * 8 + x) / 8 = rowN (l ++ r); omega
    have e2 : 2 ^ (3 * (x :: l).length) = 8 * 2 ^ (3 * l.length) := by
      rw [List.length_cons, show 3 * (l.length + 1) = 3 + 3 * l.length by omega, Nat.pow_add]
    rw [e2, ← Nat.div_div_eq_div_mul, e1]
    exact ih r (fun y hy => hl y (List.mem_cons_of_mem _ hy))
theorem row_ush {l r : List Nat} (hw : ∀ x ∈ l ++ r, 1 ≤ x ∧ x ≤ 6) (hl : (l ++ r).length ≤ 8) : z_ush (nI (rowN (l ++ r))) (nI (3 * l.length)) = nI (rowN r) := by
  have hlt : rowN (l ++ r) < 16777216 := Nat.lt_of_lt_of_le (rowN_lt _ (fun y hy => by have := hw y hy; omega)) (pow_le8 hl)
  have hl2 : l.length + r.length ≤ 8 := by rw [List.length_append] at hl; exact hl
  rw [q_ush (by omega) (by omega), rowN_drop l r (fun x hx => by have := hw x (List.mem_append_left _ hx); omega)]
theorem row_le24 {l r : List Nat} {x : Nat} (hl : (l ++ x :: r).length ≤ 8) : ¬ (24 : Int32) ≤ nI (3 * l.length) := by
  have hl2 : l.length + (r.length + 1) ≤ 8 := by rw [List.length_append, List.length_cons] at hl; exact hl
  rw [show (24 : Int32) = nI 24 from rfl, nI_leI (by omega) (by omega)]
  omega
theorem row_lt {l r : List Nat} (hw : ∀ x ∈ l ++ r, 1 ≤ x ∧ x ≤ 6) (hl : (l ++ r).length ≤ 8) : rowN r < 16777216 := by
  have hl2 : l.length + r.length ≤ 8 := by rw [List.length_append] at hl; exact hl
  exact Nat.lt_of_lt_of_le (rowN_lt _ (fun y hy => by have := hw y (List.mem_append_right _ hy); omega)) (pow_le8 (by omega))
theorem row_on (l : List Nat) (x : Nat) : nI (3 * l.length) + 3 = nI (3 * (l ++ [x]).length) := by
  rw [List.length_append]
  exact nI_add _ 3
theorem row_mv (l : List Nat) (x : Nat) (r : List Nat) : l ++ [x] ++ r = l ++ x :: r := by rw [List.append_assoc]; rfl
theorem c_numberOf_loop (d : Nat) (h : z_H) : ∀ (r l : List Nat) (n : Nat), (∀ x ∈ l ++ r, 1 ≤ x ∧ x ≤ 6) → (l ++ r).length ≤ 8 → EX d 1 4 [z_I (nI (rowN (l ++ r))), z_I (nI n), z_I (nI (3 * l.length))] [] h = some (some (z_I (nI (r.foldl (fun a x => a * 7 + x) n))), h) := by
  intro r
  induction r with
  | nil =>
    intro l n hw hl
    have e := row_ush hw hl
    rw [bX6_numberOf_4, e]
    by_cases h8 : (24 : Int32) ≤ nI (3 * l.length)
    · rw [if_pos h8, bX6_numberOf_34]; rfl
    · rw [if_neg h8, if_pos (show nI (rowN []) = 0 from rfl), bX6_numberOf_34]; rfl
  | cons x r ih =>
    intro l n hw hl
    have e := row_ush hw hl
    have hx := hw x (List.mem_append_right _ List.mem_cons_self)
    have hlt := row_lt hw hl
    have hne : rowN (x :: r) ≠ 0 := by show rowN r * 8 + x ≠ 0; omega
    have e1 : rowN (x :: r) % 8 = x := by show (rowN r * 8 + x) % 8 = x; omega
    have e3 : nI n * 7 + nI x = nI (n * 7 + x) := by
      have : (7 : Int32) = nI 7 := rfl
      rw [this, q_mul, nI_add]
    have i := ih (l ++ [x]) (n * 7 + x) (by rw [row_mv]; exact hw) (by rw [row_mv]; exact hl)
    rw [row_mv] at i
    rw [bX6_numberOf_4, if_neg (row_le24 hl), e, if_neg (by rw [q_eq0 (by omega)]; exact hne), q_and7, e1, e3, row_on l x, i]
    rfl
theorem c_numberOf (d : Nat) {w : List Nat} (hw : isW w) (h : z_H) : Rn (d + 1) 1 [z_I (nI (rowN w))] h = some (some (z_I (nI (wN w))), h) := by
  rw [rX6_numberOf, bX6_numberOf_0]
  have := c_numberOf_loop d h w [] 0 hw.2 hw.1
  rw [wN_fold] at this
  exact this
theorem c_lengthOf_loop (d : Nat) (h : z_H) : ∀ (r l : List Nat), (∀ x ∈ l ++ r, 1 ≤ x ∧ x ≤ 6) → (l ++ r).length ≤ 8 → EX d 2 2 [z_I (nI (rowN (l ++ r))), z_I (nI l.length)] [] h = some (some (z_I (nI (l ++ r).length)), h) := by
  intro r
  induction r with
  | nil =>
    intro l hw hl
    have e := row_ush hw hl
    have e3 : nI l.length * 3 = nI (3 * l.length) := by rw [show (3 : Int32) = nI 3 from rfl, q_mul, Nat.mul_comm]
    rw [bX6_lengthOf_2, e3, e]
    by_cases h8 : (8 : Int32) ≤ nI l.length
    · rw [if_pos h8, bX6_lengthOf_22, List.append_nil]
    · rw [if_neg h8, if_pos (show nI (rowN []) = 0 from rfl), bX6_lengthOf_22, List.append_nil]
  | cons x r ih =>
    intro l hw hl
    have e := row_ush hw hl
    have e3 : nI l.length * 3 = nI (3 * l.length) := by rw [show (3 : Int32) = nI 3 from rfl, q_mul, Nat.mul_comm]
    have hx := hw x (List.mem_append_right _ List.mem_cons_self)
    have hlt := row_lt hw hl
    have hl2 : l.length + (r.length + 1) ≤ 8 := by rw [List.length_append, List.length_cons] at hl; exact hl
    have hne : rowN (x :: r) ≠ 0 := by show rowN r * 8 + x ≠ 0; omega
    have e6 : ¬ (8 : Int32) ≤ nI l.length := by
      rw [show (8 : Int32) = nI 8 from rfl, nI_leI (by omega) (by omega)]
      omega
    have e7 : (l ++ [x]).length = l.length + 1 := by rw [List.length_append]; rfl
    have i := ih (l ++ [x]) (by rw [row_mv]; exact hw) (by rw [row_mv]; exact hl)
    rw [row_mv, e7] at i
    rw [bX6_lengthOf_2, if_neg e6, e3, e, if_neg (by rw [q_eq0 (by omega)]; exact hne), nI_1]
    exact i
theorem c_lengthOf (d : Nat) {w : List Nat} (hw : isW w) (h : z_H) : Rn (d + 1) 2 [z_I (nI (rowN w))] h = some (some (z_I (nI w.length)), h) := by
  rw [rX6_lengthOf, bX6_lengthOf_0]
  exact c_lengthOf_loop d h w [] hw.2 hw.1
/-! the reference's heap -/
/-- which fields of the reference are rows -/
def mAr (k : Nat) : Bool := [2, 3, 4, 5, 6, 7, 10, 11, 12, 13, 16, 17, 18, 19, 21, 22, 24, 25, 27, 28, 29, 31, 32, 33, 34, 36, 38, 41, 42, 43, 45, 46, 47, 48].contains k
def mOK (h : z_H) : Prop := ∀ k, mAr k = true → gR h 49100 0 k = 1
/-- nothing but some ints has changed -/
def fr (P : Nat → Nat → Nat → Prop) (h h' : z_H) : Prop := h'.2 = h.2 ∧ ∀ p i k, ¬ P p i k → gI h' p i k = gI h p i k
theorem fr_rfl (P : Nat → Nat → Nat → Prop) (h : z_H) : fr P h h := ⟨rfl, fun _ _ _ _ => rfl⟩
theorem fr_trans {P : Nat → Nat → Nat → Prop} {a b c : z_H} (h1 : fr P a b) (h2 : fr P b c) : fr P a c := ⟨h2.1.trans h1.1, fun p i k q => (h2.2 p i k q).trans (h1.2 p i k q)⟩
theorem fr_mono {P Q : Nat → Nat → Nat → Prop} {a b : z_H} (h : fr P a b) (hPQ : ∀ p i k, P p i k → Q p i k) : fr Q a b := ⟨h.1, fun p i k q => h.2 p i k (fun z => q (hPQ p i k z))⟩
theorem fr_pI {P : Nat → Nat → Nat → Prop} (h : z_H) {p i k : Nat} (v : Int32) (hP : P p i k) : fr P h (pI h p i k v) := ⟨rfl, fun p' i' k' q => by rw [gI_pI, if_neg (fun z => q (by obtain ⟨rfl, rfl, rfl⟩ := z; exact hP))]⟩
theorem fr_gR {P : Nat → Nat → Nat → Prop} {h h' : z_H} (f : fr P h h') (p i k : Nat) : gR h' p i k = gR h p i k := by unfold gR; rw [f.1]
theorem fr_mOK {P : Nat → Nat → Nat → Prop} {h h' : z_H} (f : fr P h h') (m : mOK h) : mOK h' := fun k hk => (fr_gR f _ _ _).trans (m k hk)
/-- the word at hand -/
def tW : Nat → Nat → Nat → Prop := fun p _ k => p = 8681 ∨ p = 16691 ∨ (p = 49100 ∧ k = 37)
def mW (h : z_H) (w : List Nat) : Prop := gI h 49100 0 37 = nI w.length ∧ ∀ (i x : Nat), w[i]? = some x → gI h 8681 0 i = nI (x - 1)
theorem m_number_loop (d : Nat) (h : z_H) (m : mOK h) (w : List Nat) (hw : isW w) (hW : mW h w) : ∀ (r l : List Nat) (n : Nat), w = l ++ r → EX d 148 4 [z_R 49100 0, z_I (nI n), z_I (nI l.length)] [] h = some (some (z_I (nI (r.foldl (fun a x => a * 7 + x) n))), h) := by
  intro r
  induction r with
  | nil =>
    intro l n e
    rw [List.append_nil] at e
    subst e
    rw [bX11_number_4, hW.1, if_pos (by rw [nI_leI (by have := hw.1; omega) (by have := hw.1; omega)]; omega), bX11_number_32]
    rfl
  | cons x r ih =>
    intro l n e
    have hl : l.length < w.length := by rw [e]; simp
    have h8 := hw.1
    have hx : w[l.length]? = some x := by rw [e, List.getElem?_append_right (Nat.le_refl _), Nat.sub_self]; rfl
    have hx1 := hw.2 x (List.mem_of_getElem? hx)
    rw [bX11_number_4, hW.1, if_neg (by rw [nI_leI (by omega) (by omega)]; omega), if_pos (m 36 rfl), if_pos (by rw [q_in (by omega)]; simp; omega), nI_clamp (by omega), hW.2 _ _ hx]
    have e3 : 7 * nI n + nI (x - 1) + 1 = nI (n * 7 + x) := by
      have h7 : (7 : Int32) = nI 7 := rfl
      rw [h7, q_mul, nI_add, nI_1]
      congr 1
      omega
    have e4 : nI l.length + 1 = nI (l ++ [x]).length := by rw [nI_1, List.length_append]; rfl
    rw [e3, e4, ih (l ++ [x]) _ (by rw [e, List.append_assoc]; rfl)]
    rfl
theorem m_number (d : Nat) {h : z_H} (m : mOK h) {w : List Nat} (hw : isW w) (hW : mW h w) : Rn (d + 1) 148 [z_R 49100 0] h = some (some (z_I (nI (wN w))), h) := by
  rw [rX11_number, bX11_number_0]
  have := m_number_loop d h m w hw hW w [] 0 rfl
  rw [wN_fold] at this
  exact this
/-- load -/
theorem m_load_count (d : Nat) (x1 : Int32) (u : z_V) : ∀ (r : List Nat) (n : Nat) (h : z_H), (∀ x ∈ r, 1 ≤ x ∧ x ≤ 6) → r.length ≤ 8 → gI h 49100 0 37 = nI n → ∃ h', EX d 147 7 [z_R 49100 0, z_I x1, z_I (nI (wR r)), u] [] h = EX d 147 29 [z_R 49100 0, z_I x1, z_I 0, u] [] h' ∧ gI h' 49100 0 37 = nI (n + r.length) ∧ fr tW h h' := by
  intro r
  induction r with
  | nil =>
    intro n h _ _ hn
    exact ⟨h, by rw [bX11_load_7, if_pos (show nI (wR []) ≤ 0 by decide)]; rfl, hn, fr_rfl _ _⟩
  | cons x r ih =>
    intro n h hr hl hn
    have hx := hr x List.mem_cons_self
    have hlt : wR (x :: r) < 5764801 := Nat.lt_of_lt_of_le (wR_lt _ (fun y hy => by have := hr y hy; omega)) (pow_le7 hl)
    have hne : wR (x :: r) ≠ 0 := by show wR r * 7 + x ≠ 0; omega
    have e2 : wR (x :: r) / 7 = wR r := by show (wR r * 7 + x) / 7 = wR r; omega
    obtain ⟨h', q1, q2, q3⟩ := ih (n + 1) (pI h 49100 0 37 (gI h 49100 0 37 + 1)) (fun y hy => hr y (List.mem_cons_of_mem _ hy)) (by simp only [List.length_cons] at hl; omega) (by rw [gI_pI, if_pos ⟨rfl, rfl, rfl⟩, hn, nI_1])
    refine ⟨h', ?_, ?_, fr_trans (fr_pI h _ (Or.inr (Or.inr ⟨rfl, rfl⟩))) q3⟩
    · rw [bX11_load_7, if_neg (by rw [q_le0 (by omega)]; exact hne), q_div7 (by omega), e2]
      exact q1
    · rw [q2, List.length_cons]
      congr 1
      omega
theorem m_load_fill (d : Nat) (x1 : Int32) : ∀ (r : List Nat) (h : z_H), mOK h → (∀ x ∈ r, 1 ≤ x ∧ x ≤ 6) → r.length ≤ 8 → ∃ h', EX d 147 38 [z_R 49100 0, z_I x1, z_I (nI (wR r)), z_I (nI r.length - 1)] [] h = some (none, h') ∧ (∀ (i x : Nat), r.reverse[i]? = some x → gI h' 8681 0 i = nI (x - 1)) ∧ (∀ i, r.length ≤ i → gI h' 8681 0 i = gI h 8681 0 i) ∧ fr (fun p _ _ => p = 8681) h h' := by
  intro r
  induction r with
  | nil =>
    intro h m _ _
    exact ⟨h, by rw [bX11_load_38, if_pos (show nI ([] : List Nat).length - 1 < 0 by decide), bX11_load_65], fun i x hx => by simp at hx, fun _ _ => rfl, fr_rfl _ _⟩
  | cons x r ih =>
    intro h m hr hl
    have hx := hr x List.mem_cons_self
    simp only [List.length_cons] at hl
    have hlt : wR (x :: r) < 5764801 := Nat.lt_of_lt_of_le (wR_lt _ (fun y hy => by have := hr y hy; omega)) (pow_le7 (by simp only [List.length_cons]; omega))
    have e1 : wR (x :: r) % 7 = x := by show (wR r * 7 + x) % 7 = x; omega
    have e2 : wR (x :: r) / 7 = wR r := by show (wR r * 7 + x) / 7 = wR r; omega
    have e0 : nI (x :: r).length - 1 = nI r.length := by rw [List.length_cons]; exact nI_pred _
    have e3 : nI x - 1 = nI (x - 1) := q_sub (b := 1) (by omega)
    have e4 : nI r.length + (-1) = nI r.length - 1 := by rw [Int32.sub_eq_add_neg]
    obtain ⟨h', q1, q2, q3, q4⟩ := ih (pI h 8681 0 r.length (nI (x - 1))) (fr_mOK (fr_pI (P := fun _ _ _ => True) h _ trivial) m) (fun y hy => hr y (List.mem_cons_of_mem _ hy)) (by omega)
    refine ⟨h', ?_, fun i y hy => ?_, fun i hi => ?_, fr_trans (fr_pI (P := fun p _ _ => p = 8681) h _ rfl) q4⟩
    · rw [e0, bX11_load_38, if_neg (nI_pos (by omega)), if_pos (m 36 rfl), if_pos (by rw [q_in (by omega)]; simp; omega), q_rem7 (by omega), q_div7 (by omega), e1, e2, e3, e4, nI_clamp (by omega)]
      exact q1
    · rw [List.reverse_cons] at hy
      by_cases hi : i < r.reverse.length
      · rw [List.getElem?_append_left hi] at hy
        exact q2 i y hy
      · rw [List.length_reverse] at hi
        rw [List.getElem?_append_right (by rw [List.length_reverse]; omega), List.length_reverse] at hy
        have hi2 : i = r.length := by
          have := (List.getElem?_eq_some_iff.mp hy).1
          simp only [List.length_cons, List.length_nil] at this
          omega
        subst hi2
        rw [Nat.sub_self] at hy
        cases hy
        rw [q3 _ (Nat.le_refl _), gI_pI, if_pos ⟨rfl, rfl, rfl⟩]
    · simp only [List.length_cons] at hi
      rw [q3 i (by omega), gI_pI, if_neg (fun z => by omega)]
theorem m_load (d : Nat) {h : z_H} (m : mOK h) {w : List Nat} (hw : isW w) : ∃ h', Rn (d + 1) 147 [z_R 49100 0, z_I (nI (wN w))] h = some (none, h') ∧ mW h' w ∧ fr tW h h' := by
  obtain ⟨h1, q1, q2, q3⟩ := m_load_count d (nI (wN w)) z_U w.reverse 0 (pI h 49100 0 37 0) (fun x hx => hw.2 x (List.mem_reverse.mp hx)) (by rw [List.length_reverse]; exact hw.1) (by rw [gI_pI, if_pos ⟨rfl, rfl, rfl⟩]; rfl)
  have f1 : fr tW h h1 := fr_trans (fr_pI h _ (Or.inr (Or.inr ⟨rfl, rfl⟩))) q3
  obtain ⟨h2, p1, p2, p3, p4⟩ := m_load_fill d (nI (wN w)) w.reverse h1 (fr_mOK f1 m) (fun x hx => hw.2 x (List.mem_reverse.mp hx)) (by rw [List.length_reverse]; exact hw.1)
  rw [List.reverse_reverse] at p2
  rw [List.length_reverse, Nat.zero_add] at q2
  refine ⟨h2, ?_, ⟨?_, p2⟩, fr_trans f1 (fr_mono p4 (fun p i k z => Or.inl z))⟩
  · rw [rX11_load, bX11_load_0]
    show EX d 147 7 [z_R 49100 0, z_I (nI (wN w)), z_I (nI (wR w.reverse)), z_U] [] (pI h 49100 0 37 0) = _
    rw [q1, bX11_load_29, q2]
    rw [List.length_reverse] at p1
    exact p1
  · rw [p4.2 _ _ _ (by decide)]
    exact q2
