/-! ===== words in the reference and in the class ===== -/
theorem q_le0 {n : Nat} (h : n < 2 ^ 31) : (nI n ≤ (0 : Int32)) = (n = 0) := by
  have : (0 : Int32) = nI 0 := rfl
  rw [this, nI_leI h (by decide)]
  simp
theorem q_eq0 {n : Nat} (h : n < 2 ^ 31) : (nI n = (0 : Int32)) = (n = 0) := by
  have : (0 : Int32) = nI 0 := rfl
  rw [this, nI_eq h (by decide)]
theorem q_div7 {n : Nat} (h : n < 2 ^ 31) : nI n / 7 = nI (n / 7) := q_div (b := 7) h (by decide) (by decide)
theorem q_rem7 {n : Nat} (h : n < 2 ^ 31) : nI n - nI n / 7 * 7 = nI (n % 7) := q_rem (b := 7) h (by decide) (by decide)
/-- within -/
theorem m_within (d : Nat) (v lo hi : Int32) (h : z_H) : Rn (d + 1) 139 [z_I v, z_I lo, z_I hi] h = some (some (z_I (bI (decide (lo ≤ v) && decide (v ≤ hi)))), h) := by
  rw [rX11_within, bX11_within_0]
  by_cases h1 : v < lo
  · have h2 : ¬ lo ≤ v := fun z => by rw [Int32.le_iff_toInt_le] at z; rw [Int32.lt_iff_toInt_lt] at h1; omega
    rw [if_pos h1, bX11_within_14, bX11_within_15, if_pos q_bz0]
    simp [h2, bI]
  · have h2 : lo ≤ v := by rw [Int32.le_iff_toInt_le]; rw [Int32.lt_iff_toInt_lt] at h1; omega
    rw [if_neg h1]
    by_cases h3 : hi < v
    · have h4 : ¬ v ≤ hi := fun z => by rw [Int32.le_iff_toInt_le] at z; rw [Int32.lt_iff_toInt_lt] at h3; omega
      rw [if_pos h3, bX11_within_14, bX11_within_15, if_pos q_bz0]
      simp [h4, bI]
    · have h4 : v ≤ hi := by rw [Int32.le_iff_toInt_le]; rw [Int32.lt_iff_toInt_lt] at h3; omega
      rw [if_neg h3, bX11_within_15, if_pos q_bz1]
      simp [h2, h4, bI]
theorem m_isWord_loop (d : Nat) (x0 : Int32) (h : z_H) : ∀ (f n : Nat) (b : Bool), n < 7 ^ f → n < 2 ^ 31 → EX d 146 16 [z_I x0, z_I (bI b), z_I (nI n)] [] h = some (some (z_I (bI (b && (dg f n).all (fun x => x != 0)))), h) := by
  intro f
  induction f with
  | zero =>
    intro n b hn hn2
    have : n = 0 := by omega
    subst this
    rw [bX11_isWord_16, if_pos (by rw [q_le0 hn2]), bX11_isWord_45, if_pos (q_bzb b)]
    simp [dg]
  | succ f ih =>
    intro n b hn hn2
    rw [bX11_isWord_16]
    by_cases h0 : n = 0
    · subst h0
      rw [if_pos (by rw [q_le0 hn2]), bX11_isWord_45, if_pos (q_bzb b), dg_zero]
      simp
    · have hp : 7 ^ (f + 1) = 7 ^ f * 7 := Nat.pow_succ 7 f
      have hlt : n / 7 < 7 ^ f := by omega
      have hlt2 : n / 7 < 2 ^ 31 := by omega
      rw [if_neg (by rw [q_le0 hn2]; exact h0), q_rem7 hn2, dg_succ h0]
      cases b with
      | false =>
        rw [if_pos (show bI false = 0 from rfl), bX11_isWord_35, bX11_isWord_36, q_div7 hn2]
        have := ih (n / 7) false hlt hlt2
        simpa [bI] using this
      | true =>
        rw [if_neg (show ¬ bI true = 0 by decide)]
        by_cases h7 : n % 7 = 0
        · rw [if_pos (by rw [h7]; rfl), bX11_isWord_35, bX11_isWord_36, q_div7 hn2]
          have := ih (n / 7) false hlt hlt2
          simpa [bI, h7] using this
        · rw [if_neg (by rw [q_eq0 (by omega)]; exact h7), bX11_isWord_36, q_div7 hn2]
          have := ih (n / 7) true hlt hlt2
          simpa [bI, h7] using this
theorem m_isWord (d : Nat) (x : Int32) (h : z_H) : Rn (d + 2) 146 [z_I x] h = some (some (z_I (bI (isX x))), h) := by
  rw [rX11_isWord, bX11_isWord_0, m_within, q_cl, q_ps, bX11_isWord_7]
  by_cases hx : x < 0
  · have h1 : ¬ (0 : Int32) ≤ x := fun z => by rw [Int32.le_iff_toInt_le] at z; rw [Int32.lt_iff_toInt_lt] at hx; omega
    have h2 : isX x = false := by unfold isX; simp [h1]
    rw [h2]
    simp only [h1, decide_false, Bool.false_and]
    rw [if_neg (by decide), if_pos q_bz0]
    rfl
  · obtain ⟨n, hn, rfl⟩ := nI_of hx
    have h1 : (0 : Int32) ≤ nI n := nI_pos' hn
    have h3 : (nI n ≤ (5764800 : Int32)) = (n < 5764801) := by
      have : (5764800 : Int32) = nI 5764800 := rfl
      rw [this, nI_leI hn (by decide)]
      exact propext (by omega)
    rw [isX_nI hn]
    unfold isWd
    by_cases h4 : n < 5764801
    · simp only [h1, h3, h4, decide_true, Bool.and_self, Bool.true_and]
      rw [if_pos (by decide), bX11_isWord_12]
      have := m_isWord_loop (d + 1) (nI n) h 8 n true (by omega) hn
      rw [Bool.true_and] at this
      exact this
    · simp only [h1, h3, h4, decide_true, decide_false, Bool.and_false, Bool.false_and]
      rw [if_neg (by decide), if_pos q_bz0]
      rfl
/-- rowOf -/
theorem c_rowOf_end (d : Nat) (x0 : Int32) (row i n : Nat) (u : z_V) (h : z_H) (hn : n < 2 ^ 31) : EX d 0 47 [z_I x0, z_I (nI row), z_I (nI n), z_I (nI i), u] [] h = some (some (z_I (if n = 0 then nI row else -1)), h) := by
  rw [bX6_rowOf_47]
  by_cases h0 : n = 0
  · subst h0
    rw [if_neg (by decide), bX6_rowOf_56]
    simp
  · rw [if_pos (by rw [ne_eq, q_eq0 hn]; exact h0), bX6_rowOf_55, bX6_rowOf_56, if_neg h0]
theorem c_rowOf_loop (d : Nat) (x0 : Int32) (h : z_H) : ∀ (f n i row : Nat) (u : z_V), i + f = 8 → n < 2 ^ 31 → row < 8 ^ i → EX d 0 6 [z_I x0, z_I (nI row), z_I (nI n), z_I (nI i), u] [] h = some (some (z_I (if n < 7 ^ f ∧ (dg f n).all (fun x => x != 0) = true then nI ((dg f n).foldl (fun a x => a * 8 + x) row) else -1)), h) := by
  intro f
  induction f with
  | zero =>
    intro n i row u hi hn hr
    have h8 : i = 8 := by omega
    subst h8
    rw [bX6_rowOf_6, if_pos (by decide), c_rowOf_end _ _ _ _ _ _ _ hn]
    by_cases h0 : n = 0
    · subst h0; simp [dg]
    · rw [if_neg h0, if_neg (by simp only [Nat.pow_zero]; omega)]
  | succ f ih =>
    intro n i row u hi hn hr
    have hi8 : i < 8 := by omega
    rw [bX6_rowOf_6, if_neg (by have : (8 : Int32) = nI 8 := rfl
                                rw [this, nI_leI (by decide) (by omega)]; omega)]
    by_cases h0 : n = 0
    · subst h0
      rw [if_pos (by rw [q_le0 hn]), c_rowOf_end _ _ _ _ _ _ _ hn, dg_zero]
      have : 0 < 7 ^ (f + 1) := Nat.pow_pos (by decide)
      simp [this]
    · rw [if_neg (by rw [q_le0 hn]; exact h0), q_rem7 hn, dg_succ h0]
      have hp : 7 ^ (f + 1) = 7 ^ f * 7 := Nat.pow_succ 7 f
      by_cases h7 : n % 7 = 0
      · rw [if_neg (by rw [h7]; decide), if_neg (by simp [h7])]
      · rw [if_pos (by rw [ne_eq, q_eq0 (by omega)]; exact h7), bX6_rowOf_29, q_div7 hn]
        have hr8 : row < 8 ^ 7 := Nat.lt_of_lt_of_le hr (Nat.pow_le_pow_right (by decide) (by omega))
        have e1 : nI row <<< ((3 : Int32) &&& 31) ||| nI (n % 7) = nI (row * 8 + n % 7) := by
          have h3 : (3 : Int32) = nI 3 := rfl
          rw [h3, q_shl row (by decide), q_or]
          congr 1
          have := Nat.two_pow_add_eq_or_of_lt (i := 3) (b := n % 7) (by omega) row
          rw [Nat.mul_comm row (2 ^ 3), ← this]
        have e2 : nI i + 1 = nI (i + 1) := nI_1 i
        rw [e1, e2, ih (n / 7) (i + 1) (row * 8 + n % 7) _ (by omega) (by omega) (by rw [Nat.pow_succ]; omega)]
        have e3 : (n / 7 < 7 ^ f) ↔ (n < 7 ^ (f + 1)) := by omega
        have e4 : ((n % 7 :: dg f (n / 7)).all (fun x => x != 0)) = (dg f (n / 7)).all (fun x => x != 0) := by simp [h7]
        rw [e4, List.foldl_cons]
        simp only [e3]
theorem rowN_fold : ∀ (w : List Nat), w.reverse.foldl (fun a x => a * 8 + x) 0 = rowN w := by
  intro w
  induction w with
  | nil => rfl
  | cons d r ih => rw [List.reverse_cons, List.foldl_append, ih]; rfl
/-- the row that a number tells, or -1 -/
def rowX (x : Int32) : Int32 := if isX x then nI (rowN (dg 8 x.toNatClampNeg).reverse) else -1
theorem rowX_w {w : List Nat} (h : isW w) : rowX (nI (wN w)) = nI (rowN w) := by
  unfold rowX
  rw [if_pos (isX_w h), nI_clamp (by have := wN_lt h; omega)]
  have : dg 8 (wN w) = w.reverse := dg_wR w.reverse 8 (fun x hx => h.2 x (List.mem_reverse.mp hx)) (by rw [List.length_reverse]; exact h.1)
  rw [this, List.reverse_reverse]
theorem rowX_no {x : Int32} (h : isX x = false) : rowX x = -1 := by
  unfold rowX
  rw [h]; rfl
theorem c_rowOf (d : Nat) (x : Int32) (h : z_H) : Rn (d + 1) 0 [z_I x] h = some (some (z_I (rowX x)), h) := by
  rw [rX6_rowOf, bX6_rowOf_0]
  by_cases hx : x < 0
  · have h1 : ¬ (0 : Int32) ≤ x := fun z => by rw [Int32.le_iff_toInt_le] at z; rw [Int32.lt_iff_toInt_lt] at hx; omega
    have h2 : isX x = false := by unfold isX; simp [h1]
    have h3 : x ≤ 0 := by rw [Int32.le_iff_toInt_le]; rw [Int32.lt_iff_toInt_lt] at hx; omega
    have h4 : x ≠ 0 := by intro z; subst z; exact h1 (by decide)
    rw [bX6_rowOf_6, if_neg (by decide), if_pos h3, bX6_rowOf_47, if_pos h4, bX6_rowOf_55, bX6_rowOf_56, rowX_no h2]
  · obtain ⟨n, hn, rfl⟩ := nI_of hx
    have := c_rowOf_loop d (nI n) h 8 n 0 0 z_U (by omega) hn (by decide)
    rw [show (0 : Int32) = nI 0 from rfl, this]
    unfold rowX
    rw [isX_nI hn, nI_clamp hn]
    unfold isWd
    have e0 : (7 : Nat) ^ 8 = 5764801 := by decide
    rw [e0]
    by_cases h4 : n < 5764801
    · cases h5 : (dg 8 n).all (fun x => x != 0) with
      | true =>
        have := rowN_fold (dg 8 n).reverse
        rw [List.reverse_reverse] at this
        simp [h4, this]
      | false => simp [h4]
    · simp [h4]
