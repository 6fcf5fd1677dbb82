/-! ===== waves: seven rounds are enough ===== -/
theorem opn_mono {sh : Nat → Nat} {p y y' : Nat} (h : opn sh p y = true) (hy : y' ≤ y) : opn sh p y' = true := by
  unfold opn at h ⊢
  rw [Bool.or_eq_true, decide_eq_true_eq] at h ⊢
  rcases h with h | h
  · exact Or.inl h
  · exact Or.inr (by omega)
section
variable (rd sh : Nat → Nat)
theorem arE_cases (a b : Nat) (c : Nat → Nat) : (c a < 1000000 ∧ 0 < rd (8 * a + b) ∧ opn sh b (c a + rd (8 * a + b)) = true ∧ c a + rd (8 * a + b) < c b ∧ arE rd sh a b c = (fun p => if p = b then c a + rd (8 * a + b) else c p)) ∨ (¬ (c a < 1000000 ∧ 0 < rd (8 * a + b) ∧ opn sh b (c a + rd (8 * a + b)) = true ∧ c a + rd (8 * a + b) < c b) ∧ arE rd sh a b c = c) := by
  unfold arE
  by_cases h : c a < 1000000 ∧ 0 < rd (8 * a + b) ∧ opn sh b (c a + rd (8 * a + b)) = true ∧ c a + rd (8 * a + b) < c b
  · rw [if_pos h]; exact Or.inl ⟨h.1, h.2.1, h.2.2.1, h.2.2.2, rfl⟩
  · rw [if_neg h]; exact Or.inr ⟨h, rfl⟩
theorem arE_le (a b : Nat) (c : Nat → Nat) (p : Nat) : arE rd sh a b c p ≤ c p := by
  rcases arE_cases rd sh a b c with ⟨_, _, _, h4, e⟩ | ⟨_, e⟩
  · rw [e]
    show (if p = b then c a + rd (8 * a + b) else c p) ≤ c p
    split
    · next q => subst q; omega
    · exact Nat.le_refl _
  · rw [e]; exact Nat.le_refl _
theorem arB_le (a : Nat) : ∀ n c p, arB rd sh a n c p ≤ c p := by
  intro n
  induction n with
  | zero => intro c p; exact Nat.le_refl _
  | succ n ih => intro c p; exact Nat.le_trans (arE_le rd sh a n _ p) (ih c p)
theorem arR_le : ∀ n c p, arR rd sh n c p ≤ c p := by
  intro n
  induction n with
  | zero => intro c p; exact Nat.le_refl _
  | succ n ih => intro c p; exact Nat.le_trans (arB_le rd sh n 8 _ p) (ih c p)
theorem arB_hi (a : Nat) : ∀ n c p, n ≤ p → arB rd sh a n c p = c p := by
  intro n
  induction n with
  | zero => intro c p _; rfl
  | succ n ih =>
    intro c p hp
    show arE rd sh a n (arB rd sh a n c) p = c p
    rcases arE_cases rd sh a n (arB rd sh a n c) with ⟨_, _, _, _, e⟩ | ⟨_, e⟩
    · rw [e]
      show (if p = n then _ else arB rd sh a n c p) = c p
      rw [if_neg (by omega)]
      exact ih c p (by omega)
    · rw [e]; exact ih c p (by omega)
theorem arR_hi : ∀ n c p, 8 ≤ p → arR rd sh n c p = c p := by
  intro n
  induction n with
  | zero => intro c p _; rfl
  | succ n ih => intro c p hp; exact (arB_hi rd sh n 8 _ p hp).trans (ih c p hp)
theorem arB_relax (a : Nat) {b x : Nat} (hx : x < 1000000) (hr : 0 < rd (8 * a + b)) (ho : opn sh b (x + rd (8 * a + b)) = true) : ∀ n c, c a ≤ x → b < n → arB rd sh a n c b ≤ x + rd (8 * a + b) := by
  intro n
  induction n with
  | zero => intro c _ h; omega
  | succ n ih =>
    intro c hc hb
    by_cases e : b < n
    · exact Nat.le_trans (arE_le rd sh a n _ b) (ih c hc e)
    · have e2 : b = n := by omega
      subst e2
      show arE rd sh a b (arB rd sh a b c) b ≤ _
      have h1 := Nat.le_trans (arB_le rd sh a b c a) hc
      rcases arE_cases rd sh a b (arB rd sh a b c) with ⟨_, _, _, _, e⟩ | ⟨q, e⟩
      · rw [e]
        show (if b = b then arB rd sh a b c a + rd (8 * a + b) else _) ≤ _
        rw [if_pos rfl]; omega
      · rw [e]
        apply Decidable.byContradiction
        intro z
        exact q ⟨by omega, hr, opn_mono ho (by omega), by omega⟩
theorem arR_relax {a b x : Nat} (hx : x < 1000000) (hr : 0 < rd (8 * a + b)) (ho : opn sh b (x + rd (8 * a + b)) = true) (hb : b < 8) : ∀ n c, c a ≤ x → a < n → arR rd sh n c b ≤ x + rd (8 * a + b) := by
  intro n
  induction n with
  | zero => intro c _ h; omega
  | succ n ih =>
    intro c hc ha
    by_cases e : a < n
    · exact Nat.le_trans (arB_le rd sh n 8 _ b) (ih c hc e)
    · have e2 : a = n := by omega
      subst e2
      exact arB_relax rd sh a hx hr ho 8 _ (Nat.le_trans (arR_le rd sh a c a) hc) hb
/-- each year stands on another one -/
def sup (I c : Nat → Nat) : Prop := ∀ q, q < 8 → c q = I q ∨ ∃ a, a < 8 ∧ 0 < rd (8 * a + q) ∧ c a < 1000000 ∧ c a + rd (8 * a + q) ≤ c q ∧ opn sh q (c q) = true
theorem sup_E {I c : Nat → Nat} {a b : Nat} (ha : a < 8) (h : sup rd sh I c) : sup rd sh I (arE rd sh a b c) := by
  rcases arE_cases rd sh a b c with ⟨h1, h2, h3, h4, e⟩ | ⟨_, e⟩
  · rw [e]
    have hab : a ≠ b := fun z => by subst z; omega
    intro q hq
    by_cases qb : q = b
    · subst qb
      refine Or.inr ⟨a, ha, h2, ?_, ?_, ?_⟩
      · show (if a = q then _ else c a) < 1000000
        rw [if_neg hab]; exact h1
      · show (if a = q then _ else c a) + rd (8 * a + q) ≤ (if q = q then c a + rd (8 * a + q) else c q)
        rw [if_neg hab, if_pos rfl]; exact Nat.le_refl _
      · show opn sh q (if q = q then c a + rd (8 * a + q) else c q) = true
        rw [if_pos rfl]; exact h3
    · rcases h q hq with z | ⟨a', z1, z2, z3, z4, z5⟩
      · left
        show (if q = b then _ else c q) = I q
        rw [if_neg qb]; exact z
      · refine Or.inr ⟨a', z1, z2, ?_, ?_, ?_⟩
        · show (if a' = b then c a + rd (8 * a + b) else c a') < 1000000
          split
          · next z => subst z; omega
          · exact z3
        · show (if a' = b then c a + rd (8 * a + b) else c a') + rd (8 * a' + q) ≤ (if q = b then c a + rd (8 * a + b) else c q)
          rw [if_neg qb]
          split
          · next z => subst z; omega
          · exact z4
        · show opn sh q (if q = b then c a + rd (8 * a + b) else c q) = true
          rw [if_neg qb]; exact z5
  · rw [e]; exact h
theorem sup_B {I : Nat → Nat} {a : Nat} (ha : a < 8) : ∀ n c, sup rd sh I c → sup rd sh I (arB rd sh a n c) := by
  intro n
  induction n with
  | zero => intro c h; exact h
  | succ n ih => intro c h; exact sup_E rd sh ha (ih c h)
theorem sup_R {I : Nat → Nat} : ∀ n c, n ≤ 8 → sup rd sh I c → sup rd sh I (arR rd sh n c) := by
  intro n
  induction n with
  | zero => intro c _ h; exact h
  | succ n ih => intro c hn h; exact sup_B rd sh (by omega) 8 _ (ih c (by omega) h)
theorem sup_N {I : Nat → Nat} : ∀ n, sup rd sh I (arN rd sh n I) := by
  intro n
  induction n with
  | zero => intro q _; exact Or.inl rfl
  | succ n ih => exact sup_R rd sh 8 _ (Nat.le_refl _) ih
theorem arN_le (I : Nat → Nat) : ∀ n k p, arN rd sh (k + n) I p ≤ arN rd sh k I p := by
  intro n
  induction n with
  | zero => intro k p; exact Nat.le_refl _
  | succ n ih => intro k p; exact Nat.le_trans (arR_le rd sh 8 _ p) (ih k p)
theorem arN_hi (I : Nat → Nat) : ∀ n p, 8 ≤ p → arN rd sh n I p = I p := by
  intro n
  induction n with
  | zero => intro p _; rfl
  | succ n ih => intro p hp; exact (arR_hi rd sh 8 _ p hp).trans (ih p hp)
def sum8 (c : Nat → Nat) : Nat := c 0 + c 1 + c 2 + c 3 + c 4 + c 5 + c 6 + c 7
theorem eq8 {c d : Nat → Nat} (h : ∀ p, p < 8 → c p = d p) (hh : ∀ p, 8 ≤ p → c p = d p) : c = d := by
  funext p
  by_cases e : p < 8
  · exact h p e
  · exact hh p (by omega)
theorem arR_sum (c : Nat → Nat) : sum8 (arR rd sh 8 c) < sum8 c ∨ arR rd sh 8 c = c := by
  by_cases e : sum8 (arR rd sh 8 c) < sum8 c
  · exact Or.inl e
  · right
    apply eq8 _ (arR_hi rd sh 8 c)
    have h := arR_le rd sh 8 c
    unfold sum8 at e
    have h0 := h 0
    have h1 := h 1
    have h2 := h 2
    have h3 := h 3
    have h4 := h 4
    have h5 := h 5
    have h6 := h 6
    have h7 := h 7
    intro p hp
    have key : p = 0 ∨ p = 1 ∨ p = 2 ∨ p = 3 ∨ p = 4 ∨ p = 5 ∨ p = 6 ∨ p = 7 := by omega
    rcases key with rfl | rfl | rfl | rfl | rfl | rfl | rfl | rfl <;> omega
theorem arN_fix (I : Nat → Nat) : ∃ n, arR rd sh 8 (arN rd sh n I) = arN rd sh n I := by
  apply Classical.byContradiction
  intro z
  have h : ∀ n, sum8 (arN rd sh n I) + n ≤ sum8 I := by
    intro n
    induction n with
    | zero => exact Nat.le_refl _
    | succ n ih =>
      rcases arR_sum rd sh (arN rd sh n I) with q | q
      · have q2 : sum8 (arN rd sh (n + 1) I) < sum8 (arN rd sh n I) := q
        omega
      · exact absurd ⟨n, q⟩ z
  have := h (sum8 I + 1)
  omega
theorem arN_stay {I : Nat → Nat} {n : Nat} (h : arR rd sh 8 (arN rd sh n I) = arN rd sh n I) : ∀ k, arN rd sh (n + k) I = arN rd sh n I := by
  intro k
  induction k with
  | zero => rfl
  | succ k ih =>
    show arR rd sh 8 (arN rd sh (n + k) I) = _
    rw [ih]; exact h
theorem min_ex {P : Nat → Prop} (f : Nat → Nat) : ∀ n, (∃ q, P q ∧ f q ≤ n) → ∃ q, P q ∧ ∀ q', P q' → f q ≤ f q' := by
  intro n
  induction n with
  | zero =>
    rintro ⟨q, h1, h2⟩
    exact ⟨q, h1, fun q' _ => by omega⟩
  | succ n ih =>
    rintro ⟨q, h1, h2⟩
    by_cases e : ∃ q, P q ∧ f q ≤ n
    · exact ih e
    · refine ⟨q, h1, fun q' hq' => ?_⟩
      apply Decidable.byContradiction
      intro z
      exact e ⟨q', hq', by omega⟩
theorem cntB_mono {p q : Nat → Bool} : ∀ n, (∀ k, k < n → p k = true → q k = true) → cntB p n ≤ cntB q n := by
  intro n
  induction n with
  | zero => intro _; exact Nat.le_refl _
  | succ n ih =>
    intro h
    have h1 := ih (fun k hk => h k (by omega))
    have h2 := h n (by omega)
    show cntB p n + (if p n = true then 1 else 0) ≤ cntB q n + (if q n = true then 1 else 0)
    by_cases e : p n = true
    · rw [if_pos e, if_pos (h2 e)]; omega
    · rw [if_neg e]; omega
theorem cntB_more {p q : Nat → Bool} {x : Nat} (hp : p x = false) (hq : q x = true) : ∀ n, x < n → (∀ k, k < n → p k = true → q k = true) → cntB p n + 1 ≤ cntB q n := by
  intro n
  induction n with
  | zero => intro h; omega
  | succ n ih =>
    intro hx h
    have h2 := h n (by omega)
    show cntB p n + (if p n = true then 1 else 0) + 1 ≤ cntB q n + (if q n = true then 1 else 0)
    by_cases e : x < n
    · have h1 := ih e (fun k hk => h k (by omega))
      by_cases e2 : p n = true
      · rw [if_pos e2, if_pos (h2 e2)]; omega
      · rw [if_neg e2]; omega
    · have : x = n := by omega
      subst this
      have h1 := cntB_mono x (fun k hk => h k (by omega))
      rw [hp, hq, if_neg (by decide), if_pos rfl]; omega
theorem cntB_all {p : Nat → Bool} : ∀ n, n ≤ cntB p n → ∀ k, k < n → p k = true := by
  intro n
  induction n with
  | zero => intro _ k hk; omega
  | succ n ih =>
    intro h k hk
    have h' : n + 1 ≤ cntB p n + (if p n = true then 1 else 0) := h
    have hl := cntB_le p n
    by_cases e : p n = true
    · rw [if_pos e] at h'
      by_cases e2 : k < n
      · exact ih (by omega) k e2
      · have : k = n := by omega
        subst this; exact e
    · rw [if_neg e] at h'; omega
theorem ar7 (I : Nat → Nat) (hI : ∀ p, I p ≤ 1000000) : arN rd sh 8 I = arN rd sh 7 I := by
  obtain ⟨n, hn⟩ := arN_fix rd sh I
  have hst := arN_stay rd sh hn
  have hsup := sup_N rd sh (I := I) n
  have hle : ∀ k p, arN rd sh n I p ≤ arN rd sh k I p := by
    intro k p
    by_cases e : k ≤ n
    · have := arN_le rd sh I (n - k) k p
      rw [show k + (n - k) = n by omega] at this
      exact this
    · have := hst (k - n)
      rw [show n + (k - n) = k by omega] at this
      rw [this]; exact Nat.le_refl _
  have hI2 : ∀ k p, arN rd sh k I p ≤ I p := fun k p => by
    have := arN_le rd sh I k 0 p
    rw [Nat.zero_add] at this
    exact this
  have hgo : ∀ k, (∀ p, p < 8 → arN rd sh k I p = arN rd sh n I p) ∨ (∃ a, a < 8 ∧ arN rd sh k I a = arN rd sh n I a) ∧ ∃ q, q < 8 ∧ arN rd sh k I q ≠ arN rd sh n I q ∧ arN rd sh (k + 1) I q = arN rd sh n I q := by
    intro k
    by_cases e : ∃ q, q < 8 ∧ arN rd sh k I q ≠ arN rd sh n I q
    · right
      obtain ⟨q0, hq0⟩ := e
      obtain ⟨q, ⟨hq1, hq2⟩, hmin⟩ := min_ex (P := fun q => q < 8 ∧ arN rd sh k I q ≠ arN rd sh n I q) (arN rd sh n I) (arN rd sh n I q0) ⟨q0, hq0, Nat.le_refl _⟩
      have h1 := hle k q
      have h2 := hI2 k q
      have h3 := hI q
      rcases hsup q hq1 with z | ⟨a, z1, z2, z3, z4, z5⟩
      · omega
      · have ha : arN rd sh k I a = arN rd sh n I a := by
          apply Decidable.byContradiction
          intro w
          have := hmin a ⟨z1, w⟩
          omega
        refine ⟨⟨a, z1, ha⟩, q, hq1, hq2, ?_⟩
        have r := arR_relax rd sh (a := a) (b := q) (x := arN rd sh n I a) z3 z2 (opn_mono z5 z4) hq1 8 (arN rd sh k I) (by omega) z1
        have r2 : arN rd sh (k + 1) I q ≤ arN rd sh n I a + rd (8 * a + q) := r
        have := hle (k + 1) q
        omega
    · left
      intro p hp
      apply Decidable.byContradiction
      intro w
      exact e ⟨p, hp, w⟩
  have hall : ∀ k, (∀ p, p < 8 → arN rd sh k I p = arN rd sh n I p) → arN rd sh k I = arN rd sh n I := fun k h => eq8 h (fun p hp => by rw [arN_hi rd sh I k p hp, arN_hi rd sh I n p hp])
  have hcnt : ∀ k, (∀ p, p < 8 → arN rd sh k I p = arN rd sh n I p) ∨ k + 1 ≤ cntB (fun p => decide (arN rd sh k I p = arN rd sh n I p)) 8 := by
    intro k
    induction k with
    | zero =>
      rcases hgo 0 with h | ⟨⟨a, h1, h2⟩, -⟩
      · exact Or.inl h
      · right
        have h3 : cntB (fun _ => false) 8 = 0 := by decide
        have := cntB_more (p := fun _ => false) (q := fun p => decide (arN rd sh 0 I p = arN rd sh n I p)) (x := a) rfl (by simpa using h2) 8 h1 (fun k _ z => by cases z)
        omega
    | succ k ih =>
      rcases ih with h | h
      · left
        intro p hp
        have e := hall k h
        show arR rd sh 8 (arN rd sh k I) p = _
        rw [e, hn]
      · rcases hgo k with g | ⟨-, q, g1, g2, g3⟩
        · left
          intro p hp
          have e := hall k g
          show arR rd sh 8 (arN rd sh k I) p = _
          rw [e, hn]
        · right
          have := cntB_more (p := fun p => decide (arN rd sh k I p = arN rd sh n I p)) (q := fun p => decide (arN rd sh (k + 1) I p = arN rd sh n I p)) (x := q) (by simpa using g2) (by simpa using g3) 8 g1 (fun p _ z => by
            have z' : arN rd sh k I p = arN rd sh n I p := by simpa using z
            have h1 := hle (k + 1) p
            have h2 := arN_le rd sh I 1 k p
            simp only [decide_eq_true_eq]
            omega)
          omega
  have e7 : arN rd sh 7 I = arN rd sh n I := by
    apply hall
    rcases hcnt 7 with h | h
    · exact h
    · intro p hp
      have := cntB_all 8 h p hp
      simpa using this
  show arR rd sh 8 (arN rd sh 7 I) = arN rd sh 7 I
  rw [e7, hn]
/-- years are not too late -/
def bd (c : Nat → Nat) (M : Nat) : Prop := ∀ p, c p < 1000000 → c p ≤ M
theorem bd_E {c : Nat → Nat} {M a b : Nat} (hr : rd (8 * a + b) < 10) (h : bd c M) : bd (arE rd sh a b c) (M + 9) := by
  rcases arE_cases rd sh a b c with ⟨h1, h2, h3, h4, e⟩ | ⟨_, e⟩
  · rw [e]
    intro p
    show (if p = b then c a + rd (8 * a + b) else c p) < 1000000 → (if p = b then c a + rd (8 * a + b) else c p) ≤ M + 9
    have := h a h1
    have h5 := h p
    split
    · intro _; omega
    · intro z; have := h5 z; omega
  · rw [e]
    intro p z
    have := h p z
    omega
theorem bd_B {a : Nat} (hr : ∀ b, b < 8 → rd (8 * a + b) < 10) : ∀ n c M, n ≤ 8 → bd c M → bd (arB rd sh a n c) (M + 9 * n) := by
  intro n
  induction n with
  | zero => intro c M _ h; exact h
  | succ n ih =>
    intro c M hn h
    have := bd_E rd sh (a := a) (b := n) (hr n (by omega)) (ih c M (by omega) h)
    rw [show M + 9 * n + 9 = M + 9 * (n + 1) by omega] at this
    exact this
theorem bd_R (hr : ∀ k, k < 64 → rd k < 10) : ∀ n c M, n ≤ 8 → bd c M → bd (arR rd sh n c) (M + 72 * n) := by
  intro n
  induction n with
  | zero => intro c M _ h; exact h
  | succ n ih =>
    intro c M hn h
    have := bd_B rd sh (a := n) (fun b hb => hr _ (by omega)) 8 _ _ (Nat.le_refl _) (ih c M (by omega) h)
    rw [show M + 72 * n + 9 * 8 = M + 72 * (n + 1) by omega] at this
    exact this
theorem bd_N (hr : ∀ k, k < 64 → rd k < 10) {I : Nat → Nat} {M : Nat} (h : bd I M) : ∀ n, bd (arN rd sh n I) (M + 576 * n) := by
  intro n
  induction n with
  | zero => exact h
  | succ n ih =>
    have := bd_R rd sh hr 8 _ _ (Nat.le_refl _) ih
    rw [show M + 576 * n + 72 * 8 = M + 576 * (n + 1) by omega] at this
    exact this
end
theorem arI_le {sh : Nat → Nat} {p0 y0 : Nat} (hy : y0 < 1000) (p : Nat) : arI sh p0 y0 p ≤ 1000000 := by
  unfold arI
  split <;> omega
theorem bd_I {sh : Nat → Nat} {p0 y0 : Nat} (hy : y0 < 1000) : bd (arI sh p0 y0) 1000 := by
  intro p
  unfold arI
  split
  · intro _; omega
  · intro z; omega
