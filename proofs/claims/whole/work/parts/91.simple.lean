/-! ===== simple laws: what one can make of a word ===== -/
def sbs (f t : Nat) : List Nat → List Nat → Prop
  | [], o => o = []
  | x :: w, o => (∃ o', o = x :: o' ∧ sbs f t w o') ∨ (x = f ∧ ((t = 0 ∧ sbs f t w o) ∨ (t ≠ 0 ∧ ∃ o', o = t :: o' ∧ sbs f t w o')))
theorem fit_6 {V f c : Nat} (hf : 1 ≤ f ∧ f ≤ 6) (h : fitD V f c = true) : c = f := by
  unfold fitD at h
  rw [if_neg (by omega), if_neg (by omega), if_neg (by omega), if_neg (by omega)] at h
  exact beq_iff_eq.mp h
theorem sm_holds {V f t p : Nat} (hf : 1 ≤ f ∧ f ≤ 6) {w : List Nat} {k x : Nat} (hx : w[k]? = some x) (h : holdsK V (smL f t p) w k = true) : x = f := by
  unfold holdsK holdsD at h
  rw [Bool.and_eq_true, Bool.and_eq_true, cD_get hx] at h
  exact fit_6 hf h.1.1
theorem sbs_rn {V f t p : Nat} (hf : 1 ≤ f ∧ f ≤ 6) (ht : t ≤ 6) (w : List Nat) : ∀ (r j : Nat), j + r = w.length → sbs f t (w.drop j) ((List.range' j r).flatMap (stepW V (smL f t p) w)) := by
  intro r
  induction r with
  | zero =>
    intro j hj
    rw [List.drop_eq_nil_of_le (by omega)]
    rfl
  | succ r ih =>
    intro j hj
    have hjl : j < w.length := by omega
    have hx : w[j]? = some w[j] := List.getElem?_eq_getElem hjl
    rw [List.drop_eq_getElem_cons hjl, List.range'_succ, List.flatMap_cons]
    have ih1 := ih (j + 1) (by omega)
    have ec : cD w (j + 1) = w[j] := cD_get hx
    cases hh : holdsK V (smL f t p) w j with
    | false =>
      have es : stepW V (smL f t p) w j = [w[j]] := by unfold stepW; rw [hh, if_neg (by decide), ec]
      rw [es]
      exact Or.inl ⟨_, rfl, ih1⟩
    | true =>
      have ex : w[j] = f := sm_holds hf hx hh
      have es : stepW V (smL f t p) w j = toW t := by unfold stepW; rw [hh, if_pos rfl]; rfl
      rw [es]
      refine Or.inr ⟨ex, ?_⟩
      unfold toW
      by_cases t0 : t = 0
      · rw [if_pos t0]
        exact Or.inl ⟨t0, ih1⟩
      · rw [if_neg t0, if_pos (by omega)]
        exact Or.inr ⟨t0, _, rfl, ih1⟩
theorem sbs_len {f t : Nat} : ∀ (w o : List Nat), sbs f t w o → o.length ≤ w.length ∧ (t ≠ 0 → o.length = w.length) ∧ (t = 0 → o.length = w.length → w = o) := by
  intro w
  induction w with
  | nil =>
    intro o h
    have h' : o = [] := h
    subst h'
    exact ⟨Nat.le_refl _, fun _ => rfl, fun _ _ => rfl⟩
  | cons x w ih =>
    intro o h
    rcases h with ⟨o', rfl, h⟩ | ⟨rfl, ⟨t0, h⟩ | ⟨t0, o', rfl, h⟩⟩
    · obtain ⟨i1, i2, i3⟩ := ih o' h
      refine ⟨by simp only [List.length_cons]; omega, fun z => by simp only [List.length_cons]; rw [i2 z], fun z q => ?_⟩
      simp only [List.length_cons] at q
      rw [i3 z (by omega)]
    · obtain ⟨i1, i2, i3⟩ := ih o h
      refine ⟨by simp only [List.length_cons]; omega, fun z => absurd t0 z, fun z q => ?_⟩
      simp only [List.length_cons] at q
      omega
    · obtain ⟨i1, i2, i3⟩ := ih o' h
      exact ⟨by simp only [List.length_cons]; omega, fun z => by simp only [List.length_cons]; rw [i2 z], fun z => absurd z t0⟩
theorem sbs_run {V f t p : Nat} (hf : 1 ≤ f ∧ f ≤ 6) (ht : t ≤ 6) {w : List Nat} (hw : isW w) : sbs f t w (runW V (smL f t p) w) := by
  have h : sbs f t w (rnW V (smL f t p) w) := by
    have := sbs_rn (V := V) (p := p) hf ht w w.length 0 (by omega)
    rw [← List.range_eq_range'] at this
    exact this
  have hl := (sbs_len _ _ h).1
  have h8 := hw.1
  unfold runW
  rw [if_pos (by omega)]
  exact h
/-- the first place at which two words are unlike -/
def fj : List Nat → List Nat → Nat
  | x :: w, y :: o => if x = y then fj w o + 1 else 0
  | _, _ => 0
theorem fj_cons (x y : Nat) (w o : List Nat) : fj (x :: w) (y :: o) = if x = y then fj w o + 1 else 0 := rfl
theorem sbs_less {f : Nat} : ∀ (w o : List Nat), sbs f 0 w (f :: o) → sbs f 0 w o := by
  intro w
  induction w with
  | nil => intro o h; cases h
  | cons x w ih =>
    intro o h
    rcases h with ⟨o', e, h⟩ | ⟨rfl, ⟨t0, h⟩ | ⟨t0, o', e, h⟩⟩
    · obtain ⟨rfl, rfl⟩ := List.cons.inj e
      exact Or.inr ⟨rfl, Or.inl ⟨rfl, h⟩⟩
    · exact Or.inr ⟨rfl, Or.inl ⟨rfl, ih o h⟩⟩
    · exact absurd rfl t0
theorem sbs_from0 {f : Nat} : ∀ (w o : List Nat), sbs f 0 w o → w ≠ o → w.getD (fj w o) 0 = f := by
  intro w
  induction w with
  | nil => intro o h hn; exact absurd (show o = [] from h).symm hn
  | cons x w ih =>
    intro o h hn
    rcases h with ⟨o', rfl, h⟩ | ⟨rfl, ⟨t0, h⟩ | ⟨t0, o', e, h⟩⟩
    · rw [fj_cons, if_pos rfl]
      exact ih o' h (fun z => hn (by rw [z]))
    · cases o with
      | nil => rfl
      | cons y o =>
        rw [fj_cons]
        by_cases e : x = y
        · subst e
          rw [if_pos rfl]
          have h2 := sbs_less _ _ h
          refine ih o h2 (fun z => ?_)
          have := (sbs_len _ _ h).1
          rw [z, List.length_cons] at this
          omega
        · rw [if_neg e]
          rfl
    · exact absurd rfl t0
theorem sbs_fromt {f t : Nat} (ht : t ≠ 0) (hft : f ≠ t) : ∀ (w o : List Nat), sbs f t w o → w ≠ o → w.getD (fj w o) 0 = f ∧ o.getD (fj w o) 0 = t := by
  intro w
  induction w with
  | nil => intro o h hn; exact absurd (show o = [] from h).symm hn
  | cons x w ih =>
    intro o h hn
    rcases h with ⟨o', rfl, h⟩ | ⟨rfl, ⟨t0, h⟩ | ⟨t0, o', rfl, h⟩⟩
    · rw [fj_cons, if_pos rfl]
      exact ih o' h (fun z => hn (by rw [z]))
    · exact absurd t0 ht
    · rw [fj_cons, if_neg hft]
      exact ⟨rfl, rfl⟩
/-- FROM and TO of the only simple laws that can make o of w -/
def cfr (w o : List Nat) : Nat := w.getD (fj w o) 0
def cto (w o : List Nat) : Nat := if o.length < w.length then 0 else o.getD (fj w o) 0
theorem sbs_only {V f t p : Nat} (hf : 1 ≤ f ∧ f ≤ 6) (ht : t ≤ 6) (hft : t ≠ f) {w o : List Nat} (hw : isW w) (hn : w ≠ o) (h : runW V (smL f t p) w = o) : o.length ≤ w.length ∧ cfr w o = f ∧ cto w o = t := by
  have hs := sbs_run (V := V) (p := p) hf ht hw
  rw [h] at hs
  obtain ⟨l1, l2, l3⟩ := sbs_len _ _ hs
  refine ⟨l1, ?_, ?_⟩
  · by_cases t0 : t = 0
    · subst t0; exact sbs_from0 _ _ hs hn
    · exact (sbs_fromt t0 (fun z => hft z.symm) _ _ hs hn).1
  · unfold cto
    by_cases t0 : t = 0
    · rw [if_pos (by
        have : o.length ≠ w.length := fun z => hn (l3 t0 z)
        omega)]
      exact t0.symm
    · rw [if_neg (by rw [l2 t0]; omega)]
      exact (sbs_fromt t0 (fun z => hft z.symm) _ _ hs hn).2
theorem fj_spec : ∀ (w o : List Nat), (∀ x ∈ w, 1 ≤ x) → (∀ x ∈ o, 1 ≤ x) → w ≠ o → (∀ i, i < fj w o → w.getD i 0 = o.getD i 0) ∧ w.getD (fj w o) 0 ≠ o.getD (fj w o) 0 ∧ (o.length ≤ w.length → fj w o < w.length) ∧ fj w o ≤ w.length ∧ fj w o ≤ o.length := by
  intro w
  induction w with
  | nil =>
    intro o _ ho hn
    cases o with
    | nil => exact absurd rfl hn
    | cons y o =>
      have hy := ho y List.mem_cons_self
      refine ⟨fun i hi => absurd hi (Nat.not_lt_zero _), ?_, fun z => by simp at z, Nat.le_refl _, Nat.zero_le _⟩
      show (0 : Nat) ≠ y
      omega
  | cons x w ih =>
    intro o hw ho hn
    cases o with
    | nil =>
      have hx := hw x List.mem_cons_self
      refine ⟨fun i hi => absurd hi (Nat.not_lt_zero _), ?_, fun _ => Nat.succ_pos _, Nat.zero_le _, Nat.le_refl _⟩
      show x ≠ (0 : Nat)
      omega
    | cons y o =>
      rw [fj_cons]
      by_cases e : x = y
      · subst e
        rw [if_pos rfl]
        obtain ⟨i1, i2, i3, i4, i5⟩ := ih o (fun z hz => hw z (List.mem_cons_of_mem _ hz)) (fun z hz => ho z (List.mem_cons_of_mem _ hz)) (fun z => hn (by rw [z]))
        refine ⟨fun i hi => ?_, i2, fun z => ?_, ?_, ?_⟩
        · cases i with
          | zero => rfl
          | succ i => exact i1 i (by omega)
        · simp only [List.length_cons] at z ⊢
          have := i3 (by omega)
          omega
        · simp only [List.length_cons]; omega
        · simp only [List.length_cons]; omega
      · rw [if_neg e]
        exact ⟨fun i hi => absurd hi (Nat.not_lt_zero _), e, fun _ => Nat.succ_pos _, Nat.zero_le _, Nat.zero_le _⟩
theorem getD_le6 {w : List Nat} (hw : isW w) (j : Nat) : w.getD j 0 ≤ 6 := by
  rw [List.getD_eq_getElem?_getD]
  cases hx : w[j]? with
  | none => exact Nat.zero_le _
  | some x => exact (hw.2 x (List.mem_of_getElem? hx)).2
theorem cft_ok {w o : List Nat} (hw : isW w) (ho : isW o) (hn : w ≠ o) (hl : o.length ≤ w.length) : (1 ≤ cfr w o ∧ cfr w o ≤ 6) ∧ cto w o ≤ 6 ∧ cto w o ≠ cfr w o := by
  obtain ⟨i1, i2, i3, i4, i5⟩ := fj_spec w o (fun x hx => (hw.2 x hx).1) (fun x hx => (ho.2 x hx).1) hn
  have hj := i3 hl
  have h1 : 1 ≤ cfr w o := by
    unfold cfr
    rw [List.getD_eq_getElem?_getD, List.getElem?_eq_getElem hj]
    exact (hw.2 _ (List.getElem_mem hj)).1
  have h2 : cfr w o ≤ 6 := getD_le6 hw _
  refine ⟨⟨h1, h2⟩, ?_, ?_⟩
  · unfold cto
    split
    · omega
    · exact getD_le6 ho _
  · unfold cto
    split
    · omega
    · exact fun z => i2 z.symm
/-- the number of a simple law -/
def sN (f t p : Nat) : Nat := 114 * (f - 1) + 19 * (if t < f then t else t - 1) + p
theorem sN_ok {f t p : Nat} (hf : 1 ≤ f ∧ f ≤ 6) (ht : t ≤ 6) (hft : t ≠ f) (hp : p < 19) : sN f t p < 684 ∧ sN f t p / 114 + 1 = f ∧ s_to (sN f t p) = t ∧ sN f t p % 19 = p := by
  unfold s_to sN
  by_cases h : t < f
  · rw [if_pos h]
    have e1 : (114 * (f - 1) + 19 * t + p) / 114 = f - 1 := by omega
    have e2 : (114 * (f - 1) + 19 * t + p) / 19 % 6 = t := by omega
    rw [e1, e2, if_pos (by omega)]
    omega
  · rw [if_neg h]
    have e1 : (114 * (f - 1) + 19 * (t - 1) + p) / 114 = f - 1 := by omega
    have e2 : (114 * (f - 1) + 19 * (t - 1) + p) / 19 % 6 = t - 1 := by omega
    rw [e1, e2, if_neg (by omega)]
    omega
theorem sL_eq (s : Nat) : sL s = smL (s / 114 + 1) (s_to s) (s % 19) := rfl
theorem sL_sN {f t p : Nat} (hf : 1 ≤ f ∧ f ≤ 6) (ht : t ≤ 6) (hft : t ≠ f) (hp : p < 19) : sL (sN f t p) = smL f t p := by
  obtain ⟨-, e1, e2, e3⟩ := sN_ok hf ht hft hp
  rw [sL_eq, e1, e2, e3]
theorem s_rng {s : Nat} (hs : s < 684) : (1 ≤ s / 114 + 1 ∧ s / 114 + 1 ≤ 6) ∧ s_to s ≤ 6 ∧ s_to s ≠ s / 114 + 1 ∧ s % 19 < 19 ∧ sN (s / 114 + 1) (s_to s) (s % 19) = s := by
  have h1 : s / 114 ≤ 5 := by omega
  have h2 : s / 19 % 6 ≤ 5 := by omega
  refine ⟨by omega, ?_, ?_, by omega, ?_⟩
  · unfold s_to; split <;> omega
  · unfold s_to; split <;> omega
  · unfold sN s_to
    by_cases h : s / 19 % 6 < s / 114 + 1
    · rw [if_pos h, if_pos h]; omega
    · rw [if_neg h, if_neg (by omega)]; omega
/-- whether a simple law makes of all words the others -/
def mkS (V n f t p : Nat) (ws pt : Nat → List Nat) : Bool := (List.range n).all (fun i => runW V (smL f t p) (ws i) == pt i)
theorem mkAll_eq (V n s : Nat) (ws pt : Nat → List Nat) : mkAll V n s ws pt = mkS V n (s / 114 + 1) (s_to s) (s % 19) ws pt := rfl
theorem mkS_iff {V n f t p : Nat} {ws pt : Nat → List Nat} : mkS V n f t p ws pt = true ↔ ∀ i, i < n → runW V (smL f t p) (ws i) = pt i := by
  unfold mkS
  rw [List.all_eq_true]
  constructor
  · intro h i hi
    exact beq_iff_eq.mp (h i (List.mem_range.mpr hi))
  · intro h i hi
    exact beq_iff_eq.mpr (h i (List.mem_range.mp hi))
theorem same_iff {n : Nat} {ws pt : Nat → List Nat} : same n ws pt = true ↔ ∀ i, i < n → ws i = pt i := by
  unfold same
  rw [List.all_eq_true]
  constructor
  · intro h i hi
    exact beq_iff_eq.mp (h i (List.mem_range.mpr hi))
  · intro h i hi
    exact beq_iff_eq.mpr (h i (List.mem_range.mp hi))
/-- the least number with something -/
theorem fnd_some {P : Nat → Bool} {n k : Nat} : (List.range n).find? P = some k ↔ P k = true ∧ k < n ∧ ∀ j, j < k → P j = false := by
  rw [List.find?_range_eq_some, List.mem_range]
  constructor
  · rintro ⟨a, b, c⟩; exact ⟨a, b, fun j hj => by simpa using c j hj⟩
  · rintro ⟨a, b, c⟩; exact ⟨a, b, fun j hj => by simpa using c j hj⟩
theorem fnd_none {P : Nat → Bool} {n : Nat} : (List.range n).find? P = none ↔ ∀ j, j < n → P j = false := by
  rw [List.find?_range_eq_none]
  constructor
  · intro h j hj; simpa using h j hj
  · intro h j hj; simpa using h j hj
/-- where the words are unlike first, FROM and TO are known -/
theorem fst_unlike {V n u : Nat} {ws pt : Nat → List Nat} (hu : u < n) (hw : isW (ws u)) (hn : ws u ≠ pt u) {s : Nat} (hs : s < 684) (h : mkAll V n s ws pt = true) : (pt u).length ≤ (ws u).length ∧ cfr (ws u) (pt u) = s / 114 + 1 ∧ cto (ws u) (pt u) = s_to s := by
  rw [mkAll_eq, mkS_iff] at h
  obtain ⟨a, b, c, -, -⟩ := s_rng hs
  exact sbs_only a b c hw hn (h u hu)
theorem fstS_short {V n u : Nat} {ws pt : Nat → List Nat} (hu : u < n) (hw : isW (ws u)) (hn : ws u ≠ pt u) (hl : ¬ (pt u).length ≤ (ws u).length) : fstS V n ws pt = none := by
  unfold fstS
  rw [fnd_none]
  intro s hs
  cases h : mkAll V n s ws pt with
  | false => rfl
  | true => exact absurd (fst_unlike hu hw hn hs h).1 hl
theorem fstS_at {V n u p : Nat} {ws pt : Nat → List Nat} (hu : u < n) (hw : isW (ws u)) (ho : isW (pt u)) (hn : ws u ≠ pt u) (hl : (pt u).length ≤ (ws u).length) (hp : p < 19) (h : mkS V n (cfr (ws u) (pt u)) (cto (ws u) (pt u)) p ws pt = true) (hb : ∀ q, q < p → mkS V n (cfr (ws u) (pt u)) (cto (ws u) (pt u)) q ws pt = false) : fstS V n ws pt = some (sN (cfr (ws u) (pt u)) (cto (ws u) (pt u)) p) := by
  obtain ⟨c1, c2, c3⟩ := cft_ok hw ho hn hl
  obtain ⟨s1, s2, s3, s4⟩ := sN_ok c1 c2 c3 hp
  unfold fstS
  rw [fnd_some]
  refine ⟨by rw [mkAll_eq, s2, s3, s4]; exact h, s1, fun j hj => ?_⟩
  cases hx : mkAll V n j ws pt with
  | false => rfl
  | true =>
    obtain ⟨-, f1, f2⟩ := fst_unlike hu hw hn (show j < 684 by omega) hx
    obtain ⟨-, -, -, r4, r5⟩ := s_rng (show j < 684 by omega)
    rw [mkAll_eq, ← f1, ← f2] at hx
    rw [← f1, ← f2] at r5
    by_cases q : j % 19 < p
    · rw [hb _ q] at hx; cases hx
    · unfold sN at r5 hj
      omega
theorem fstS_no {V n u : Nat} {ws pt : Nat → List Nat} (hu : u < n) (hw : isW (ws u)) (hn : ws u ≠ pt u) (hb : ∀ q, q < 19 → mkS V n (cfr (ws u) (pt u)) (cto (ws u) (pt u)) q ws pt = false) : fstS V n ws pt = none := by
  unfold fstS
  rw [fnd_none]
  intro j hj
  cases hx : mkAll V n j ws pt with
  | false => rfl
  | true =>
    obtain ⟨-, f1, f2⟩ := fst_unlike hu hw hn hj hx
    rw [mkAll_eq, ← f1, ← f2, hb _ (by omega)] at hx
    cases hx
