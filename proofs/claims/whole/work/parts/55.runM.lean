/-! ===== the reference runs a law over the word at hand ===== -/
theorem mW_fr {P : Nat → Nat → Nat → Prop} {h h' : z_H} {w : List Nat} (f : fr P h h') (h1 : ¬ P 49100 0 37) (h2 : ∀ i, ¬ P 8681 0 i) (hW : mW h w) : mW h' w := ⟨(f.2 _ _ _ h1).trans hW.1, fun i x hx => (f.2 _ _ _ (h2 i)).trans (hW.2 i x hx)⟩
theorem mL_fr {P : Nat → Nat → Nat → Prop} {h h' : z_H} {j : Nat} {L : Lw} (f : fr P h h') (h1 : ∀ p k, P p 0 k → p ≠ 25431 ∧ p ≠ 25441 ∧ p ≠ 50453 ∧ p ≠ 50461 ∧ p ≠ 50471) (hm : mL h j L) : mL h' j L := by
  obtain ⟨g1, g2, g3, g4, g5, g6⟩ := hm
  refine ⟨(f.2 _ _ _ (fun z => (h1 _ _ z).1 rfl)).trans g1, (f.2 _ _ _ (fun z => (h1 _ _ z).2.1 rfl)).trans g2, (f.2 _ _ _ (fun z => (h1 _ _ z).2.2.1 rfl)).trans g3, (f.2 _ _ _ (fun z => (h1 _ _ z).2.2.1 rfl)).trans g4, fun q => ⟨(f.2 _ _ _ (fun z => (h1 _ _ z).2.2.2.1 rfl)).trans (g5 q).1, (f.2 _ _ _ (fun z => (h1 _ _ z).2.2.2.2 rfl)).trans (g5 q).2⟩, fun q => ⟨(f.2 _ _ _ (fun z => (h1 _ _ z).2.2.2.1 rfl)).trans (g6 q).1, (f.2 _ _ _ (fun z => (h1 _ _ z).2.2.2.2 rfl)).trans (g6 q).2⟩⟩
theorem tW_laws : ∀ p k, tW p 0 k → p ≠ 25431 ∧ p ≠ 25441 ∧ p ≠ 50453 ∧ p ≠ 50461 ∧ p ≠ 50471 := by
  rintro p k (rfl | rfl | ⟨rfl, -⟩) <;> decide
/-- a row of ints holds digits, each less by one -/
def hasR (h : z_H) (p i : Nat) (o : List Nat) : Prop := ∀ (k x : Nat), o[k]? = some x → gI h p i k = nI (x - 1)
theorem hasR_push {h : z_H} {p i : Nat} {o : List Nat} {x : Nat} (hR : hasR h p i o) : hasR (pI h p i o.length (nI (x - 1))) p i (o ++ [x]) := by
  intro k y hy
  rw [gI_pI]
  by_cases hk : k < o.length
  · rw [List.getElem?_append_left hk] at hy
    rw [if_neg (fun z => by omega)]
    exact hR k y hy
  · rw [List.getElem?_append_right (by omega)] at hy
    have h1 := (List.getElem?_eq_some_iff.mp hy).1
    simp only [List.length_cons, List.length_nil] at h1
    have h2 : k = o.length := by omega
    subst h2
    rw [Nat.sub_self] at hy
    cases hy
    rw [if_pos ⟨rfl, rfl, rfl⟩]
abbrev pT : Nat → Nat → Nat → Prop := fun p _ _ => p = 16691
theorem pT_no {p i k : Nat} (h : (p == 16691) = false) : ¬ pT p i k := by simpa using h
theorem range_flat (f : Nat → List Nat) (k : Nat) : (List.range (k + 1)).flatMap f = (List.range k).flatMap f ++ f k := by
  rw [List.range_succ, List.flatMap_append]
  simp
theorem flat_len {f : Nat → List Nat} (hf : ∀ k, (f k).length ≤ 2) : ∀ n, ((List.range n).flatMap f).length ≤ 2 * n := by
  intro n
  induction n with
  | zero => simp
  | succ n ih => rw [range_flat, List.length_append]; have := hf n; omega
theorem m_run_to (d : Nat) {h : z_H} (m : mOK h) {j : Nat} (hj : j < 25) {L : Lw} (hL : okL L) (hm : mL h j L) {o : List Nat} (ho : o.length ≤ 14) (hR : hasR h 16691 0 o) (k : Nat) :
    ∃ h', EX d 154 39 [z_R 49100 0, z_I (nI j), z_I (nI o.length), z_I (nI k)] [] h = EX d 154 99 [z_R 49100 0, z_I (nI j), z_I (nI (o ++ toW (L 1)).length), z_I (nI k)] [] h' ∧ hasR h' 16691 0 (o ++ toW (L 1)) ∧ fr pT h h' := by
  obtain ⟨l0, l1, l2, l34, l5, l67⟩ := hL
  have g2 := hm.2.1
  have ht : L 1 ≤ 48 := by rcases l1 with z | z <;> omega
  have e7 : (7 : Int32) = nI 7 := rfl
  have hin : z_in (nI j) 25 = true := by rw [q_in (by omega)]; simp; omega
  -- the second half, from 70 on
  have half : ∀ (h : z_H) (o : List Nat), mOK h → gI h 25441 0 j = nI (L 1) → o.length ≤ 15 → hasR h 16691 0 o → ∃ h', EX d 154 70 [z_R 49100 0, z_I (nI j), z_I (nI o.length), z_I (nI k)] [] h = EX d 154 99 [z_R 49100 0, z_I (nI j), z_I (nI (o ++ (if L 1 = 0 then [] else [L 1 % 7])).length), z_I (nI k)] [] h' ∧ hasR h' 16691 0 (o ++ (if L 1 = 0 then [] else [L 1 % 7])) ∧ fr pT h h' := by
    intro h o m g2 ho hR
    rw [bX11_runLaw_70, if_pos (m 3 rfl), if_pos hin, nI_clamp (by omega), g2]
    by_cases h0 : L 1 = 0
    · refine ⟨h, ?_, ?_, fr_rfl _ _⟩
      · rw [if_pos (by rw [q_le0 (by omega)]; exact h0), if_pos h0, List.append_nil]
      · rw [if_pos h0, List.append_nil]; exact hR
    · have hmod : 1 ≤ L 1 % 7 := by rcases l1 with z | z <;> omega
      have e3 : nI (L 1 % 7) - 1 = nI (L 1 % 7 - 1) := q_sub (b := 1) hmod
      refine ⟨pI h 16691 0 o.length (nI (L 1 % 7 - 1)), ?_, ?_, fr_pI (P := pT) h _ rfl⟩
      · rw [if_neg (by rw [q_le0 (by omega)]; exact h0), if_pos (m 38 rfl), if_pos (m 3 rfl), if_pos hin, if_pos (by rw [q_in (by omega)]; simp; omega), q_rem7 (by omega), e3, nI_clamp (by omega), if_neg h0, List.length_append, nI_1]
        rfl
      · rw [if_neg h0]; exact hasR_push hR
  rw [bX11_runLaw_39, if_pos (m 3 rfl), if_pos hin, nI_clamp (by omega), g2]
  by_cases h7 : L 1 < 7
  · obtain ⟨h', q1, q2, q3⟩ := half h o m g2 (by omega) hR
    have e : toW (L 1) = if L 1 = 0 then [] else [L 1 % 7] := by unfold toW; rw [if_pos h7, Nat.mod_eq_of_lt h7]
    rw [e]
    refine ⟨h', ?_, q2, q3⟩
    rw [if_pos (by rw [e7, nI_ltI (by omega) (by omega)]; exact h7)]
    exact q1
  · have hd : 1 ≤ L 1 / 7 := by omega
    have e3 : nI (L 1 / 7) - 1 = nI (L 1 / 7 - 1) := q_sub (b := 1) hd
    obtain ⟨h', q1, q2, q3⟩ := half (pI h 16691 0 o.length (nI (L 1 / 7 - 1))) (o ++ [L 1 / 7]) (fr_mOK (fr_pI (P := pT) h _ rfl) m) (((fr_pI (P := pT) h _ rfl).2 _ _ _ (pT_no rfl)).trans g2) (by rw [List.length_append]; simp; omega) (hasR_push hR)
    have e : o ++ toW (L 1) = o ++ [L 1 / 7] ++ (if L 1 = 0 then [] else [L 1 % 7]) := by unfold toW; rw [if_neg (by omega), if_neg h7, if_neg (by omega), List.append_assoc]; rfl
    rw [e]
    refine ⟨h', ?_, q2, fr_trans (fr_pI (P := pT) h _ rfl) q3⟩
    rw [if_neg (by rw [e7, nI_ltI (by omega) (by omega)]; exact h7), if_pos (m 38 rfl), if_pos (m 3 rfl), if_pos hin, if_pos (by rw [q_in (by omega)]; simp; omega), q_div7 (by omega), e3, nI_clamp (by omega), nI_1, ← q1, List.length_append]
    rfl
theorem m_run_loop (d : Nat) {V : Nat} (hV6 : V < 64) {w : List Nat} (hw : isW w) {j : Nat} (hj : j < 25) {L : Lw} (hL : okL L) : ∀ (r k : Nat) (h : z_H), mOK h → gI h 49100 0 0 = nI V → mW h w → mL h j L → k + r = w.length → hasR h 16691 0 ((List.range k).flatMap (stepW V L w)) →
    ∃ h', EX (d + 5) 154 4 [z_R 49100 0, z_I (nI j), z_I (nI ((List.range k).flatMap (stepW V L w)).length), z_I (nI k)] [] h = EX (d + 5) 154 105 [z_R 49100 0, z_I (nI j), z_I (nI (rnW V L w).length), z_I (nI w.length)] [] h' ∧ hasR h' 16691 0 (rnW V L w) ∧ fr pT h h' := by
  have h8 := hw.1
  intro r
  induction r with
  | zero =>
    intro k h m hV hW hm hk hR
    have hk : k = w.length := by omega
    subst hk
    refine ⟨h, ?_, hR, fr_rfl _ _⟩
    rw [bX11_runLaw_4, hW.1, if_pos (by rw [nI_leI (by omega) (by omega)]; omega)]
    rfl
  | succ r ih =>
    intro k h m hV hW hm hk hR
    have hkl : k < w.length := by omega
    have hlen := flat_len (stepW_len V L w) k
    have hx : w[k]? = some (w[k]) := List.getElem?_eq_getElem hkl
    have key : ∃ h', EX (d + 5) 154 4 [z_R 49100 0, z_I (nI j), z_I (nI ((List.range k).flatMap (stepW V L w)).length), z_I (nI k)] [] h = EX (d + 5) 154 99 [z_R 49100 0, z_I (nI j), z_I (nI ((List.range k).flatMap (stepW V L w) ++ stepW V L w k).length), z_I (nI k)] [] h' ∧ hasR h' 16691 0 ((List.range k).flatMap (stepW V L w) ++ stepW V L w k) ∧ fr pT h h' := by
      generalize (List.range k).flatMap (stepW V L w) = O at hlen hR ⊢
      rw [bX11_runLaw_4, hW.1, if_neg (by rw [nI_leI (by omega) (by omega)]; omega), m_holdsAt d m hV hV6 hw hW hj hL hm hkl, q_cl, q_ps, bX11_runLaw_18]
      unfold stepW
      cases holdsK V L w k with
      | true =>
        rw [if_pos (by decide)]
        exact m_run_to (d + 5) m hj hL hm (by omega) hR k
      | false =>
        refine ⟨pI h 16691 0 O.length (nI (w[k] - 1)), ?_, ?_, fr_pI (P := pT) h _ rfl⟩
        · rw [if_neg (by decide), if_pos (m 38 rfl), if_pos (m 36 rfl), if_pos (by rw [q_in (by omega)]; simp; omega), if_pos (by rw [q_in (by omega)]; simp; omega), nI_clamp (by omega), nI_clamp (by omega), hW.2 _ _ hx, nI_1]
          simp only [Bool.false_eq_true, if_false, List.length_append, List.length_cons, List.length_nil]
        · simp only [Bool.false_eq_true, if_false]
          rw [cD_get hx]
          exact hasR_push hR
    obtain ⟨h1, q1, q2, q3⟩ := key
    rw [← range_flat] at q1 q2
    obtain ⟨h2, p1, p2, p3⟩ := ih (k + 1) h1 (fr_mOK q3 m) ((q3.2 _ _ _ (pT_no rfl)).trans hV) (mW_fr q3 (pT_no rfl) (fun _ => pT_no rfl) hW) (mL_fr q3 (fun p _ z => by cases z; decide) hm) (by omega) q2
    refine ⟨h2, ?_, p2, fr_trans q3 p3⟩
    rw [q1, bX11_runLaw_99, nI_1, p1]
theorem m_run_copy (d : Nat) (x1 : Int32) {o : List Nat} (ho : o.length ≤ 8) : ∀ (r k : Nat) (h : z_H), mOK h → k + r = o.length → hasR h 16691 0 o → (∀ (i x : Nat), i < k → o[i]? = some x → gI h 8681 0 i = nI (x - 1)) →
    ∃ h', EX d 154 113 [z_R 49100 0, z_I x1, z_I (nI o.length), z_I (nI k)] [] h = some (none, h') ∧ mW h' o ∧ fr tW h h' := by
  intro r
  induction r with
  | zero =>
    intro k h m hk hR hc
    have hk : k = o.length := by omega
    subst hk
    refine ⟨pI h 49100 0 37 (nI o.length), ?_, ⟨?_, fun i x hx => ?_⟩, fr_pI h _ (Or.inr (Or.inr ⟨rfl, rfl⟩))⟩
    · rw [bX11_runLaw_113, if_pos (by rw [nI_leI (by omega) (by omega)]; omega), bX11_runLaw_136, bX11_runLaw_141]
    · rw [gI_pI, if_pos ⟨rfl, rfl, rfl⟩]
    · rw [gI_pI, if_neg (by intro z; omega)]
      exact hc i x (List.getElem?_eq_some_iff.mp hx).1 hx
  | succ r ih =>
    intro k h m hk hR hc
    have hkl : k < o.length := by omega
    have hx : o[k]? = some (o[k]) := List.getElem?_eq_getElem hkl
    have f1 : fr tW h (pI h 8681 0 k (gI h 16691 0 k)) := fr_pI h _ (Or.inl rfl)
    obtain ⟨h2, p1, p2, p3⟩ := ih (k + 1) (pI h 8681 0 k (gI h 16691 0 k)) (fr_mOK f1 m) (by omega) (fun i x hi => by rw [gI_pI, if_neg (by intro z; omega)]; exact hR i x hi) (fun i x hi hx2 => by
      rw [gI_pI]
      by_cases hik : i = k
      · subst hik
        rw [if_pos ⟨rfl, rfl, rfl⟩]
        exact hR i x hx2
      · rw [if_neg (fun z => hik z.2.2)]
        exact hc i x (by omega) hx2)
    refine ⟨h2, ?_, p2, fr_trans f1 p3⟩
    rw [bX11_runLaw_113, if_neg (by rw [nI_leI (by omega) (by omega)]; omega), if_pos (m 36 rfl), if_pos (m 38 rfl), if_pos (by rw [q_in (by omega)]; simp; omega), if_pos (by rw [q_in (by omega)]; simp; omega), nI_clamp (by omega), nI_1]
    exact p1
theorem m_runLaw (d : Nat) {h : z_H} (m : mOK h) {V : Nat} (hV : gI h 49100 0 0 = nI V) (hV6 : V < 64) {w : List Nat} (hw : isW w) (hW : mW h w) {j : Nat} (hj : j < 25) {L : Lw} (hL : okL L) (hm : mL h j L) :
    ∃ h', Rn (d + 6) 154 [z_R 49100 0, z_I (nI j)] h = some (none, h') ∧ mW h' (runW V L w) ∧ fr tW h h' := by
  obtain ⟨h1, q1, q2, q3⟩ := m_run_loop d hV6 hw hj hL w.length 0 h m hV hW hm (by omega) (fun k x hx => by simp at hx)
  have f1 : fr tW h h1 := fr_mono q3 (fun p i k z => Or.inr (Or.inl z))
  have h8 := hw.1
  have hlen : (rnW V L w).length ≤ 16 := Nat.le_trans (flat_len (stepW_len V L w) w.length) (by omega)
  have e8 : (8 : Int32) = nI 8 := rfl
  have e0 : Rn (d + 6) 154 [z_R 49100 0, z_I (nI j)] h = EX (d + 5) 154 105 [z_R 49100 0, z_I (nI j), z_I (nI (rnW V L w).length), z_I (nI w.length)] [] h1 := by
    rw [rX11_runLaw, bX11_runLaw_0]
    exact q1
  unfold runW
  by_cases hl : (rnW V L w).length ≤ 8
  · obtain ⟨h2, p1, p2, p3⟩ := m_run_copy (d + 5) (nI j) hl (rnW V L w).length 0 h1 (fr_mOK f1 m) (by omega) q2 (fun i x hi => by omega)
    refine ⟨h2, ?_, by rw [if_pos hl]; exact p2, fr_trans f1 p3⟩
    rw [e0, bX11_runLaw_105, if_neg (by rw [e8, nI_ltI (by omega) (by omega)]; omega)]
    exact p1
  · refine ⟨h1, ?_, ?_, f1⟩
    · rw [e0, bX11_runLaw_105, if_pos (by rw [e8, nI_ltI (by omega) (by omega)]; omega), bX11_runLaw_141]
    · rw [if_neg hl]
      exact mW_fr q3 (pT_no rfl) (fun _ => pT_no rfl) hW
