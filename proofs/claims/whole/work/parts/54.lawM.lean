/-! ===== laws: what they are, and how the reference runs them ===== -/
/-- marks: 0 none, 1 to 6 sounds, 7 V, 8 C, 9 #; as an int one less -/
def mkI (k : Nat) : Int32 := nI k - 1
theorem mkI_pos {k : Nat} (h : 1 ≤ k) : mkI k = nI (k - 1) := q_sub (b := 1) h
/-- whether a mark fits a digit (0: an end) when the vowels are V -/
def fitD (V mk c : Nat) : Bool := if mk = 0 then true else if mk = 9 then c == 0 else if mk = 7 then (c != 0 && V.testBit (c - 1)) else if mk = 8 then (c != 0 && !V.testBit (c - 1)) else c == mk
/-- a law: 0 FROM, 1 TO, 2 whether it has a place, 3 ahead, 4 behind, 5 whether it has a bar, 6 ahead, 7 behind -/
abbrev Lw : Type := Nat → Nat
def holdsD (V : Nat) (L : Lw) (p c n : Nat) : Bool := fitD V (L 0) c && (L 2 == 0 || (fitD V (L 3) p && fitD V (L 4) n)) && !(L 5 != 0 && (fitD V (L 6) p && fitD V (L 7) n))
/-- the digit ahead of the place j: 0 ahead of the first and behind the last -/
def cD (w : List Nat) (j : Nat) : Nat := if j = 0 then 0 else w.getD (j - 1) 0
def holdsK (V : Nat) (L : Lw) (w : List Nat) (k : Nat) : Bool := holdsD V L (cD w k) (cD w (k + 1)) (cD w (k + 2))
def toW (t : Nat) : List Nat := if t = 0 then [] else if t < 7 then [t] else [t / 7, t % 7]
def stepW (V : Nat) (L : Lw) (w : List Nat) (k : Nat) : List Nat := if holdsK V L w k then toW (L 1) else [cD w (k + 1)]
def rnW (V : Nat) (L : Lw) (w : List Nat) : List Nat := (List.range w.length).flatMap (stepW V L w)
def runW (V : Nat) (L : Lw) (w : List Nat) : List Nat := if (rnW V L w).length ≤ 8 then rnW V L w else w
def okT (t : Nat) : Prop := t ≤ 6 ∨ (1 ≤ t / 7 ∧ t / 7 ≤ 6 ∧ 1 ≤ t % 7)
def okL (L : Lw) : Prop := (1 ≤ L 0 ∧ L 0 ≤ 8) ∧ okT (L 1) ∧ (L 2 = 0 ∨ L 2 = 1) ∧ (L 3 ≤ 9 ∧ L 4 ≤ 9) ∧ (L 5 = 0 ∨ L 5 = 1) ∧ (L 6 ≤ 9 ∧ L 7 ≤ 9)
theorem toW_ok {t : Nat} (h : okT t) : ∀ x ∈ toW t, 1 ≤ x ∧ x ≤ 6 := by
  intro x hx
  unfold toW at hx
  split at hx
  · cases hx
  · split at hx
    · rcases List.mem_singleton.mp hx with rfl
      omega
    · simp only [List.mem_cons, List.not_mem_nil, or_false] at hx
      rcases h with h | h
      · omega
      · rcases hx with rfl | rfl
        · exact ⟨h.1, h.2.1⟩
        · exact ⟨h.2.2, by omega⟩
theorem toW_len (t : Nat) : (toW t).length ≤ 2 := by
  unfold toW
  split
  · decide
  · split <;> simp
theorem cD_mem {w : List Nat} {k : Nat} (h : k < w.length) : cD w (k + 1) ∈ w := by
  unfold cD
  rw [if_neg (by omega), Nat.add_sub_cancel, List.getD_eq_getElem?_getD, List.getElem?_eq_getElem h]
  exact List.getElem_mem h
theorem cD_get {w : List Nat} {k x : Nat} (h : w[k]? = some x) : cD w (k + 1) = x := by
  unfold cD
  rw [if_neg (by omega), Nat.add_sub_cancel, List.getD_eq_getElem?_getD, h]
  rfl
theorem cD_end (w : List Nat) : cD w (w.length + 1) = 0 := by
  unfold cD
  rw [if_neg (by omega), Nat.add_sub_cancel, List.getD_eq_getElem?_getD, List.getElem?_eq_none (Nat.le_refl _)]
  rfl
theorem stepW_ok {V : Nat} {L : Lw} {w : List Nat} (hL : okL L) (hw : isW w) {k : Nat} (hk : k < w.length) : ∀ x ∈ stepW V L w k, 1 ≤ x ∧ x ≤ 6 := by
  intro x hx
  unfold stepW at hx
  split at hx
  · exact toW_ok hL.2.1 x hx
  · rcases List.mem_singleton.mp hx with rfl
    exact hw.2 _ (cD_mem hk)
theorem stepW_len (V : Nat) (L : Lw) (w : List Nat) (k : Nat) : (stepW V L w k).length ≤ 2 := by
  unfold stepW
  split
  · exact toW_len _
  · simp
theorem runW_ok {V : Nat} {L : Lw} {w : List Nat} (hL : okL L) (hw : isW w) : isW (runW V L w) := by
  unfold runW
  split
  · next h =>
    refine ⟨h, fun x hx => ?_⟩
    unfold rnW at hx
    obtain ⟨k, h1, h2⟩ := List.mem_flatMap.mp hx
    exact stepW_ok hL hw (List.mem_range.mp h1) x h2
  · exact hw
/-! the reference's law j -/
def mL (h : z_H) (j : Nat) (L : Lw) : Prop := gI h 25431 0 j = mkI (L 0) ∧ gI h 25441 0 j = nI (L 1) ∧ gI h 50453 0 (2 * j) = nI (L 2) ∧ gI h 50453 0 (2 * j + 1) = nI (L 5) ∧
  (L 2 = 1 → gI h 50461 0 (2 * j) = mkI (L 3) ∧ gI h 50471 0 (2 * j) = mkI (L 4)) ∧ (L 5 = 1 → gI h 50461 0 (2 * j + 1) = mkI (L 6) ∧ gI h 50471 0 (2 * j + 1) = mkI (L 7))
theorem q_vow : ∀ V, V < 64 → ∀ s, s < 6 → ((nI V >>> (nI s &&& 31)) &&& 1) = bI (V.testBit s) := by decide +kernel
theorem q_b1 (b : Bool) : (bI b ≠ 1) = (b = false) := by cases b <;> simp [bI]
theorem m_isVowel (d : Nat) {h : z_H} {V s : Nat} (hV : gI h 49100 0 0 = nI V) (hV6 : V < 64) (hs : s < 6) : Rn (d + 1) 149 [z_R 49100 0, z_I (nI s)] h = some (some (z_I (bI (V.testBit s))), h) := by
  rw [rX11_isVowel, bX11_isVowel_0, hV, q_vow V hV6 s hs]
  cases V.testBit s with
  | false => rw [if_pos (by decide), bX11_isVowel_16, bX11_isVowel_17, if_pos q_bz0]; rfl
  | true => rw [if_neg (by decide), bX11_isVowel_17, if_pos q_bz1]; rfl
theorem q_mk6 : ∀ k, k < 10 → 1 ≤ k → ((mkI k ≠ 6) = (k ≠ 7)) ∧ ((mkI k ≠ 7) = (k ≠ 8)) ∧ ((mkI k ≠ -1) = True) ∧ ((mkI k ≠ 8) = (k ≠ 9)) ∧ ((mkI k = 8) = (k = 9)) := by
  intro k hk h1
  rw [mkI_pos h1]
  have e6 : (6 : Int32) = nI 6 := rfl
  have e7 : (7 : Int32) = nI 7 := rfl
  have e8 : (8 : Int32) = nI 8 := rfl
  rw [e6, e7, e8]
  simp only [ne_eq, nI_eq (show k - 1 < 2 ^ 31 by omega) (show 6 < 2 ^ 31 by omega), nI_eq (show k - 1 < 2 ^ 31 by omega) (show 7 < 2 ^ 31 by omega), nI_eq (show k - 1 < 2 ^ 31 by omega) (show 8 < 2 ^ 31 by omega)]
  refine ⟨propext (by omega), propext (by omega), ?_, propext (by omega), propext (by omega)⟩
  refine eq_true (fun z => ?_)
  have : (nI (k - 1)).toInt = -1 := by rw [z]; decide
  rw [nI_toInt (by omega)] at this
  omega
theorem m_fitsSound (d : Nat) {h : z_H} {V s k : Nat} (hV : gI h 49100 0 0 = nI V) (hV6 : V < 64) (hs : s < 6) (hk : 1 ≤ k ∧ k ≤ 8) : Rn (d + 2) 150 [z_R 49100 0, z_I (mkI k), z_I (nI s)] h = some (some (z_I (bI (fitD V k (s + 1)))), h) := by
  obtain ⟨e1, e2, -⟩ := q_mk6 k (by omega) hk.1
  rw [rX11_fitsSound, bX11_fitsSound_0]
  simp only [e1]
  by_cases h7 : k = 7
  · subst h7
    rw [if_neg (by decide), m_isVowel d hV hV6 hs, q_cl, q_ps, bX11_fitsSound_11, bX11_fitsSound_46, if_pos (q_bzb _)]
    simp [fitD]
  · rw [if_pos h7, bX11_fitsSound_14]
    simp only [e2]
    by_cases h8 : k = 8
    · subst h8
      rw [if_neg (by decide), m_isVowel d hV hV6 hs, q_cl, q_ps, bX11_fitsSound_25]
      simp only [q_bn]
      cases hb : V.testBit s with
      | true => rw [if_pos rfl, bX11_fitsSound_32, bX11_fitsSound_46, if_pos q_bz0]; simp [fitD, hb, bI]
      | false => rw [if_neg (by decide), bX11_fitsSound_46, if_pos q_bz1]; simp [fitD, hb, bI]
    · rw [if_pos h8, bX11_fitsSound_36, mkI_pos hk.1]
      have e3 : (nI (k - 1) ≠ nI s) ↔ (k ≠ s + 1) := by rw [ne_eq, nI_eq (by omega) (by omega)]; omega
      by_cases h9 : k = s + 1
      · rw [if_neg (fun z => (e3.mp z) h9), bX11_fitsSound_46, if_pos q_bz1]
        have : fitD V k (s + 1) = true := by unfold fitD; rw [if_neg (by omega), if_neg (by omega), if_neg h7, if_neg h8]; simp [h9]
        rw [this]; rfl
      · rw [if_pos (e3.mpr h9), bX11_fitsSound_45, bX11_fitsSound_46, if_pos q_bz0]
        have : fitD V k (s + 1) = false := by unfold fitD; rw [if_neg (by omega), if_neg (by omega), if_neg h7, if_neg h8]; simp; omega
        rw [this]; rfl
theorem m_fitsAt (d : Nat) {h : z_H} (m : mOK h) {V k : Nat} (hV : gI h 49100 0 0 = nI V) (hV6 : V < 64) {w : List Nat} (hw : isW w) (hW : mW h w) (hk : k ≤ 9) {j : Nat} (hj : j ≤ w.length + 1) : Rn (d + 3) 151 [z_R 49100 0, z_I (mkI k), z_I (nI j - 1)] h = some (some (z_I (bI (fitD V k (cD w j)))), h) := by
  have h8 := hw.1
  rw [rX11_fitsAt, bX11_fitsAt_0]
  by_cases h0 : k = 0
  · subst h0
    rw [if_neg (by decide), if_pos q_bz1]
    rfl
  · obtain ⟨-, -, e1, e2, e3⟩ := q_mk6 k (by omega) (by omega)
    rw [if_pos (by rw [e1]; trivial), bX11_fitsAt_7, hW.1]
    have hends : ∀ x2 : Int32, EX (d + 2) 151 19 [z_R 49100 0, z_I (mkI k), z_I x2] [] h = some (some (z_I (bI (fitD V k 0))), h) := by
      intro x2
      rw [bX11_fitsAt_19]
      simp only [e2]
      by_cases h9 : k = 9
      · subst h9
        rw [if_neg (by decide), bX11_fitsAt_58, if_pos q_bz1]
        rfl
      · rw [if_pos h9, bX11_fitsAt_29, bX11_fitsAt_58, if_pos q_bz0]
        have : fitD V k 0 = false := by
          unfold fitD
          rw [if_neg h0, if_neg h9]
          split
          · rfl
          · split
            · rfl
            · simp; omega
        rw [this]; rfl
    by_cases hj0 : j = 0
    · subst hj0
      rw [if_pos (by decide), hends]
      rfl
    · have ej : nI j - 1 = nI (j - 1) := q_sub (b := 1) (by omega)
      rw [ej, if_neg (nI_pos (by omega))]
      by_cases hje : j = w.length + 1
      · rw [if_neg (by rw [hje]; simp), hends, hje, cD_end]
      · have hlt : j - 1 < w.length := by omega
        rw [if_pos (by rw [ne_eq, nI_eq (by omega) (by omega)]; omega), bX11_fitsAt_33]
        have hx : w[j - 1]? = some (w[j - 1]) := List.getElem?_eq_getElem hlt
        have hc : cD w j = w[j - 1] := by
          have := cD_get hx
          rw [show j - 1 + 1 = j by omega] at this
          exact this
        have hx1 := hw.2 _ (List.mem_of_getElem? hx)
        simp only [e3]
        by_cases h9 : k = 9
        · rw [if_pos h9, bX11_fitsAt_57, bX11_fitsAt_58, if_pos q_bz0, hc]
          have : fitD V k (w[j - 1]) = false := by unfold fitD; rw [if_neg h0, if_pos h9]; simp; omega
          rw [this]; rfl
        · rw [if_neg h9, if_pos (m 36 rfl), if_pos (by rw [q_in (by omega)]; simp; omega), nI_clamp (by omega), hW.2 _ _ hx, m_fitsSound d hV hV6 (by omega) ⟨by omega, by omega⟩, q_cl, q_ps, bX11_fitsAt_50]
          simp only [q_b0]
          rw [show w[j - 1] - 1 + 1 = w[j - 1] by omega, hc]
          cases hf : fitD V k (w[j - 1]) with
          | false => rw [if_pos rfl, bX11_fitsAt_57, bX11_fitsAt_58, if_pos q_bz0]; rfl
          | true => rw [if_neg (by decide), bX11_fitsAt_58, if_pos q_bz1]; rfl
theorem m_placeFits (d : Nat) {h : z_H} (m : mOK h) {V : Nat} (hV : gI h 49100 0 0 = nI V) (hV6 : V < 64) {w : List Nat} (hw : isW w) (hW : mW h w) {q a b k : Nat} (hq : q < 50) (ha : gI h 50461 0 q = mkI a) (hb : gI h 50471 0 q = mkI b) (ha9 : a ≤ 9) (hb9 : b ≤ 9) (hk : k < w.length) :
    Rn (d + 4) 152 [z_R 49100 0, z_I (nI q), z_I (nI k)] h = some (some (z_I (bI (fitD V a (cD w k) && fitD V b (cD w (k + 2))))), h) := by
  have h8 := hw.1
  have e2 : nI k + 1 = nI (k + 2) - 1 := by rw [show k + 2 = k + 1 + 1 by omega, nI_pred, nI_1]
  rw [rX11_placeFits, bX11_placeFits_0, if_pos (m 5 rfl), if_pos (by rw [q_in (by omega)]; simp; omega), nI_clamp (by omega), ha, m_fitsAt d m hV hV6 hw hW ha9 (j := k) (by omega), q_cl, q_ps, bX11_placeFits_13]
  simp only [q_b0]
  cases fitD V a (cD w k) with
  | false => rw [if_pos rfl, bX11_placeFits_36, bX11_placeFits_37, if_pos q_bz0]; rfl
  | true =>
    rw [if_neg (by decide), if_pos (m 6 rfl), if_pos (by rw [q_in (by omega)]; simp; omega), nI_clamp (by omega), hb, e2, m_fitsAt d m hV hV6 hw hW hb9 (j := k + 2) (by omega), q_cl, q_ps, bX11_placeFits_29]
    simp only [q_b0]
    cases fitD V b (cD w (k + 2)) with
    | false => rw [if_pos rfl, bX11_placeFits_36, bX11_placeFits_37, if_pos q_bz0]; rfl
    | true => rw [if_neg (by decide), bX11_placeFits_37, if_pos q_bz1]; rfl
theorem q_n0 {n : Nat} (h : n = 0 ∨ n = 1) : (nI n = 0) = (n = 0) := by rcases h with rfl | rfl <;> decide
theorem q_2x {j : Nat} : (2 : Int32) * nI j = nI (2 * j) := q_mul 2 j
theorem m_holdsAt (d : Nat) {h : z_H} (m : mOK h) {V : Nat} (hV : gI h 49100 0 0 = nI V) (hV6 : V < 64) {w : List Nat} (hw : isW w) (hW : mW h w) {j : Nat} (hj : j < 25) {L : Lw} (hL : okL L) (hm : mL h j L) {k : Nat} (hk : k < w.length) :
    Rn (d + 5) 153 [z_R 49100 0, z_I (nI j), z_I (nI k)] h = some (some (z_I (bI (holdsK V L w k))), h) := by
  have h8 := hw.1
  obtain ⟨g1, g2, g3, g4, g5, g6⟩ := hm
  obtain ⟨l0, l1, l2, l34, l5, l67⟩ := hL
  have hx : w[k]? = some (w[k]) := List.getElem?_eq_getElem hk
  have hc := cD_get hx
  have hx1 := hw.2 _ (List.mem_of_getElem? hx)
  have hfin : ∀ (x3 : Int32) (b : Bool), EX (d + 4) 153 48 [z_R 49100 0, z_I (nI j), z_I (nI k), z_I x3] [z_I (bI b)] h = some (some (z_I (bI (b && !(L 5 != 0 && (fitD V (L 6) (cD w k) && fitD V (L 7) (cD w (k + 2))))))), h) := by
    intro x3 b
    rw [bX11_holdsAt_48]
    cases b with
    | false => rw [if_pos (show bI false = 0 from rfl), bX11_holdsAt_83, bX11_holdsAt_84, if_pos q_bz0]; rfl
    | true =>
      rw [if_neg (by decide), if_pos (m 4 rfl), q_2x, nI_1, if_pos (by rw [q_in (by omega)]; simp; omega), nI_clamp (by omega), g4]
      simp only [q_n0 l5]
      by_cases hb : L 5 = 0
      · rw [if_pos hb, bX11_holdsAt_79, bX11_holdsAt_84, if_pos q_bz1, hb]; rfl
      · have hb1 : L 5 = 1 := by omega
        obtain ⟨p1, p2⟩ := g6 hb1
        rw [if_neg hb, m_placeFits d m hV hV6 hw hW (by omega) p1 p2 l67.1 l67.2 hk, q_cl, q_ps, bX11_holdsAt_76, hb1]
        simp only [q_bn]
        cases (fitD V (L 6) (cD w k) && fitD V (L 7) (cD w (k + 2))) with
        | true => rw [if_pos rfl, bX11_holdsAt_83, bX11_holdsAt_84, if_pos q_bz0]; rfl
        | false => rw [if_neg (by decide), bX11_holdsAt_79, bX11_holdsAt_84, if_pos q_bz1]; rfl
  rw [rX11_holdsAt, bX11_holdsAt_0, if_pos (m 2 rfl), if_pos (by rw [q_in (by omega)]; simp; omega), if_pos (m 36 rfl), if_pos (by rw [q_in (by omega)]; simp; omega), nI_clamp (by omega), nI_clamp (by omega), g1, hW.2 _ _ hx, m_fitsSound (d + 2) hV hV6 (by omega) l0, q_cl, q_ps, bX11_holdsAt_16]
  rw [show w[k] - 1 + 1 = w[k] by omega]
  unfold holdsK holdsD
  rw [hc]
  cases fitD V (L 0) w[k] with
  | false =>
    rw [if_pos (show bI false = 0 from rfl), bX11_holdsAt_47]
    exact hfin _ false
  | true =>
    rw [if_neg (by decide), if_pos (m 4 rfl), q_2x, if_pos (by rw [q_in (by omega)]; simp; omega), nI_clamp (by omega), g3]
    simp only [q_n0 l2]
    by_cases ha : L 2 = 0
    · rw [if_pos ha, bX11_holdsAt_43, ha]
      exact hfin _ true
    · have ha1 : L 2 = 1 := by omega
      obtain ⟨p1, p2⟩ := g5 ha1
      rw [if_neg ha, m_placeFits d m hV hV6 hw hW (by omega) p1 p2 l34.1 l34.2 hk, q_cl, q_ps, bX11_holdsAt_40, ha1]
      simp only [q_b0]
      cases (fitD V (L 3) (cD w k) && fitD V (L 4) (cD w (k + 2))) with
      | false =>
        rw [if_pos rfl, bX11_holdsAt_47]
        exact hfin _ false
      | true =>
        rw [if_neg (by decide), bX11_holdsAt_43]
        exact hfin _ true
