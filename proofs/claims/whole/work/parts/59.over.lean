/-! ===== Change: fieldsOf and over ===== -/
def nB (g : Nat → Bool) : Nat := nF (fun i => if g i then 1 else 0) 8
theorem nB_lt8 (g : Nat → Bool) (i : Nat) : (if g i then 1 else 0 : Nat) < 8 := by split <;> omega
theorem nB_and (a b : Nat → Bool) : nB a &&& nB b = nB (fun i => a i && b i) := by
  unfold nB
  rw [nF_and (fun i _ => nB_lt8 a i) (fun i _ => nB_lt8 b i)]
  apply nF_congr
  intro i _
  show ((if a i then 1 else 0) &&& (if b i then 1 else 0) : Nat) = if (a i && b i) then 1 else 0
  cases a i <;> cases b i <;> rfl
theorem nB_zero (g : Nat → Bool) : nB g = 0 ↔ ∀ i, i < 8 → g i = false := by
  unfold nB
  rw [nF_zero]
  constructor
  · intro h i hi
    have := h i hi
    cases hg : g i with
    | false => rfl
    | true => rw [hg] at this; cases this
  · intro h i hi
    rw [h i hi]
    rfl
theorem nB_congr {a b : Nat → Bool} (h : ∀ i, i < 8 → a i = b i) : nB a = nB b := by
  unfold nB
  apply nF_congr
  intro i hi
  rw [h i hi]
theorem nB_lt (g : Nat → Bool) : nB g < 2 ^ 24 := nF_lt 8 (fun i _ => nB_lt8 g i)
theorem nB_bit (g : Nat → Bool) (k : Nat) : (nB g).testBit k = (decide (k < 24) && (decide (k % 3 = 0) && g (k / 3))) := by
  unfold nB
  rw [nF_bit 8 (fun i _ => nB_lt8 g i)]
  congr 1
  have h3 : k % 3 = 0 ∨ k % 3 = 1 ∨ k % 3 = 2 := by omega
  rcases h3 with z | z | z <;> rw [z] <;> cases g (k / 3) <;> decide
theorem nB_andnot (a b : Nat → Bool) : nI (nB a) &&& (nI (nB b) ^^^ (-1)) = nI (nB (fun i => a i && !b i)) := by
  apply bt_ext
  intro k hk
  rw [bt_and, bt_xor, bt_m1 k hk, bt_nI _ hk, bt_nI _ hk, bt_nI _ hk, nB_bit, nB_bit, nB_bit]
  cases decide (k < 24) <;> cases decide (k % 3 = 0) <;> cases a (k / 3) <;> cases b (k / 3) <;> rfl
theorem fB_nB (D : Nat) (f : Nat → Nat) : fB D f = nB (fun i => D.testBit (f i)) := rfl
theorem hB_nB (V : Nat) (L : Lw) (w : List Nat) : hB V L w = nB (holdsK V L w) := rfl
theorem n_z {n : Nat} (h : n < 2 ^ 31) : (nI n = (0 : Int32)) ↔ n = 0 := nI_eq h (by decide)
theorem holds_masks {V : Nat} (hV : V < 64) {L : Lw} (hL : nmL L) {w : List Nat} (hw : isW w) (i : Nat) : holdsK V L w i = ((digD V (L 0)).testBit (cD w (i + 1)) && ((digD V (L 3)).testBit (cD w i) && (digD V (L 4)).testBit (cD w (i + 2))) && !((if L 5 = 0 then 0 else digD V (L 6)).testBit (cD w i) && (if L 5 = 0 then 0 else digD V (L 7)).testBit (cD w (i + 2)))) := by
  obtain ⟨⟨l0, l1, l2, l34, l5, l67⟩, n1, n2⟩ := hL
  have c0 := cD_le6 hw i
  have c1 := cD_le6 hw (i + 1)
  have c2 := cD_le6 hw (i + 2)
  unfold holdsK holdsD
  rw [digD_fit V hV (L 0) (by omega) _ (by omega), digD_fit V hV (L 3) (by omega) _ (by omega), digD_fit V hV (L 4) (by omega) _ (by omega)]
  have e1 : (L 2 == 0 || (fitD V (L 3) (cD w i) && fitD V (L 4) (cD w (i + 2)))) = (fitD V (L 3) (cD w i) && fitD V (L 4) (cD w (i + 2))) := by
    rcases l2 with z | z
    · obtain ⟨z3, z4⟩ := n1 z
      rw [z, z3, z4]; rfl
    · rw [z]; rfl
  rw [e1]
  rcases l5 with z | z
  · rw [z]
    simp
  · rw [z, if_neg (by decide), if_neg (by decide), digD_fit V hV (L 6) (by omega) _ (by omega), digD_fit V hV (L 7) (by omega) _ (by omega)]
    rfl
theorem holdsK_end {V : Nat} (hV : V < 64) {L : Lw} (hL : nmL L) {w : List Nat} (hw : isW w) {i : Nat} (hi : w.length ≤ i) : holdsK V L w i = false := by
  rw [holds_masks hV hL hw, cD_big (show w.length < i + 1 by omega), digD_from V hV (L 0) (by have := hL.1.1; omega) hL.1.1.1]
  rfl
theorem c_fieldsOf (d : Nat) {V : Nat} (hV : V < 64) {L : Lw} (hL : nmL L) {h : z_H} {r : Nat} (hC : cC h r V L) {w : List Nat} (hw : isW w) : Rn (d + 2) 10 [z_R 6000 r, z_I (nI (rowN w))] h = some (some (z_I (nI (hB V L w))), h) := by
  have hm := holds_masks hV hL hw
  obtain ⟨g0, g1, g2, g3, g4, g5⟩ := hC
  obtain ⟨⟨l0, l1, l2, l34, l5, l67⟩, n1, n2⟩ := hL
  have hlt := rowN_lt' hw
  have d0 := digD_lt V hV (L 0) (by omega)
  have d3 := digD_lt V hV (L 3) (by omega)
  have d4 := digD_lt V hV (L 4) (by omega)
  have d6 : (if L 5 = 0 then 0 else digD V (L 6)) < 128 := by split; decide; exact digD_lt V hV (L 6) (by omega)
  have d7 : (if L 5 = 0 then 0 else digD V (L 7)) < 128 := by split; decide; exact digD_lt V hV (L 7) (by omega)
  generalize digD V (L 0) = F at *
  generalize digD V (L 3) = A at *
  generalize digD V (L 4) = B at *
  generalize (if L 5 = 0 then 0 else digD V (L 6)) = P at *
  generalize (if L 5 = 0 then 0 else digD V (L 7)) = Q at *
  have s1 : ∀ D, D < 128 → Rn (d + 1) 3 [z_I (nI (rowN w)), z_I (nI D)] h = some (some (z_I (nI (nB (fun i => D.testBit (cD w (i + 1)))))), h) := fun D hD => c_fieldsIn d (rowN w) D (fun i => cD w (i + 1)) (fun i _ => cD_le6 hw _) (fun i hi b hb => row_bits hw hi hb) hD h
  have s0 : ∀ D, D < 128 → Rn (d + 1) 3 [z_I (nI (rowN w * 8)), z_I (nI D)] h = some (some (z_I (nI (nB (fun i => D.testBit (cD w i))))), h) := fun D hD => c_fieldsIn d (rowN w * 8) D (fun i => cD w i) (fun i _ => cD_le6 hw _) (fun i hi b hb => row_bits1 hw hi hb) hD h
  have s2 : ∀ D, D < 128 → Rn (d + 1) 3 [z_I (nI (rowN w / 8)), z_I (nI D)] h = some (some (z_I (nI (nB (fun i => D.testBit (cD w (i + 2)))))), h) := fun D hD => c_fieldsIn d (rowN w / 8) D (fun i => cD w (i + 2)) (fun i _ => cD_le6 hw _) (fun i hi b hb => row_bits2 hw hi hb) hD h
  have e8 : nI (rowN w) <<< ((3 : Int32) &&& 31) = nI (rowN w * 8) := q_shl (k := 3) _ (by decide)
  have e9 : z_ush (nI (rowN w)) 3 = nI (rowN w / 8) := q_ush3 (by omega)
  rw [rX0_fieldsOf, bX0_fieldsOf_0, g0, s1 F d0, q_cl, q_ps, bX0_fieldsOf_8, hB_nB]
  by_cases z1 : nB (fun i => F.testBit (cD w (i + 1))) = 0
  · rw [if_neg (by rw [z1]; decide)]
    have : nB (holdsK V L w) = 0 := (nB_zero _).mpr (fun i hi => by rw [hm i, (nB_zero _).mp z1 i hi]; rfl)
    rw [this]
    rfl
  · rw [if_pos (by rw [ne_eq, n_z (by have := nB_lt (fun i => F.testBit (cD w (i + 1))); omega)]; exact z1), bX0_fieldsOf_15, e8, e9, g1, s0 A d3, q_cl, q_ps, bX0_fieldsOf_33, g2, s2 B d4, q_cl, q_ps, bX0_fieldsOf_42, q_and, q_and, nB_and, nB_and]
    generalize hy : (fun i => F.testBit (cD w (i + 1)) && (A.testBit (cD w i) && B.testBit (cD w (i + 2)))) = Y
    have hm2 : ∀ i, holdsK V L w i = (Y i && !(P.testBit (cD w i) && Q.testBit (cD w (i + 2)))) := fun i => by rw [hm i, ← hy]
    by_cases z2 : nB Y = 0
    · rw [if_pos (by rw [z2]; rfl), bX0_fieldsOf_56, z2]
      have : nB (holdsK V L w) = 0 := (nB_zero _).mpr (fun i hi => by rw [hm2 i, (nB_zero _).mp z2 i hi]; rfl)
      rw [this]
    · rw [if_neg (by rw [n_z (by have := nB_lt Y; omega)]; exact z2), g3]
      by_cases z3 : P = 0
      · rw [if_neg (by rw [z3]; decide), bX0_fieldsOf_56]
        have : nB (holdsK V L w) = nB Y := nB_congr (fun i hi => by rw [hm2 i, z3]; simp)
        rw [this]
      · rw [if_pos (by rw [ne_eq, n_z (by omega)]; exact z3), bX0_fieldsOf_58, g3, s0 P d6, q_cl, q_ps, bX0_fieldsOf_67, g4, s2 Q d7, q_cl, q_ps, bX0_fieldsOf_76, q_and, nB_and, nB_andnot]
        have : nB (holdsK V L w) = nB (fun i => Y i && !(P.testBit (cD w i) && Q.testBit (cD w (i + 2)))) := nB_congr (fun i hi => hm2 i)
        rw [this]
/-! over -/
theorem cD_map (w : List Nat) (g : Nat → Nat) {i : Nat} (hi : i < w.length) : cD ((List.range w.length).map g) (i + 1) = g i := by
  apply cD_get
  rw [List.getElem?_map, List.getElem?_range hi]
  rfl
theorem range_map_cD (w : List Nat) : (List.range w.length).map (fun k => cD w (k + 1)) = w := by
  apply List.ext_getElem?
  intro i
  by_cases hi : i < w.length
  · rw [List.getElem?_map, List.getElem?_range hi, List.getElem?_eq_getElem hi]
    show some (cD w (i + 1)) = _
    rw [cD_get (List.getElem?_eq_getElem hi)]
  · rw [List.getElem?_eq_none (by simpa using hi), List.getElem?_eq_none (by simpa using hi)]
theorem flat_single (n : Nat) (f : Nat → List Nat) (g : Nat → Nat) (h : ∀ k, k < n → f k = [g k]) : (List.range n).flatMap f = (List.range n).map g := by
  induction n with
  | zero => rfl
  | succ n ih => rw [range_flat, ih (fun k hk => h k (by omega)), h n (by omega), List.range_succ, List.map_append]; rfl
theorem rnW_none {V : Nat} {L : Lw} {w : List Nat} (h : ∀ k, k < w.length → holdsK V L w k = false) : rnW V L w = w := by
  unfold rnW
  rw [flat_single w.length _ (fun k => cD w (k + 1)) (fun k hk => by unfold stepW; rw [h k hk]; rfl), range_map_cD]
theorem rowN_append : ∀ (a b : List Nat), rowN (a ++ b) = rowN a + 8 ^ a.length * rowN b := by
  intro a b
  induction a with
  | nil => simp [rowN]
  | cons x a ih =>
    show rowN (a ++ b) * 8 + x = rowN a * 8 + x + 8 ^ (a.length + 1) * rowN b
    rw [ih, Nat.pow_succ, Nat.add_mul, Nat.mul_right_comm]
    omega
theorem row_drop {w : List Nat} : ∀ (k : Nat), (∀ x ∈ w, x < 8) → rowN w / 2 ^ (3 * k) = rowN (w.drop k) := by
  induction w with
  | nil => intro k _; simp [rowN]
  | cons x w ih =>
    intro k hx
    cases k with
    | zero => simp
    | succ k =>
      have h1 : rowN (x :: w) / 8 = rowN w := by
        have := hx x List.mem_cons_self
        show (rowN w * 8 + x) / 8 = rowN w
        omega
      rw [show 3 * (k + 1) = 3 + 3 * k by omega, Nat.pow_add, ← Nat.div_div_eq_div_mul, show (2 : Nat) ^ 3 = 8 from rfl, h1, ih k (fun y hy => hx y (List.mem_cons_of_mem _ hy)), List.drop_succ_cons]
theorem rowN_pos {w : List Nat} (h : ∀ x ∈ w, 1 ≤ x) (hne : w ≠ []) : rowN w ≠ 0 := by
  cases w with
  | nil => exact absurd rfl hne
  | cons x w =>
    have := h x List.mem_cons_self
    show rowN w * 8 + x ≠ 0
    omega
theorem q_shr3 {a k : Nat} (ha : a < 2 ^ 32) (hk : 3 * k < 32) : z_ush (nI a) (nI (3 * k)) = nI (a / 2 ^ (3 * k)) := q_ush ha hk
theorem q_or_add {a b k : Nat} (ha : a < 2 ^ k) (hk : k < 32) : nI a ||| (nI b <<< (nI k &&& 31)) = nI (a + 2 ^ k * b) := by
  rw [q_shl b hk, q_or]
  congr 1
  rw [Nat.mul_comm b, Nat.or_comm, ← Nat.two_pow_add_eq_or_of_lt ha, Nat.add_comm]
theorem row_single {V : Nat} (hV : V < 64) {L : Lw} (hL : nmL L) {w : List Nat} (hw : isW w) (ht : 1 ≤ L 1) (ht6 : L 1 ≤ 6) : (nI (rowN w) &&& ((nI (hB V L w) * 7) ^^^ (-1))) ||| (nI (hB V L w) * nI (L 1)) = nI (rowN (runW V L w)) := by
  have e : rnW V L w = (List.range w.length).map (fun k => if holdsK V L w k then L 1 else cD w (k + 1)) := by
    unfold rnW
    apply flat_single
    intro k hk
    have ht : toW (L 1) = [L 1] := by unfold toW; rw [if_neg (by omega), if_pos (by omega)]
    unfold stepW
    rw [ht]
    split <;> rfl
  have hl : (rnW V L w).length = w.length := by rw [e]; simp
  have er : runW V L w = rnW V L w := by unfold runW; rw [if_pos (by rw [hl]; exact hw.1)]
  have hlen : (rnW V L w).length ≤ 8 := by rw [hl]; exact hw.1
  have e7 : nI (hB V L w) * 7 = nI (hB V L w * 7) := q_mul _ 7
  rw [er, e7, q_mul, rowN_nF hlen, rowN_nF hw.1]
  unfold hB
  rw [nF_mul, nF_mul]
  have f1 : ∀ i, i < 8 → (if holdsK V L w i then 1 else 0) * 7 < 8 := fun i _ => by split <;> omega
  have f2 : ∀ i, i < 8 → (if holdsK V L w i then 1 else 0) * L 1 < 8 := fun i _ => by split <;> omega
  have f3 : ∀ i, i < 8 → cD w (i + 1) < 8 := fun i _ => cD_lt hw _
  have f5 : ∀ i, i < 8 → cD (rnW V L w) (i + 1) = if holdsK V L w i then L 1 else cD w (i + 1) := fun i hi => by
    by_cases hiw : i < w.length
    · rw [e, cD_map w _ hiw]
    · rw [cD_big (by rw [hl]; omega), holdsK_end hV hL hw (by omega), cD_big (show w.length < i + 1 by omega)]
      rfl
  have f4 : ∀ i, i < 8 → cD (rnW V L w) (i + 1) < 8 := fun i hi => by
    rw [f5 i hi]
    split
    · omega
    · exact cD_lt hw _
  apply bt_ext
  intro k hk
  rw [bt_or, bt_and, bt_xor, bt_m1 k hk, bt_nI _ hk, bt_nI _ hk, bt_nI _ hk, bt_nI _ hk, nF_bit 8 f3, nF_bit 8 f1, nF_bit 8 f2, nF_bit 8 f4]
  by_cases h24 : k < 24
  · simp only [show k < 3 * 8 by omega, decide_true, Bool.true_and]
    rw [f5 (k / 3) (by omega)]
    have h3 : k % 3 = 0 ∨ k % 3 = 1 ∨ k % 3 = 2 := by omega
    cases holdsK V L w (k / 3) with
    | true =>
      simp only [if_true, Nat.one_mul]
      have h7 : Nat.testBit 7 (k % 3) = true := by rcases h3 with z | z | z <;> rw [z] <;> decide
      rw [h7]
      simp
    | false =>
      simp
  · simp [show ¬ k < 3 * 8 by omega]
theorem c_over_loop (d : Nat) {V : Nat} (hV : V < 64) {L : Lw} (hL : nmL L) {h : z_H} {r : Nat} (hC : cC h r V L) {w : List Nat} (hw : isW w) (tb : Nat) (htb : tb = 3 * (toW (L 1)).length) :
    ∀ (m k : Nat) (u7 u8 : z_V), k + m = w.length → ((List.range k).flatMap (stepW V L w)).length ≤ 8 → EX d 11 67 [z_R 6000 r, z_I (nI (rowN w)), z_I (nI (hB V L w)), z_I (nI tb), z_I (nI (rowN ((List.range k).flatMap (stepW V L w)))), z_I (nI (3 * ((List.range k).flatMap (stepW V L w)).length)), z_I (nI (3 * k)), u7, u8] [] h = some (some (z_I (nI (rowN (runW V L w)))), h) := by
  have h8 := hw.1
  have hlt := rowN_lt' hw
  have hb7 : ∀ x ∈ w, x < 8 := fun x hx => by have := hw.2 x hx; omega
  have e24 : (24 : Int32) = nI 24 := rfl
  have hto := toW_len (L 1)
  intro m
  induction m with
  | zero =>
    intro k u7 u8 hk hl
    have hk : k = w.length := by omega
    subst hk
    have er : runW V L w = (List.range w.length).flatMap (stepW V L w) := by unfold runW; rw [if_pos (show (rnW V L w).length ≤ 8 from hl)]; rfl
    rw [bX0_over_67, er]
    by_cases h24 : w.length = 8
    · rw [if_pos (by rw [e24, nI_leI (by omega) (by omega)]; omega), bX0_over_161]
    · rw [if_neg (by rw [e24, nI_leI (by omega) (by omega)]; omega), if_pos (by rw [q_shr3 (by omega) (by omega), row_drop _ hb7, List.drop_length]; rfl), bX0_over_161]
  | succ m ih =>
    intro k u7 u8 hk hl
    have hkl : k < w.length := by omega
    have hx : w[k]? = some (w[k]) := List.getElem?_eq_getElem hkl
    have hx1 := hw.2 _ (List.mem_of_getElem? hx)
    have hc := cD_get hx
    have hd : w.drop k = w[k] :: w.drop (k + 1) := List.drop_eq_getElem_cons hkl
    have hne : rowN (w.drop k) ≠ 0 := rowN_pos (fun x hx => (hw.2 x (List.mem_of_mem_drop hx)).1) (by rw [hd]; exact List.cons_ne_nil _ _)
    have hdl : rowN (w.drop k) ≤ rowN w := by rw [← row_drop k hb7]; exact Nat.div_le_self _ _
    have hmod : rowN (w.drop k) % 8 = w[k] := by
      rw [hd]
      show (rowN (w.drop (k + 1)) * 8 + w[k]) % 8 = w[k]
      omega
    have hbit : nI (hB V L w / 2 ^ (3 * k)) &&& 1 = bI (holdsK V L w k) := by
      have e1 : (1 : Int32) = nI 1 := rfl
      rw [e1, q_and, show (hB V L w / 2 ^ (3 * k)) &&& 1 = hB V L w / 2 ^ (3 * k) % 2 from Nat.and_two_pow_sub_one_eq_mod _ 1]
      have e2 : (hB V L w).testBit (3 * k) = decide (hB V L w / 2 ^ (3 * k) % 2 = 1) := Nat.testBit_eq_decide_div_mod_eq
      rw [hB_nB, nB_bit] at e2
      rw [hB_nB]
      simp only [show 3 * k < 24 by omega, decide_true, Bool.true_and, show 3 * k % 3 = 0 by omega, show 3 * k / 3 = k by omega] at e2
      rw [e2]
      by_cases hz : nB (holdsK V L w) / 2 ^ (3 * k) % 2 = 1
      · simp [hz]; rfl
      · have : nB (holdsK V L w) / 2 ^ (3 * k) % 2 = 0 := by omega
        rw [this]; rfl
    have hBlt : hB V L w < 2 ^ 24 := nB_lt _
    rw [bX0_over_67, if_neg (by rw [e24, nI_leI (by omega) (by omega)]; omega), q_shr3 (by omega) (by omega), q_shr3 (by omega) (by omega), row_drop k hb7, if_neg (by rw [n_z (by omega)]; exact hne), hbit]
    have e3 : nI (3 * k) + 3 = nI (3 * (k + 1)) := nI_add _ 3
    have hstep := range_flat (stepW V L w) k
    have hall : (List.range (k + 1)).flatMap (stepW V L w) = (List.range k).flatMap (stepW V L w) ++ stepW V L w k := hstep
    have mono : ∀ j, (List.range k).flatMap (stepW V L w) = (List.range k).flatMap (stepW V L w) → ((List.range (k + 1)).flatMap (stepW V L w)).length ≤ ((List.range (k + 1 + j)).flatMap (stepW V L w)).length := by
      intro j _
      induction j with
      | zero => exact Nat.le_refl _
      | succ j ihj => rw [show k + 1 + (j + 1) = (k + 1 + j) + 1 by omega, range_flat (stepW V L w) (k + 1 + j), List.length_append]; omega
    have hbig : 8 < ((List.range (k + 1)).flatMap (stepW V L w)).length → runW V L w = w := by
      intro hz
      have := mono (w.length - (k + 1)) rfl
      rw [show k + 1 + (w.length - (k + 1)) = w.length by omega] at this
      unfold runW
      rw [if_neg (by unfold rnW; omega)]
    have hok : ∀ x ∈ (List.range k).flatMap (stepW V L w), x < 8 := fun x hx => by
      obtain ⟨j, h1, h2⟩ := List.mem_flatMap.mp hx
      have := stepW_ok (V := V) hL.1 hw (show j < w.length by have := List.mem_range.mp h1; omega) x h2
      omega
    have hrl := rowN_lt _ hok
    rw [hall] at hbig
    have hnext := ih (k + 1)
    rw [hall] at hnext
    generalize (List.range k).flatMap (stepW V L w) = O at *
    have h83 : (8 : Nat) ^ O.length = 2 ^ (3 * O.length) := by rw [Nat.pow_mul]
    cases hH : holdsK V L w k with
    | true =>
      have hs : stepW V L w k = toW (L 1) := by unfold stepW; rw [hH]; rfl
      rw [hs] at hnext hbig
      rw [if_neg (by decide), bX0_over_95, if_neg (by decide), bX0_over_107, nI_add]
      by_cases hfit : 3 * O.length + tb ≤ 24
      · rw [if_pos (by rw [e24, nI_leI (by omega) (by omega)]; exact hfit), bX0_over_121, if_neg (by decide), bX0_over_142, hC.2.2.2.2.2, e3, nI_add]
        by_cases hO8 : O.length = 8
        · have ht0 : toW (L 1) = [] := by
            apply List.eq_nil_of_length_eq_zero
            omega
          rw [ht0] at hnext htb ⊢
          have e4 : nI (rowN O) ||| (nI (rowN []) <<< (nI (3 * O.length) &&& 31)) = nI (rowN O) := by
            rw [q_shl _ (by omega), q_or]
            simp [rowN]
          rw [e4]
          have := hnext (z_I 1) (z_I (nI tb)) (by omega) (by simp; omega)
          rw [List.append_nil] at this
          rw [show 3 * O.length + tb = 3 * O.length by simp at htb; omega]
          exact this
        · rw [q_or_add (by rw [← h83]; exact hrl) (by omega), ← h83, ← rowN_append]
          have := hnext (z_I 1) (z_I (nI tb)) (by omega) (by rw [List.length_append]; omega)
          rw [List.length_append, Nat.mul_add, ← htb] at this
          exact this
      · rw [if_neg (by rw [e24, nI_leI (by omega) (by omega)]; exact hfit), hbig (by rw [List.length_append]; omega)]
    | false =>
      have hs : stepW V L w k = [w[k]] := by unfold stepW; rw [hH, hc]; rfl
      rw [hs] at hnext hbig
      rw [if_pos (by decide), bX0_over_94, bX0_over_95, if_pos (by decide), bX0_over_106, bX0_over_107]
      have e5 : nI (3 * O.length) + 3 = nI (3 * O.length + 3) := nI_add _ 3
      rw [e5]
      by_cases hfit : 3 * O.length + 3 ≤ 24
      · rw [if_pos (by rw [e24, nI_leI (by omega) (by omega)]; exact hfit), bX0_over_121, if_pos (by decide), bX0_over_135, bX0_over_142, e3, e5, q_shr3 (by omega) (by omega), row_drop k hb7, q_and7, hmod, q_or_add (by rw [← h83]; exact hrl) (by omega), ← h83]
        have e6 : rowN O + 8 ^ O.length * w[k] = rowN (O ++ [w[k]]) := by
          rw [rowN_append]
          congr 2
          show w[k] = 0 * 8 + w[k]
          omega
        rw [e6]
        have := hnext (z_I 0) (z_I 3) (by omega) (by rw [List.length_append]; simp; omega)
        rw [List.length_append, Nat.mul_add] at this
        exact this
      · rw [if_neg (by rw [e24, nI_leI (by omega) (by omega)]; exact hfit), hbig (by rw [List.length_append]; simp; omega)]
theorem c_over (d : Nat) {V : Nat} (hV : V < 64) {L : Lw} (hL : nmL L) {h : z_H} {r : Nat} (hC : cC h r V L) {w : List Nat} (hw : isW w) : Rn (d + 3) 11 [z_R 6000 r, z_I (nI (rowN w))] h = some (some (z_I (nI (rowN (runW V L w)))), h) := by
  have h8 := hw.1
  have hBlt : hB V L w < 2 ^ 24 := nB_lt _
  have l1 := hL.1.2.1
  rw [rX0_over, bX0_over_0, c_fieldsOf d hV hL hC hw, q_cl, q_ps, bX0_over_5]
  by_cases z1 : hB V L w = 0
  · have er : runW V L w = w := by
      have : rnW V L w = w := rnW_none (fun k hk => (nB_zero _).mp z1 k (by omega))
      unfold runW
      rw [this, if_pos h8]
    rw [if_neg (by rw [z1]; decide), er]
  · have hloop : ∀ (x3 : z_V) u3 u4 u5 u6 u7 u8, EX (d + 2) 11 57 [z_R 6000 r, z_I (nI (rowN w)), z_I (nI (hB V L w)), u3, u4, u5, u6, u7, u8] [z_I (nI (3 * (toW (L 1)).length))] h = some (some (z_I (nI (rowN (runW V L w)))), h) := by
      intro _ u3 u4 u5 u6 u7 u8
      rw [bX0_over_57]
      exact c_over_loop (d + 2) hV hL hC hw _ rfl w.length 0 u7 u8 (by omega) (by simp)
    have g5 := hC.2.2.2.2.2
    rw [if_pos (by rw [ne_eq, n_z (by omega)]; exact z1), bX0_over_12, g5]
    by_cases t0 : L 1 = 0
    · have et : toW (L 1) = [] := by unfold toW; rw [if_pos t0]
      have := hloop z_U z_U z_U z_U z_U z_U z_U
      rw [et] at this
      rw [et, if_pos (by decide), bX0_over_44, g5, et, if_neg (by decide)]
      exact this
    · by_cases t6 : L 1 ≤ 6
      · have et : rowN (toW (L 1)) = L 1 := toW_row t6
        rw [et, if_neg (by rw [q_le0 (by omega)]; exact t0), if_neg (by rw [show (6 : Int32) = nI 6 from rfl, nI_ltI (by omega) (by omega)]; omega), row_single hV hL hw (by omega) t6]
      · have et : toW (L 1) = [L 1 / 7, L 1 % 7] := by unfold toW; rw [if_neg t0, if_neg (by omega)]
        have h77 : 1 ≤ L 1 / 7 ∧ L 1 / 7 ≤ 6 ∧ 1 ≤ L 1 % 7 := by rcases l1 with z | z; omega; exact z
        have ev : rowN (toW (L 1)) = (L 1 % 7) * 8 + L 1 / 7 := by
          rw [et]
          show (0 * 8 + L 1 % 7) * 8 + L 1 / 7 = _
          omega
        have := hloop z_U z_U z_U z_U z_U z_U z_U
        rw [et] at this
        rw [ev, if_neg (by rw [q_le0 (by omega)]; omega), if_pos (by rw [show (6 : Int32) = nI 6 from rfl, nI_ltI (by omega) (by omega)]; omega), bX0_over_44, g5, ev, if_pos (by rw [ne_eq, n_z (by omega)]; omega), bX0_over_55]
        exact this
