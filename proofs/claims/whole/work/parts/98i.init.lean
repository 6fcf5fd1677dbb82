/-! ===== constructors, as a log ===== -/
abbrev zOp : Type := Nat × Nat × Nat × Nat × Nat
def ap (h : z_H) (o : zOp) : z_H := match o with
  | (0, p, i, n, s) => nw h p i n s
  | (1, p, i, k, v) => pR h p i k v
  | (2, p, i, k, v) => pI h p i k (nI v)
  | (_, p, i, k, _) => pI h p i k mI
def bld (L : Nat) (xs : Nat → Int32) : List zOp → z_H
  | [] => z_h0 L xs
  | o :: l => ap (bld L xs l) o
def lR : List zOp → Nat → Nat → Nat → Nat
  | [], _, _, _ => 0
  | (t, q, j, n, v) :: l, p, i, k => if t = 1 ∧ p = q ∧ i = j ∧ k = n then v else if t = 0 ∧ p = q ∧ i = j then 0 else lR l p i k
def lV : List zOp → Nat → Nat → Bool
  | [], _, _ => false
  | (t, q, j, _, _) :: l, p, i => if t = 0 ∧ p = q ∧ i = j then true else lV l p i
def lgN : List zOp → Nat → Nat
  | [], _ => 0
  | (t, _, _, _, u) :: l, s => if t = 0 ∧ s = u then lgN l u + 1 else lgN l s
def lgI : List zOp → Nat → Nat → Nat → Int32
  | [], _, _, _ => 0
  | (t, q, j, n, v) :: l, p, i, k => if t = 0 then (if p = q ∧ i = j then 0 else lgI l p i k) else if t = 1 then lgI l p i k else if p = q ∧ i = j ∧ k = n then (if t = 2 then nI v else mI) else lgI l p i k
def lC : List zOp → Nat
  | [] => 0
  | (t, _, _, _, _) :: l => lC l + (if t = 0 then 1 else 0)
def lS : List zOp → Nat
  | [] => 0
  | (t, _, _, n, _) :: l => lS l + (if t = 0 then n else 0)
section
variable {L : Nat} {xs : Nat → Int32}
theorem gR_bl : ∀ (l : List zOp) (p i k : Nat), gR (bld L xs l) p i k = lR l p i k := by
  intro l
  induction l with
  | nil => intro p i k; rfl
  | cons o l ih =>
    intro p i k
    obtain ⟨t, q, j, n, v⟩ := o
    show gR (ap (bld L xs l) (t, q, j, n, v)) p i k = (if t = 1 ∧ p = q ∧ i = j ∧ k = n then v else if t = 0 ∧ p = q ∧ i = j then 0 else lR l p i k)
    match t with
    | 0 =>
      rw [if_neg (by omega)]
      show gR (nw (bld L xs l) q j n v) p i k = _
      rw [gR_nw, ih]
      by_cases e : p = q ∧ i = j
      · rw [if_pos e, if_pos ⟨rfl, e⟩]
      · rw [if_neg e, if_neg (fun z => e z.2)]
    | 1 =>
      show gR (pR (bld L xs l) q j n v) p i k = _
      by_cases e : p = q ∧ i = j ∧ k = n
      · obtain ⟨rfl, rfl, rfl⟩ := e
        rw [gR_same, if_pos ⟨rfl, rfl, rfl, rfl⟩]
      · rw [gR_ne (by omega), if_neg (fun z => e z.2), if_neg (by omega), ih]
    | 2 =>
      rw [if_neg (by omega), if_neg (by omega)]
      exact ih p i k
    | t + 3 =>
      rw [if_neg (by omega), if_neg (by omega)]
      exact ih p i k
theorem gV_bl : ∀ (l : List zOp) (p i : Nat), gV (bld L xs l) p i = lV l p i := by
  intro l
  induction l with
  | nil => intro p i; rfl
  | cons o l ih =>
    intro p i
    obtain ⟨t, q, j, n, v⟩ := o
    show gV (ap (bld L xs l) (t, q, j, n, v)) p i = (if t = 0 ∧ p = q ∧ i = j then true else lV l p i)
    match t with
    | 0 =>
      show gV (nw (bld L xs l) q j n v) p i = _
      rw [gV_nw, ih]
      by_cases e : p = q ∧ i = j
      · rw [if_pos e, if_pos ⟨rfl, e⟩]
      · rw [if_neg e, if_neg (fun z => e z.2)]
    | 1 => rw [if_neg (by omega)]; exact ih p i
    | 2 => rw [if_neg (by omega)]; exact ih p i
    | t + 3 => rw [if_neg (by omega)]; exact ih p i
theorem gN_bl : ∀ (l : List zOp) (s : Nat), gN (bld L xs l) s = lgN l s + (if s = 7 then L else 0) := by
  intro l
  induction l with
  | nil => intro s; show (if s = 7 then L else 0) = 0 + _; rw [Nat.zero_add]
  | cons o l ih =>
    intro s
    obtain ⟨t, q, j, n, v⟩ := o
    show gN (ap (bld L xs l) (t, q, j, n, v)) s = (if t = 0 ∧ s = v then lgN l v + 1 else lgN l s) + _
    match t with
    | 0 =>
      show gN (nw (bld L xs l) q j n v) s = _
      rw [gN_nw]
      by_cases e : s = v
      · subst e
        rw [if_pos rfl, if_pos ⟨rfl, rfl⟩, ih]
        omega
      · rw [if_neg e, if_neg (fun z => e z.2), ih]
    | 1 => rw [if_neg (by omega)]; exact ih s
    | 2 => rw [if_neg (by omega)]; exact ih s
    | t + 3 => rw [if_neg (by omega)]; exact ih s
theorem gI_bl : ∀ (l : List zOp) (p i k : Nat), p ≠ 7 → gI (bld L xs l) p i k = lgI l p i k := by
  intro l
  induction l with
  | nil => intro p i k hp; show (if p = 7 then xs k else 0) = 0; rw [if_neg hp]
  | cons o l ih =>
    intro p i k hp
    obtain ⟨t, q, j, n, v⟩ := o
    show gI (ap (bld L xs l) (t, q, j, n, v)) p i k = (if t = 0 then (if p = q ∧ i = j then 0 else lgI l p i k) else if t = 1 then lgI l p i k else if p = q ∧ i = j ∧ k = n then (if t = 2 then nI v else mI) else lgI l p i k)
    match t with
    | 0 =>
      rw [if_pos rfl]
      show gI (nw (bld L xs l) q j n v) p i k = _
      rw [gI_nw, ih p i k hp]
    | 1 => rw [if_neg (by omega), if_pos rfl]; exact ih p i k hp
    | 2 =>
      rw [if_neg (by omega), if_neg (by omega)]
      show gI (pI (bld L xs l) q j n (nI v)) p i k = _
      rw [gI_pI, ih p i k hp, if_pos rfl]
    | t + 3 =>
      rw [if_neg (by omega), if_neg (by omega)]
      show gI (pI (bld L xs l) q j n mI) p i k = _
      rw [gI_pI, ih p i k hp, if_neg (show ¬ t + 3 = 2 by omega)]
def no7 : List zOp → Bool
  | [] => true
  | (_, q, _, _, _) :: l => q != 7 && no7 l
theorem gI_b7 : ∀ (l : List zOp) (k : Nat), no7 l = true → gI (bld L xs l) 7 0 k = xs k := by
  intro l
  induction l with
  | nil => intro k _; rfl
  | cons o l ih =>
    intro k h
    obtain ⟨t, q, j, n, v⟩ := o
    have h' : (q != 7 && no7 l) = true := h
    rw [Bool.and_eq_true, bne_iff_ne] at h'
    have h1 := ih k h'.2
    match t with
    | 0 =>
      show gI (nw (bld L xs l) q j n v) 7 0 k = _
      rw [gI_nw, if_neg (fun z => h'.1 z.1.symm)]; exact h1
    | 1 => exact h1
    | 2 =>
      show gI (pI (bld L xs l) q j n (nI v)) 7 0 k = _
      rw [gI_pI, if_neg (fun z => h'.1 z.1.symm)]; exact h1
    | t + 3 =>
      show gI (pI (bld L xs l) q j n mI) 7 0 k = _
      rw [gI_pI, if_neg (fun z => h'.1 z.1.symm)]; exact h1
theorem gC_bl : ∀ (l : List zOp), gC (bld L xs l) = lC l ∧ gS (bld L xs l) = lS l := by
  intro l
  induction l with
  | nil => exact ⟨rfl, rfl⟩
  | cons o l ih =>
    obtain ⟨t, q, j, n, v⟩ := o
    show gC (ap (bld L xs l) (t, q, j, n, v)) = lC l + (if t = 0 then 1 else 0) ∧ gS (ap (bld L xs l) (t, q, j, n, v)) = lS l + (if t = 0 then n else 0)
    match t with
    | 0 =>
      rw [if_pos rfl, if_pos rfl, ← ih.1, ← ih.2]
      exact ⟨rfl, rfl⟩
    | 1 => rw [if_neg (by omega), if_neg (by omega)]; exact ih
    | 2 => rw [if_neg (by omega), if_neg (by omega)]; exact ih
    | t + 3 => rw [if_neg (by omega), if_neg (by omega)]; exact ih
/-- a pool in which no int is set, or no reference, or in which nothing is made -/
def noI : List zOp → Nat → Bool
  | [], _ => true
  | (t, q, _, _, _) :: l, p => (decide (t < 2) || q != p) && noI l p
def noR : List zOp → Nat → Bool
  | [], _ => true
  | (t, q, _, _, _) :: l, p => (t != 1 || q != p) && noR l p
def noV : List zOp → Nat → Bool
  | [], _ => true
  | (t, q, _, _, _) :: l, p => (t != 0 || q != p) && noV l p
theorem lI_no : ∀ (l : List zOp) {p : Nat} (i k : Nat), noI l p = true → lgI l p i k = 0 := by
  intro l
  induction l with
  | nil => intro p i k _; rfl
  | cons o l ih =>
    intro p i k h
    obtain ⟨t, q, j, n, v⟩ := o
    have h' : ((decide (t < 2) || q != p) && noI l p) = true := h
    rw [Bool.and_eq_true, Bool.or_eq_true, decide_eq_true_eq, bne_iff_ne] at h'
    have h1 := ih i k h'.2
    show (if t = 0 then (if p = q ∧ i = j then 0 else lgI l p i k) else if t = 1 then lgI l p i k else if p = q ∧ i = j ∧ k = n then (if t = 2 then nI v else mI) else lgI l p i k) = 0
    by_cases t0 : t = 0
    · rw [if_pos t0]
      split
      · rfl
      · exact h1
    · rw [if_neg t0]
      by_cases t1 : t = 1
      · rw [if_pos t1]; exact h1
      · rw [if_neg t1, if_neg (fun z => by
          rcases h'.1 with y | y
          · omega
          · exact y z.1.symm)]
        exact h1
theorem lR_no : ∀ (l : List zOp) {p : Nat} (i k : Nat), noR l p = true → lR l p i k = 0 := by
  intro l
  induction l with
  | nil => intro p i k _; rfl
  | cons o l ih =>
    intro p i k h
    obtain ⟨t, q, j, n, v⟩ := o
    have h' : ((t != 1 || q != p) && noR l p) = true := h
    rw [Bool.and_eq_true, Bool.or_eq_true, bne_iff_ne, bne_iff_ne] at h'
    have h1 := ih i k h'.2
    show (if t = 1 ∧ p = q ∧ i = j ∧ k = n then v else if t = 0 ∧ p = q ∧ i = j then 0 else lR l p i k) = 0
    rw [if_neg (fun z => by
      rcases h'.1 with y | y
      · exact y z.1
      · exact y z.2.1.symm)]
    split
    · rfl
    · exact h1
theorem lV_no : ∀ (l : List zOp) {p : Nat} (i : Nat), noV l p = true → lV l p i = false := by
  intro l
  induction l with
  | nil => intro p i _; rfl
  | cons o l ih =>
    intro p i h
    obtain ⟨t, q, j, n, v⟩ := o
    have h' : ((t != 0 || q != p) && noV l p) = true := h
    rw [Bool.and_eq_true, Bool.or_eq_true, bne_iff_ne, bne_iff_ne] at h'
    have h1 := ih i h'.2
    show (if t = 0 ∧ p = q ∧ i = j then true else lV l p i) = false
    rw [if_neg (fun z => by
      rcases h'.1 with y | y
      · exact y z.1
      · exact y z.2.1.symm)]
    exact h1
theorem gR_b {l : List zOp} {p i k v : Nat} (h : lR l p i k = v) : gR (bld L xs l) p i k = v := (gR_bl l p i k).trans h
theorem gV_b {l : List zOp} {p i : Nat} {v : Bool} (h : lV l p i = v) : gV (bld L xs l) p i = v := (gV_bl l p i).trans h
theorem gN_b {l : List zOp} {s v : Nat} (hs : s ≠ 7) (h : lgN l s = v) : gN (bld L xs l) s = v := by rw [gN_bl, if_neg hs, Nat.add_zero]; exact h
theorem gI_b {l : List zOp} {p i k : Nat} {v : Int32} (hp : p ≠ 7) (h : lgI l p i k = v) : gI (bld L xs l) p i k = v := (gI_bl l p i k hp).trans h
end
def io0 : List zOp := []
def io1 : List zOp := (0, 10090, 0, 10, 86) :: io0
def io2 : List zOp := (0, 4070, 0, 4, 43) :: io1
def io3 : List zOp := (0, 40362, 0, 40, 38) :: io2
def io4 : List zOp := (1, 4070, 0, 0, 1) :: io3
def io5 : List zOp := (0, 9371, 0, 9, 39) :: io4
def io6 : List zOp := (1, 4070, 0, 1, 1) :: io5
def io7 : List zOp := (1, 10090, 0, 0, 1) :: io6
def io8 : List zOp := (0, 24415, 0, 24, 44) :: io7
def io9 : List zOp := (1, 10090, 0, 1, 1) :: io8
def io10 : List zOp := (0, 9010, 0, 9, 45) :: io9
def io11 : List zOp := (0, 8115, 0, 8, 10) :: io10
def io12 : List zOp := (1, 9010, 0, 0, 1) :: io11
def io13 : List zOp := (0, 8121, 0, 8, 11) :: io12
def io14 : List zOp := (1, 9010, 0, 1, 1) :: io13
def io15 : List zOp := (0, 8151, 0, 8, 12) :: io14
def io16 : List zOp := (1, 9010, 0, 6, 1) :: io15
def io17 : List zOp := (0, 8161, 0, 8, 13) :: io16
def io18 : List zOp := (1, 9010, 0, 7, 1) :: io17
def io19 : List zOp := (0, 80171, 0, 80, 14) :: io18
def io20 : List zOp := (1, 9010, 0, 8, 1) :: io19
def io21 : List zOp := (1, 10090, 0, 2, 1) :: io20
def io22 : List zOp := (0, 6020, 0, 6, 46) :: io21
def io23 : List zOp := (0, 60181, 0, 60, 18) :: io22
def io24 : List zOp := (1, 6020, 0, 2, 1) :: io23
def io25 : List zOp := (0, 60191, 0, 60, 19) :: io24
def io26 : List zOp := (1, 6020, 0, 3, 1) :: io25
def io27 : List zOp := (0, 60201, 0, 60, 20) :: io26
def io28 : List zOp := (1, 6020, 0, 4, 1) :: io27
def io29 : List zOp := (0, 60211, 0, 60, 21) :: io28
def io30 : List zOp := (1, 6020, 0, 5, 1) :: io29
def io31 : List zOp := (1, 10090, 0, 3, 1) :: io30
def io32 : List zOp := (0, 8050, 0, 8, 47) :: io31
def io33 : List zOp := (2, 8050, 0, 2, 1) :: io32
def io34 : List zOp := (0, 6311, 0, 6, 32) :: io33
def io35 : List zOp := (1, 8050, 0, 3, 1) :: io34
def io36 : List zOp := (0, 6321, 0, 6, 33) :: io35
def io37 : List zOp := (1, 8050, 0, 4, 1) :: io36
def io38 : List zOp := (0, 6331, 0, 6, 34) :: io37
def io39 : List zOp := (1, 8050, 0, 5, 1) :: io38
def io40 : List zOp := (0, 6341, 0, 6, 35) :: io39
def io41 : List zOp := (1, 8050, 0, 6, 1) :: io40
def io42 : List zOp := (0, 6000, 100, 6, 36) :: io41
def io43 : List zOp := (1, 8050, 0, 7, 101) :: io42
def io44 : List zOp := (1, 10090, 0, 4, 1) :: io43
def io45 : List zOp := (0, 11030, 0, 11, 48) :: io44
def io46 : List zOp := (0, 64221, 0, 64, 22) :: io45
def io47 : List zOp := (1, 11030, 0, 2, 1) :: io46
def io48 : List zOp := (2, 11030, 0, 3, 1) :: io47
def io49 : List zOp := (0, 64231, 0, 64, 23) :: io48
def io50 : List zOp := (1, 11030, 0, 4, 1) :: io49
def io51 : List zOp := (0, 8241, 0, 8, 24) :: io50
def io52 : List zOp := (1, 11030, 0, 5, 1) :: io51
def io53 : List zOp := (0, 8255, 0, 8, 25) :: io52
def io54 : List zOp := (1, 11030, 0, 6, 1) :: io53
def io55 : List zOp := (0, 8261, 0, 8, 26) :: io54
def io56 : List zOp := (1, 11030, 0, 7, 1) :: io55
def io57 : List zOp := (0, 8271, 0, 8, 27) :: io56
def io58 : List zOp := (1, 11030, 0, 8, 1) :: io57
def io59 : List zOp := (0, 12281, 0, 12, 28) :: io58
def io60 : List zOp := (1, 11030, 0, 9, 1) :: io59
def io61 : List zOp := (0, 96291, 0, 96, 29) :: io60
def io62 : List zOp := (1, 11030, 0, 10, 1) :: io61
def io63 : List zOp := (2, 8241, 0, 0, 1000) :: io62
def io64 : List zOp := (2, 8241, 0, 1, 1000) :: io63
def io65 : List zOp := (2, 8241, 0, 2, 1000) :: io64
def io66 : List zOp := (2, 8241, 0, 3, 1000) :: io65
def io67 : List zOp := (2, 8241, 0, 4, 1000) :: io66
def io68 : List zOp := (2, 8241, 0, 5, 1000) :: io67
def io69 : List zOp := (2, 8241, 0, 6, 1000) :: io68
def io70 : List zOp := (2, 8241, 0, 7, 1000) :: io69
def io71 : List zOp := (1, 10090, 0, 5, 1) :: io70
def io72 : List zOp := (0, 4425, 0, 4, 49) :: io71
def io73 : List zOp := (1, 10090, 0, 6, 1) :: io72
def io74 : List zOp := (0, 3060, 0, 3, 50) :: io73
def io75 : List zOp := (0, 12351, 0, 12, 37) :: io74
def io76 : List zOp := (1, 3060, 0, 2, 1) :: io75
def io77 : List zOp := (1, 4425, 0, 0, 1) :: io76
def io78 : List zOp := (0, 3060, 1, 3, 50) :: io77
def io79 : List zOp := (0, 12351, 1, 12, 37) :: io78
def io80 : List zOp := (1, 3060, 1, 2, 2) :: io79
def io81 : List zOp := (1, 4425, 0, 1, 2) :: io80
def io82 : List zOp := (0, 3060, 2, 3, 50) :: io81
def io83 : List zOp := (0, 12351, 2, 12, 37) :: io82
def io84 : List zOp := (1, 3060, 2, 2, 3) :: io83
def io85 : List zOp := (1, 4425, 0, 2, 3) :: io84
def io86 : List zOp := (0, 3060, 3, 3, 50) :: io85
def io87 : List zOp := (0, 12351, 3, 12, 37) :: io86
def io88 : List zOp := (1, 3060, 3, 2, 4) :: io87
def io89 : List zOp := (1, 4425, 0, 3, 4) :: io88
def io90 : List zOp := (2, 10090, 0, 8, 17) :: io89
def io91 : List zOp := (0, 49100, 0, 49, 87) :: io90
def io92 : List zOp := (2, 49100, 0, 0, 17) :: io91
def io93 : List zOp := (0, 25431, 0, 25, 52) :: io92
def io94 : List zOp := (1, 49100, 0, 2, 1) :: io93
def io95 : List zOp := (0, 25441, 0, 25, 53) :: io94
def io96 : List zOp := (1, 49100, 0, 3, 1) :: io95
def io97 : List zOp := (0, 50453, 0, 50, 54) :: io96
def io98 : List zOp := (1, 49100, 0, 4, 1) :: io97
def io99 : List zOp := (0, 50461, 0, 50, 55) :: io98
def io100 : List zOp := (1, 49100, 0, 5, 1) :: io99
def io101 : List zOp := (0, 50471, 0, 50, 56) :: io100
def io102 : List zOp := (1, 49100, 0, 6, 1) :: io101
def io103 : List zOp := (0, 40481, 0, 40, 57) :: io102
def io104 : List zOp := (1, 49100, 0, 7, 1) :: io103
def io105 : List zOp := (0, 8491, 0, 8, 58) :: io104
def io106 : List zOp := (1, 49100, 0, 10, 1) :: io105
def io107 : List zOp := (0, 8501, 0, 8, 59) :: io106
def io108 : List zOp := (1, 49100, 0, 11, 1) :: io107
def io109 : List zOp := (0, 48511, 0, 48, 60) :: io108
def io110 : List zOp := (1, 49100, 0, 12, 1) :: io109
def io111 : List zOp := (0, 48521, 0, 48, 61) :: io110
def io112 : List zOp := (1, 49100, 0, 13, 1) :: io111
def io113 : List zOp := (0, 60531, 0, 60, 62) :: io112
def io114 : List zOp := (1, 49100, 0, 16, 1) :: io113
def io115 : List zOp := (0, 60541, 0, 60, 63) :: io114
def io116 : List zOp := (1, 49100, 0, 17, 1) :: io115
def io117 : List zOp := (0, 60551, 0, 60, 64) :: io116
def io118 : List zOp := (1, 49100, 0, 18, 1) :: io117
def io119 : List zOp := (0, 60561, 0, 60, 65) :: io118
def io120 : List zOp := (1, 49100, 0, 19, 1) :: io119
def io121 : List zOp := (0, 6571, 0, 6, 66) :: io120
def io122 : List zOp := (1, 49100, 0, 21, 1) :: io121
def io123 : List zOp := (0, 6581, 0, 6, 67) :: io122
def io124 : List zOp := (1, 49100, 0, 22, 1) :: io123
def io125 : List zOp := (0, 64591, 0, 64, 68) :: io124
def io126 : List zOp := (1, 49100, 0, 24, 1) :: io125
def io127 : List zOp := (0, 8601, 0, 8, 69) :: io126
def io128 : List zOp := (1, 49100, 0, 25, 1) :: io127
def io129 : List zOp := (0, 8611, 0, 8, 70) :: io128
def io130 : List zOp := (1, 49100, 0, 27, 1) :: io129
def io131 : List zOp := (0, 8621, 0, 8, 71) :: io130
def io132 : List zOp := (1, 49100, 0, 28, 1) :: io131
def io133 : List zOp := (0, 8631, 0, 8, 72) :: io132
def io134 : List zOp := (1, 49100, 0, 29, 1) :: io133
def io135 : List zOp := (0, 12641, 0, 12, 73) :: io134
def io136 : List zOp := (1, 49100, 0, 31, 1) :: io135
def io137 : List zOp := (0, 4651, 0, 4, 74) :: io136
def io138 : List zOp := (1, 49100, 0, 32, 1) :: io137
def io139 : List zOp := (0, 4661, 0, 4, 75) :: io138
def io140 : List zOp := (1, 49100, 0, 33, 1) :: io139
def io141 : List zOp := (0, 48671, 0, 48, 76) :: io140
def io142 : List zOp := (1, 49100, 0, 34, 1) :: io141
def io143 : List zOp := (0, 8681, 0, 8, 77) :: io142
def io144 : List zOp := (1, 49100, 0, 36, 1) :: io143
def io145 : List zOp := (0, 16691, 0, 16, 78) :: io144
def io146 : List zOp := (1, 49100, 0, 38, 1) :: io145
def io147 : List zOp := (3, 49100, 0, 40, 0) :: io146
def io148 : List zOp := (0, 80701, 0, 80, 79) :: io147
def io149 : List zOp := (1, 49100, 0, 41, 1) :: io148
def io150 : List zOp := (0, 8711, 0, 8, 80) :: io149
def io151 : List zOp := (1, 49100, 0, 42, 1) :: io150
def io152 : List zOp := (0, 8721, 0, 8, 81) :: io151
def io153 : List zOp := (1, 49100, 0, 43, 1) :: io152
def io154 : List zOp := (0, 2731, 0, 2, 82) :: io153
def io155 : List zOp := (1, 49100, 0, 45, 1) :: io154
def io156 : List zOp := (0, 6741, 0, 6, 83) :: io155
def io157 : List zOp := (1, 49100, 0, 46, 1) :: io156
def io158 : List zOp := (0, 64751, 0, 64, 84) :: io157
def io159 : List zOp := (1, 49100, 0, 47, 1) :: io158
def io160 : List zOp := (0, 12761, 0, 12, 85) :: io159
def io161 : List zOp := (1, 49100, 0, 48, 1) :: io160
def io162 : List zOp := (2, 8601, 0, 0, 1000) :: io161
def io163 : List zOp := (2, 8601, 0, 1, 1000) :: io162
def io164 : List zOp := (2, 8601, 0, 2, 1000) :: io163
def io165 : List zOp := (2, 8601, 0, 3, 1000) :: io164
def io166 : List zOp := (2, 8601, 0, 4, 1000) :: io165
def io167 : List zOp := (2, 8601, 0, 5, 1000) :: io166
def io168 : List zOp := (2, 8601, 0, 6, 1000) :: io167
def io169 : List zOp := (2, 8601, 0, 7, 1000) :: io168
section
variable {L : Nat} {xs : Nat → Int32}
theorem ci_X8 (d : Nat) : Rn (d + 1) 68 [z_R 4070 0] (bld L xs io2) = some (none, bld L xs io6) := by
  have fx7 : 0 + gN (bld L xs io2) 38 = 0 := congrArg (0 + ·) (gN_b (v := 0) (by decide) (by decide +kernel))
  have fx8 : gV (bld L xs io2) 40362 0 = false := gV_b (by decide +kernel)
  have fx9 : nw (bld L xs io2) 40362 0 40 38 = bld L xs io3 := rfl
  have fx10 : pR (bld L xs io3) 4070 0 0 1 = bld L xs io4 := rfl
  have fx11 : 0 + gN (bld L xs io4) 39 = 0 := congrArg (0 + ·) (gN_b (v := 0) (by decide) (by decide +kernel))
  have fx12 : gV (bld L xs io4) 9371 0 = false := gV_b (by decide +kernel)
  have fx13 : nw (bld L xs io4) 9371 0 9 39 = bld L xs io5 := rfl
  have fx14 : pR (bld L xs io5) 4070 0 1 1 = bld L xs io6 := rfl
  rw [rX8_init, bX8_init_0, fx7, fx8, if_neg Bool.false_ne_true, fx9, bX8_init_9, fx10]
  rw [bX8_init_12, fx11, fx12, if_neg Bool.false_ne_true, fx13, bX8_init_17, fx14, bX8_init_20]
theorem ci_X1 (d : Nat) : Rn (d + 1) 12 [z_R 9010 0] (bld L xs io10) = some (none, bld L xs io20) := by
  have fx23 : 0 + gN (bld L xs io10) 10 = 0 := congrArg (0 + ·) (gN_b (v := 0) (by decide) (by decide +kernel))
  have fx24 : gV (bld L xs io10) 8115 0 = false := gV_b (by decide +kernel)
  have fx25 : nw (bld L xs io10) 8115 0 8 10 = bld L xs io11 := rfl
  have fx26 : pR (bld L xs io11) 9010 0 0 1 = bld L xs io12 := rfl
  have fx27 : 0 + gN (bld L xs io12) 11 = 0 := congrArg (0 + ·) (gN_b (v := 0) (by decide) (by decide +kernel))
  have fx28 : gV (bld L xs io12) 8121 0 = false := gV_b (by decide +kernel)
  have fx29 : nw (bld L xs io12) 8121 0 8 11 = bld L xs io13 := rfl
  have fx30 : pR (bld L xs io13) 9010 0 1 1 = bld L xs io14 := rfl
  have fx31 : 0 + gN (bld L xs io14) 12 = 0 := congrArg (0 + ·) (gN_b (v := 0) (by decide) (by decide +kernel))
  have fx32 : gV (bld L xs io14) 8151 0 = false := gV_b (by decide +kernel)
  have fx33 : nw (bld L xs io14) 8151 0 8 12 = bld L xs io15 := rfl
  have fx34 : pR (bld L xs io15) 9010 0 6 1 = bld L xs io16 := rfl
  have fx35 : 0 + gN (bld L xs io16) 13 = 0 := congrArg (0 + ·) (gN_b (v := 0) (by decide) (by decide +kernel))
  have fx36 : gV (bld L xs io16) 8161 0 = false := gV_b (by decide +kernel)
  have fx37 : nw (bld L xs io16) 8161 0 8 13 = bld L xs io17 := rfl
  have fx38 : pR (bld L xs io17) 9010 0 7 1 = bld L xs io18 := rfl
  have fx39 : 0 + gN (bld L xs io18) 14 = 0 := congrArg (0 + ·) (gN_b (v := 0) (by decide) (by decide +kernel))
  have fx40 : gV (bld L xs io18) 80171 0 = false := gV_b (by decide +kernel)
  have fx41 : nw (bld L xs io18) 80171 0 80 14 = bld L xs io19 := rfl
  have fx42 : pR (bld L xs io19) 9010 0 8 1 = bld L xs io20 := rfl
  rw [rX1_init, bX1_init_0, fx23, fx24, if_neg Bool.false_ne_true, fx25, bX1_init_10, fx26]
  rw [bX1_init_13, fx27, fx28, if_neg Bool.false_ne_true, fx29, bX1_init_18, fx30, bX1_init_21]
  rw [fx31, fx32, if_neg Bool.false_ne_true, fx33, bX1_init_26, fx34, bX1_init_29, fx35]
  rw [fx36, if_neg Bool.false_ne_true, fx37, bX1_init_34, fx38, bX1_init_37, fx39, fx40]
  rw [if_neg Bool.false_ne_true, fx41, bX1_init_42, fx42, bX1_init_45]
theorem ci_X2 (d : Nat) : Rn (d + 1) 33 [z_R 6020 0] (bld L xs io22) = some (none, bld L xs io30) := by
  have fx47 : 0 + gN (bld L xs io22) 18 = 0 := congrArg (0 + ·) (gN_b (v := 0) (by decide) (by decide +kernel))
  have fx48 : gV (bld L xs io22) 60181 0 = false := gV_b (by decide +kernel)
  have fx49 : nw (bld L xs io22) 60181 0 60 18 = bld L xs io23 := rfl
  have fx50 : pR (bld L xs io23) 6020 0 2 1 = bld L xs io24 := rfl
  have fx51 : 0 + gN (bld L xs io24) 19 = 0 := congrArg (0 + ·) (gN_b (v := 0) (by decide) (by decide +kernel))
  have fx52 : gV (bld L xs io24) 60191 0 = false := gV_b (by decide +kernel)
  have fx53 : nw (bld L xs io24) 60191 0 60 19 = bld L xs io25 := rfl
  have fx54 : pR (bld L xs io25) 6020 0 3 1 = bld L xs io26 := rfl
  have fx55 : 0 + gN (bld L xs io26) 20 = 0 := congrArg (0 + ·) (gN_b (v := 0) (by decide) (by decide +kernel))
  have fx56 : gV (bld L xs io26) 60201 0 = false := gV_b (by decide +kernel)
  have fx57 : nw (bld L xs io26) 60201 0 60 20 = bld L xs io27 := rfl
  have fx58 : pR (bld L xs io27) 6020 0 4 1 = bld L xs io28 := rfl
  have fx59 : 0 + gN (bld L xs io28) 21 = 0 := congrArg (0 + ·) (gN_b (v := 0) (by decide) (by decide +kernel))
  have fx60 : gV (bld L xs io28) 60211 0 = false := gV_b (by decide +kernel)
  have fx61 : nw (bld L xs io28) 60211 0 60 21 = bld L xs io29 := rfl
  have fx62 : pR (bld L xs io29) 6020 0 5 1 = bld L xs io30 := rfl
  rw [rX2_init, bX2_init_0, fx47, fx48, if_neg Bool.false_ne_true, fx49, bX2_init_9, fx50]
  rw [bX2_init_12, fx51, fx52, if_neg Bool.false_ne_true, fx53, bX2_init_17, fx54, bX2_init_20]
  rw [fx55, fx56, if_neg Bool.false_ne_true, fx57, bX2_init_25, fx58, bX2_init_28, fx59]
  rw [fx60, if_neg Bool.false_ne_true, fx61, bX2_init_33, fx62, bX2_init_36]
theorem ci_X5 (d : Nat) : Rn (d + 2) 54 [z_R 8050 0] (bld L xs io32) = some (none, bld L xs io43) := by
  have fx67 : pI (bld L xs io32) 8050 0 2 1 = bld L xs io33 := rfl
  have fx68 : 0 + gN (bld L xs io33) 32 = 0 := congrArg (0 + ·) (gN_b (v := 0) (by decide) (by decide +kernel))
  have fx69 : gV (bld L xs io33) 6311 0 = false := gV_b (by decide +kernel)
  have fx70 : nw (bld L xs io33) 6311 0 6 32 = bld L xs io34 := rfl
  have fx71 : pR (bld L xs io34) 8050 0 3 1 = bld L xs io35 := rfl
  have fx72 : 0 + gN (bld L xs io35) 33 = 0 := congrArg (0 + ·) (gN_b (v := 0) (by decide) (by decide +kernel))
  have fx73 : gV (bld L xs io35) 6321 0 = false := gV_b (by decide +kernel)
  have fx74 : nw (bld L xs io35) 6321 0 6 33 = bld L xs io36 := rfl
  have fx75 : pR (bld L xs io36) 8050 0 4 1 = bld L xs io37 := rfl
  have fx76 : 0 + gN (bld L xs io37) 34 = 0 := congrArg (0 + ·) (gN_b (v := 0) (by decide) (by decide +kernel))
  have fx77 : gV (bld L xs io37) 6331 0 = false := gV_b (by decide +kernel)
  have fx78 : nw (bld L xs io37) 6331 0 6 34 = bld L xs io38 := rfl
  have fx79 : pR (bld L xs io38) 8050 0 5 1 = bld L xs io39 := rfl
  have fx80 : 0 + gN (bld L xs io39) 35 = 0 := congrArg (0 + ·) (gN_b (v := 0) (by decide) (by decide +kernel))
  have fx81 : gV (bld L xs io39) 6341 0 = false := gV_b (by decide +kernel)
  have fx82 : nw (bld L xs io39) 6341 0 6 35 = bld L xs io40 := rfl
  have fx83 : pR (bld L xs io40) 8050 0 6 1 = bld L xs io41 := rfl
  have fx84 : 100 + gN (bld L xs io41) 36 = 100 := congrArg (100 + ·) (gN_b (v := 0) (by decide) (by decide +kernel))
  have fx85 : gV (bld L xs io41) 6000 100 = false := gV_b (by decide +kernel)
  have fx86 : nw (bld L xs io41) 6000 100 6 36 = bld L xs io42 := rfl
  have fx87 : pR (bld L xs io42) 8050 0 7 101 = bld L xs io43 := rfl
  rw [rX5_init, bX5_init_0, if_pos q_bz1, fx67, bX5_init_9, fx68, fx69, if_neg Bool.false_ne_true]
  rw [fx70, bX5_init_14, fx71, bX5_init_17, fx72, fx73, if_neg Bool.false_ne_true, fx74]
  rw [bX5_init_22, fx75, bX5_init_25, fx76, fx77, if_neg Bool.false_ne_true, fx78, bX5_init_30]
  rw [fx79, bX5_init_33, fx80, fx81, if_neg Bool.false_ne_true, fx82, bX5_init_38, fx83]
  rw [bX5_init_41, fx84, fx85, if_neg Bool.false_ne_true, fx86, bX5_init_45, rX0_init, bX0_init_0]
  rw [q_cl, q_pn, bX5_init_49, fx87, bX5_init_52]
theorem ci_fill (d : Nat) : Rn (d + 1) 239 [z_R 8241 0, z_I (nI 1000)] (bld L xs io62) = some (none, bld L xs io70) := by
  have fx126 : pI (bld L xs io62) 8241 0 0 (nI 1000) = bld L xs io63 := rfl
  have fx127 : pI (bld L xs io63) 8241 0 1 (nI 1000) = bld L xs io64 := rfl
  have fx128 : pI (bld L xs io64) 8241 0 2 (nI 1000) = bld L xs io65 := rfl
  have fx129 : pI (bld L xs io65) 8241 0 3 (nI 1000) = bld L xs io66 := rfl
  have fx130 : pI (bld L xs io66) 8241 0 4 (nI 1000) = bld L xs io67 := rfl
  have fx131 : pI (bld L xs io67) 8241 0 5 (nI 1000) = bld L xs io68 := rfl
  have fx132 : pI (bld L xs io68) 8241 0 6 (nI 1000) = bld L xs io69 := rfl
  have fx133 : pI (bld L xs io69) 8241 0 7 (nI 1000) = bld L xs io70 := rfl
  rw [rJ7_fill_53178_c, bJ7_fill_53178_0_c, show (0 : Int32) = nI 0 from rfl]
  rw [bJ7_fill_53178_5_c, if_neg (by decide : ¬ Int32.ofNat 8 ≤ nI 0), if_pos (by decide : (z_in (nI 0) 8 && true) = true), show Int32.toNatClampNeg (nI 0) = 0 from by decide, fx126, show nI 0 + 1 = nI 1 from by decide]
  rw [bJ7_fill_53178_5_c, if_neg (by decide : ¬ Int32.ofNat 8 ≤ nI 1), if_pos (by decide : (z_in (nI 1) 8 && true) = true), show Int32.toNatClampNeg (nI 1) = 1 from by decide, fx127, show nI 1 + 1 = nI 2 from by decide]
  rw [bJ7_fill_53178_5_c, if_neg (by decide : ¬ Int32.ofNat 8 ≤ nI 2), if_pos (by decide : (z_in (nI 2) 8 && true) = true), show Int32.toNatClampNeg (nI 2) = 2 from by decide, fx128, show nI 2 + 1 = nI 3 from by decide]
  rw [bJ7_fill_53178_5_c, if_neg (by decide : ¬ Int32.ofNat 8 ≤ nI 3), if_pos (by decide : (z_in (nI 3) 8 && true) = true), show Int32.toNatClampNeg (nI 3) = 3 from by decide, fx129, show nI 3 + 1 = nI 4 from by decide]
  rw [bJ7_fill_53178_5_c, if_neg (by decide : ¬ Int32.ofNat 8 ≤ nI 4), if_pos (by decide : (z_in (nI 4) 8 && true) = true), show Int32.toNatClampNeg (nI 4) = 4 from by decide, fx130, show nI 4 + 1 = nI 5 from by decide]
  rw [bJ7_fill_53178_5_c, if_neg (by decide : ¬ Int32.ofNat 8 ≤ nI 5), if_pos (by decide : (z_in (nI 5) 8 && true) = true), show Int32.toNatClampNeg (nI 5) = 5 from by decide, fx131, show nI 5 + 1 = nI 6 from by decide]
  rw [bJ7_fill_53178_5_c, if_neg (by decide : ¬ Int32.ofNat 8 ≤ nI 6), if_pos (by decide : (z_in (nI 6) 8 && true) = true), show Int32.toNatClampNeg (nI 6) = 6 from by decide, fx132, show nI 6 + 1 = nI 7 from by decide]
  rw [bJ7_fill_53178_5_c, if_neg (by decide : ¬ Int32.ofNat 8 ≤ nI 7), if_pos (by decide : (z_in (nI 7) 8 && true) = true), show Int32.toNatClampNeg (nI 7) = 7 from by decide, fx133, show nI 7 + 1 = nI 8 from by decide]
  rw [bJ7_fill_53178_5_c, if_pos (by decide : Int32.ofNat 8 ≤ nI 8), bJ7_fill_53178_20_c]
theorem ci_X3 (d : Nat) : Rn (d + 2) 37 [z_R 11030 0] (bld L xs io45) = some (none, bld L xs io70) := by
  have fx92 : 0 + gN (bld L xs io45) 22 = 0 := congrArg (0 + ·) (gN_b (v := 0) (by decide) (by decide +kernel))
  have fx93 : gV (bld L xs io45) 64221 0 = false := gV_b (by decide +kernel)
  have fx94 : nw (bld L xs io45) 64221 0 64 22 = bld L xs io46 := rfl
  have fx95 : pR (bld L xs io46) 11030 0 2 1 = bld L xs io47 := rfl
  have fx96 : pI (bld L xs io47) 11030 0 3 1 = bld L xs io48 := rfl
  have fx97 : 0 + gN (bld L xs io48) 23 = 0 := congrArg (0 + ·) (gN_b (v := 0) (by decide) (by decide +kernel))
  have fx98 : gV (bld L xs io48) 64231 0 = false := gV_b (by decide +kernel)
  have fx99 : nw (bld L xs io48) 64231 0 64 23 = bld L xs io49 := rfl
  have fx100 : pR (bld L xs io49) 11030 0 4 1 = bld L xs io50 := rfl
  have fx101 : 0 + gN (bld L xs io50) 24 = 0 := congrArg (0 + ·) (gN_b (v := 0) (by decide) (by decide +kernel))
  have fx102 : gV (bld L xs io50) 8241 0 = false := gV_b (by decide +kernel)
  have fx103 : nw (bld L xs io50) 8241 0 8 24 = bld L xs io51 := rfl
  have fx104 : pR (bld L xs io51) 11030 0 5 1 = bld L xs io52 := rfl
  have fx105 : 0 + gN (bld L xs io52) 25 = 0 := congrArg (0 + ·) (gN_b (v := 0) (by decide) (by decide +kernel))
  have fx106 : gV (bld L xs io52) 8255 0 = false := gV_b (by decide +kernel)
  have fx107 : nw (bld L xs io52) 8255 0 8 25 = bld L xs io53 := rfl
  have fx108 : pR (bld L xs io53) 11030 0 6 1 = bld L xs io54 := rfl
  have fx109 : 0 + gN (bld L xs io54) 26 = 0 := congrArg (0 + ·) (gN_b (v := 0) (by decide) (by decide +kernel))
  have fx110 : gV (bld L xs io54) 8261 0 = false := gV_b (by decide +kernel)
  have fx111 : nw (bld L xs io54) 8261 0 8 26 = bld L xs io55 := rfl
  have fx112 : pR (bld L xs io55) 11030 0 7 1 = bld L xs io56 := rfl
  have fx113 : 0 + gN (bld L xs io56) 27 = 0 := congrArg (0 + ·) (gN_b (v := 0) (by decide) (by decide +kernel))
  have fx114 : gV (bld L xs io56) 8271 0 = false := gV_b (by decide +kernel)
  have fx115 : nw (bld L xs io56) 8271 0 8 27 = bld L xs io57 := rfl
  have fx116 : pR (bld L xs io57) 11030 0 8 1 = bld L xs io58 := rfl
  have fx117 : 0 + gN (bld L xs io58) 28 = 0 := congrArg (0 + ·) (gN_b (v := 0) (by decide) (by decide +kernel))
  have fx118 : gV (bld L xs io58) 12281 0 = false := gV_b (by decide +kernel)
  have fx119 : nw (bld L xs io58) 12281 0 12 28 = bld L xs io59 := rfl
  have fx120 : pR (bld L xs io59) 11030 0 9 1 = bld L xs io60 := rfl
  have fx121 : 0 + gN (bld L xs io60) 29 = 0 := congrArg (0 + ·) (gN_b (v := 0) (by decide) (by decide +kernel))
  have fx122 : gV (bld L xs io60) 96291 0 = false := gV_b (by decide +kernel)
  have fx123 : nw (bld L xs io60) 96291 0 96 29 = bld L xs io61 := rfl
  have fx124 : pR (bld L xs io61) 11030 0 10 1 = bld L xs io62 := rfl
  have fx125 : gR (bld L xs io62) 11030 0 5 = 1 := gR_b (by decide +kernel)
  rw [rX3_init, bX3_init_0, fx92, fx93, if_neg Bool.false_ne_true, fx94, bX3_init_9, fx95]
  rw [bX3_init_12, if_pos q_bz1, fx96, bX3_init_17, fx97, fx98, if_neg Bool.false_ne_true, fx99]
  rw [bX3_init_22, fx100, bX3_init_25, fx101, fx102, if_neg Bool.false_ne_true, fx103, bX3_init_30]
  rw [fx104, bX3_init_33, fx105, fx106, if_neg Bool.false_ne_true, fx107, bX3_init_39, fx108]
  rw [bX3_init_42, fx109, fx110, if_neg Bool.false_ne_true, fx111, bX3_init_47, fx112, bX3_init_50]
  rw [fx113, fx114, if_neg Bool.false_ne_true, fx115, bX3_init_55, fx116, bX3_init_58, fx117]
  rw [fx118, if_neg Bool.false_ne_true, fx119, bX3_init_63, fx120, bX3_init_66, fx121, fx122]
  rw [if_neg Bool.false_ne_true, fx123, bX3_init_71, fx124, bX3_init_74, if_pos fx125, show (1000 : Int32) = nI 1000 from rfl, ci_fill]
  rw [q_cl, q_pn, bX3_init_84]
theorem ci_X7_0 (d : Nat) : Rn (d + 1) 64 [z_R 3060 0] (bld L xs io74) = some (none, bld L xs io76) := by
  have fx143 : 0 + gN (bld L xs io74) 37 = 0 := congrArg (0 + ·) (gN_b (v := 0) (by decide) (by decide +kernel))
  have fx144 : gV (bld L xs io74) 12351 0 = false := gV_b (by decide +kernel)
  have fx145 : nw (bld L xs io74) 12351 0 12 37 = bld L xs io75 := rfl
  have fx146 : pR (bld L xs io75) 3060 0 2 1 = bld L xs io76 := rfl
  rw [rX7_init, bX7_init_0, fx143, fx144, if_neg Bool.false_ne_true, fx145, bX7_init_9, fx146]
  rw [bX7_init_12]
theorem ci_X7_1 (d : Nat) : Rn (d + 1) 64 [z_R 3060 1] (bld L xs io78) = some (none, bld L xs io80) := by
  have fx152 : 0 + gN (bld L xs io78) 37 = 1 := congrArg (0 + ·) (gN_b (v := 1) (by decide) (by decide +kernel))
  have fx153 : gV (bld L xs io78) 12351 1 = false := gV_b (by decide +kernel)
  have fx154 : nw (bld L xs io78) 12351 1 12 37 = bld L xs io79 := rfl
  have fx155 : pR (bld L xs io79) 3060 1 2 2 = bld L xs io80 := rfl
  rw [rX7_init, bX7_init_0, fx152, fx153, if_neg Bool.false_ne_true, fx154, bX7_init_9, fx155]
  rw [bX7_init_12]
theorem ci_X7_2 (d : Nat) : Rn (d + 1) 64 [z_R 3060 2] (bld L xs io82) = some (none, bld L xs io84) := by
  have fx161 : 0 + gN (bld L xs io82) 37 = 2 := congrArg (0 + ·) (gN_b (v := 2) (by decide) (by decide +kernel))
  have fx162 : gV (bld L xs io82) 12351 2 = false := gV_b (by decide +kernel)
  have fx163 : nw (bld L xs io82) 12351 2 12 37 = bld L xs io83 := rfl
  have fx164 : pR (bld L xs io83) 3060 2 2 3 = bld L xs io84 := rfl
  rw [rX7_init, bX7_init_0, fx161, fx162, if_neg Bool.false_ne_true, fx163, bX7_init_9, fx164]
  rw [bX7_init_12]
theorem ci_X7_3 (d : Nat) : Rn (d + 1) 64 [z_R 3060 3] (bld L xs io86) = some (none, bld L xs io88) := by
  have fx170 : 0 + gN (bld L xs io86) 37 = 3 := congrArg (0 + ·) (gN_b (v := 3) (by decide) (by decide +kernel))
  have fx171 : gV (bld L xs io86) 12351 3 = false := gV_b (by decide +kernel)
  have fx172 : nw (bld L xs io86) 12351 3 12 37 = bld L xs io87 := rfl
  have fx173 : pR (bld L xs io87) 3060 3 2 4 = bld L xs io88 := rfl
  rw [rX7_init, bX7_init_0, fx170, fx171, if_neg Bool.false_ne_true, fx172, bX7_init_9, fx173]
  rw [bX7_init_12]
theorem ci_X10 (d : Nat) : Rn (d + 3) 81 [z_R 10090 0] (bld L xs io1) = some (none, bld L xs io90) := by
  have fx4 : 0 + gN (bld L xs io1) 43 = 0 := congrArg (0 + ·) (gN_b (v := 0) (by decide) (by decide +kernel))
  have fx5 : gV (bld L xs io1) 4070 0 = false := gV_b (by decide +kernel)
  have fx6 : nw (bld L xs io1) 4070 0 4 43 = bld L xs io2 := rfl
  have fx15 : pR (bld L xs io6) 10090 0 0 1 = bld L xs io7 := rfl
  have fx16 : 0 + gN (bld L xs io7) 44 = 0 := congrArg (0 + ·) (gN_b (v := 0) (by decide) (by decide +kernel))
  have fx17 : gV (bld L xs io7) 24415 0 = false := gV_b (by decide +kernel)
  have fx18 : nw (bld L xs io7) 24415 0 24 44 = bld L xs io8 := rfl
  have fx19 : pR (bld L xs io8) 10090 0 1 1 = bld L xs io9 := rfl
  have fx20 : 0 + gN (bld L xs io9) 45 = 0 := congrArg (0 + ·) (gN_b (v := 0) (by decide) (by decide +kernel))
  have fx21 : gV (bld L xs io9) 9010 0 = false := gV_b (by decide +kernel)
  have fx22 : nw (bld L xs io9) 9010 0 9 45 = bld L xs io10 := rfl
  have fx43 : pR (bld L xs io20) 10090 0 2 1 = bld L xs io21 := rfl
  have fx44 : 0 + gN (bld L xs io21) 46 = 0 := congrArg (0 + ·) (gN_b (v := 0) (by decide) (by decide +kernel))
  have fx45 : gV (bld L xs io21) 6020 0 = false := gV_b (by decide +kernel)
  have fx46 : nw (bld L xs io21) 6020 0 6 46 = bld L xs io22 := rfl
  have fx63 : pR (bld L xs io30) 10090 0 3 1 = bld L xs io31 := rfl
  have fx64 : 0 + gN (bld L xs io31) 47 = 0 := congrArg (0 + ·) (gN_b (v := 0) (by decide) (by decide +kernel))
  have fx65 : gV (bld L xs io31) 8050 0 = false := gV_b (by decide +kernel)
  have fx66 : nw (bld L xs io31) 8050 0 8 47 = bld L xs io32 := rfl
  have fx88 : pR (bld L xs io43) 10090 0 4 1 = bld L xs io44 := rfl
  have fx89 : 0 + gN (bld L xs io44) 48 = 0 := congrArg (0 + ·) (gN_b (v := 0) (by decide) (by decide +kernel))
  have fx90 : gV (bld L xs io44) 11030 0 = false := gV_b (by decide +kernel)
  have fx91 : nw (bld L xs io44) 11030 0 11 48 = bld L xs io45 := rfl
  have fx134 : pR (bld L xs io70) 10090 0 5 1 = bld L xs io71 := rfl
  have fx135 : 0 + gN (bld L xs io71) 49 = 0 := congrArg (0 + ·) (gN_b (v := 0) (by decide) (by decide +kernel))
  have fx136 : gV (bld L xs io71) 4425 0 = false := gV_b (by decide +kernel)
  have fx137 : nw (bld L xs io71) 4425 0 4 49 = bld L xs io72 := rfl
  have fx138 : pR (bld L xs io72) 10090 0 6 1 = bld L xs io73 := rfl
  have fx139 : gR (bld L xs io73) 10090 0 6 = 1 := gR_b (by decide +kernel)
  have fx140 : 0 + gN (bld L xs io73) 50 = 0 := congrArg (0 + ·) (gN_b (v := 0) (by decide) (by decide +kernel))
  have fx141 : gV (bld L xs io73) 3060 0 = false := gV_b (by decide +kernel)
  have fx142 : nw (bld L xs io73) 3060 0 3 50 = bld L xs io74 := rfl
  have fx147 : pR (bld L xs io76) 4425 0 0 1 = bld L xs io77 := rfl
  have fx148 : gR (bld L xs io77) 10090 0 6 = 1 := gR_b (by decide +kernel)
  have fx149 : 0 + gN (bld L xs io77) 50 = 1 := congrArg (0 + ·) (gN_b (v := 1) (by decide) (by decide +kernel))
  have fx150 : gV (bld L xs io77) 3060 1 = false := gV_b (by decide +kernel)
  have fx151 : nw (bld L xs io77) 3060 1 3 50 = bld L xs io78 := rfl
  have fx156 : pR (bld L xs io80) 4425 0 1 2 = bld L xs io81 := rfl
  have fx157 : gR (bld L xs io81) 10090 0 6 = 1 := gR_b (by decide +kernel)
  have fx158 : 0 + gN (bld L xs io81) 50 = 2 := congrArg (0 + ·) (gN_b (v := 2) (by decide) (by decide +kernel))
  have fx159 : gV (bld L xs io81) 3060 2 = false := gV_b (by decide +kernel)
  have fx160 : nw (bld L xs io81) 3060 2 3 50 = bld L xs io82 := rfl
  have fx165 : pR (bld L xs io84) 4425 0 2 3 = bld L xs io85 := rfl
  have fx166 : gR (bld L xs io85) 10090 0 6 = 1 := gR_b (by decide +kernel)
  have fx167 : 0 + gN (bld L xs io85) 50 = 3 := congrArg (0 + ·) (gN_b (v := 3) (by decide) (by decide +kernel))
  have fx168 : gV (bld L xs io85) 3060 3 = false := gV_b (by decide +kernel)
  have fx169 : nw (bld L xs io85) 3060 3 3 50 = bld L xs io86 := rfl
  have fx174 : pR (bld L xs io88) 4425 0 3 4 = bld L xs io89 := rfl
  have fx175 : pI (bld L xs io89) 10090 0 8 17 = bld L xs io90 := rfl
  rw [rX10_init, bX10_init_0, fx4, fx5, if_neg Bool.false_ne_true, fx6, bX10_init_8, ci_X8]
  rw [q_cl, q_pn, bX10_init_12, fx15, bX10_init_15, fx16, fx17, if_neg Bool.false_ne_true]
  rw [fx18, bX10_init_21, fx19, bX10_init_24, fx20, fx21, if_neg Bool.false_ne_true, fx22]
  rw [bX10_init_28, ci_X1, q_cl, q_pn, bX10_init_32, fx43, bX10_init_35, fx44]
  rw [fx45, if_neg Bool.false_ne_true, fx46, bX10_init_39, ci_X2, q_cl, q_pn, bX10_init_43]
  rw [fx63, bX10_init_46, fx64, fx65, if_neg Bool.false_ne_true, fx66, bX10_init_50, ci_X5]
  rw [q_cl, q_pn, bX10_init_54, fx88, bX10_init_57, fx89, fx90, if_neg Bool.false_ne_true]
  rw [fx91, bX10_init_61, ci_X3, q_cl, q_pn, bX10_init_65, fx134, bX10_init_68]
  rw [fx135, fx136, if_neg Bool.false_ne_true, fx137, bX10_init_73, fx138, bX10_init_76, show (0 : Int32) = nI 0 from rfl]
  rw [bX10_init_78, if_neg (by decide : ¬ (4 : Int32) ≤ nI 0), if_pos fx139, fx140, fx141, if_neg Bool.false_ne_true, fx142, bX10_init_91]
  rw [ci_X7_0, q_cl, q_pn, bX10_init_95, if_pos (by decide : z_in (nI 0) 4 = true), show Int32.toNatClampNeg (nI 0) = 0 from by decide, fx147, show nI 0 + 1 = nI 1 from by decide]
  rw [bX10_init_78, if_neg (by decide : ¬ (4 : Int32) ≤ nI 1), if_pos fx148, fx149, fx150, if_neg Bool.false_ne_true, fx151, bX10_init_91]
  rw [ci_X7_1, q_cl, q_pn, bX10_init_95, if_pos (by decide : z_in (nI 1) 4 = true), show Int32.toNatClampNeg (nI 1) = 1 from by decide, fx156, show nI 1 + 1 = nI 2 from by decide]
  rw [bX10_init_78, if_neg (by decide : ¬ (4 : Int32) ≤ nI 2), if_pos fx157, fx158, fx159, if_neg Bool.false_ne_true, fx160, bX10_init_91]
  rw [ci_X7_2, q_cl, q_pn, bX10_init_95, if_pos (by decide : z_in (nI 2) 4 = true), show Int32.toNatClampNeg (nI 2) = 2 from by decide, fx165, show nI 2 + 1 = nI 3 from by decide]
  rw [bX10_init_78, if_neg (by decide : ¬ (4 : Int32) ≤ nI 3), if_pos fx166, fx167, fx168, if_neg Bool.false_ne_true, fx169, bX10_init_91]
  rw [ci_X7_3, q_cl, q_pn, bX10_init_95, if_pos (by decide : z_in (nI 3) 4 = true), show Int32.toNatClampNeg (nI 3) = 3 from by decide, fx174, show nI 3 + 1 = nI 4 from by decide]
  rw [bX10_init_78, if_pos (by decide : (4 : Int32) ≤ nI 4), bX10_init_102, fx175, bX10_init_108]
theorem ci_X11 (d : Nat) : Rn (d + 1) 137 [z_R 49100 0] (bld L xs io91) = some (none, bld L xs io169) := by
  have fx179 : pI (bld L xs io91) 49100 0 0 17 = bld L xs io92 := rfl
  have fx180 : 0 + gN (bld L xs io92) 52 = 0 := congrArg (0 + ·) (gN_b (v := 0) (by decide) (by decide +kernel))
  have fx181 : gV (bld L xs io92) 25431 0 = false := gV_b (by decide +kernel)
  have fx182 : nw (bld L xs io92) 25431 0 25 52 = bld L xs io93 := rfl
  have fx183 : pR (bld L xs io93) 49100 0 2 1 = bld L xs io94 := rfl
  have fx184 : 0 + gN (bld L xs io94) 53 = 0 := congrArg (0 + ·) (gN_b (v := 0) (by decide) (by decide +kernel))
  have fx185 : gV (bld L xs io94) 25441 0 = false := gV_b (by decide +kernel)
  have fx186 : nw (bld L xs io94) 25441 0 25 53 = bld L xs io95 := rfl
  have fx187 : pR (bld L xs io95) 49100 0 3 1 = bld L xs io96 := rfl
  have fx188 : 0 + gN (bld L xs io96) 54 = 0 := congrArg (0 + ·) (gN_b (v := 0) (by decide) (by decide +kernel))
  have fx189 : gV (bld L xs io96) 50453 0 = false := gV_b (by decide +kernel)
  have fx190 : nw (bld L xs io96) 50453 0 50 54 = bld L xs io97 := rfl
  have fx191 : pR (bld L xs io97) 49100 0 4 1 = bld L xs io98 := rfl
  have fx192 : 0 + gN (bld L xs io98) 55 = 0 := congrArg (0 + ·) (gN_b (v := 0) (by decide) (by decide +kernel))
  have fx193 : gV (bld L xs io98) 50461 0 = false := gV_b (by decide +kernel)
  have fx194 : nw (bld L xs io98) 50461 0 50 55 = bld L xs io99 := rfl
  have fx195 : pR (bld L xs io99) 49100 0 5 1 = bld L xs io100 := rfl
  have fx196 : 0 + gN (bld L xs io100) 56 = 0 := congrArg (0 + ·) (gN_b (v := 0) (by decide) (by decide +kernel))
  have fx197 : gV (bld L xs io100) 50471 0 = false := gV_b (by decide +kernel)
  have fx198 : nw (bld L xs io100) 50471 0 50 56 = bld L xs io101 := rfl
  have fx199 : pR (bld L xs io101) 49100 0 6 1 = bld L xs io102 := rfl
  have fx200 : 0 + gN (bld L xs io102) 57 = 0 := congrArg (0 + ·) (gN_b (v := 0) (by decide) (by decide +kernel))
  have fx201 : gV (bld L xs io102) 40481 0 = false := gV_b (by decide +kernel)
  have fx202 : nw (bld L xs io102) 40481 0 40 57 = bld L xs io103 := rfl
  have fx203 : pR (bld L xs io103) 49100 0 7 1 = bld L xs io104 := rfl
  have fx204 : 0 + gN (bld L xs io104) 58 = 0 := congrArg (0 + ·) (gN_b (v := 0) (by decide) (by decide +kernel))
  have fx205 : gV (bld L xs io104) 8491 0 = false := gV_b (by decide +kernel)
  have fx206 : nw (bld L xs io104) 8491 0 8 58 = bld L xs io105 := rfl
  have fx207 : pR (bld L xs io105) 49100 0 10 1 = bld L xs io106 := rfl
  have fx208 : 0 + gN (bld L xs io106) 59 = 0 := congrArg (0 + ·) (gN_b (v := 0) (by decide) (by decide +kernel))
  have fx209 : gV (bld L xs io106) 8501 0 = false := gV_b (by decide +kernel)
  have fx210 : nw (bld L xs io106) 8501 0 8 59 = bld L xs io107 := rfl
  have fx211 : pR (bld L xs io107) 49100 0 11 1 = bld L xs io108 := rfl
  have fx212 : 0 + gN (bld L xs io108) 60 = 0 := congrArg (0 + ·) (gN_b (v := 0) (by decide) (by decide +kernel))
  have fx213 : gV (bld L xs io108) 48511 0 = false := gV_b (by decide +kernel)
  have fx214 : nw (bld L xs io108) 48511 0 48 60 = bld L xs io109 := rfl
  have fx215 : pR (bld L xs io109) 49100 0 12 1 = bld L xs io110 := rfl
  have fx216 : 0 + gN (bld L xs io110) 61 = 0 := congrArg (0 + ·) (gN_b (v := 0) (by decide) (by decide +kernel))
  have fx217 : gV (bld L xs io110) 48521 0 = false := gV_b (by decide +kernel)
  have fx218 : nw (bld L xs io110) 48521 0 48 61 = bld L xs io111 := rfl
  have fx219 : pR (bld L xs io111) 49100 0 13 1 = bld L xs io112 := rfl
  have fx220 : 0 + gN (bld L xs io112) 62 = 0 := congrArg (0 + ·) (gN_b (v := 0) (by decide) (by decide +kernel))
  have fx221 : gV (bld L xs io112) 60531 0 = false := gV_b (by decide +kernel)
  have fx222 : nw (bld L xs io112) 60531 0 60 62 = bld L xs io113 := rfl
  have fx223 : pR (bld L xs io113) 49100 0 16 1 = bld L xs io114 := rfl
  have fx224 : 0 + gN (bld L xs io114) 63 = 0 := congrArg (0 + ·) (gN_b (v := 0) (by decide) (by decide +kernel))
  have fx225 : gV (bld L xs io114) 60541 0 = false := gV_b (by decide +kernel)
  have fx226 : nw (bld L xs io114) 60541 0 60 63 = bld L xs io115 := rfl
  have fx227 : pR (bld L xs io115) 49100 0 17 1 = bld L xs io116 := rfl
  have fx228 : 0 + gN (bld L xs io116) 64 = 0 := congrArg (0 + ·) (gN_b (v := 0) (by decide) (by decide +kernel))
  have fx229 : gV (bld L xs io116) 60551 0 = false := gV_b (by decide +kernel)
  have fx230 : nw (bld L xs io116) 60551 0 60 64 = bld L xs io117 := rfl
  have fx231 : pR (bld L xs io117) 49100 0 18 1 = bld L xs io118 := rfl
  have fx232 : 0 + gN (bld L xs io118) 65 = 0 := congrArg (0 + ·) (gN_b (v := 0) (by decide) (by decide +kernel))
  have fx233 : gV (bld L xs io118) 60561 0 = false := gV_b (by decide +kernel)
  have fx234 : nw (bld L xs io118) 60561 0 60 65 = bld L xs io119 := rfl
  have fx235 : pR (bld L xs io119) 49100 0 19 1 = bld L xs io120 := rfl
  have fx236 : 0 + gN (bld L xs io120) 66 = 0 := congrArg (0 + ·) (gN_b (v := 0) (by decide) (by decide +kernel))
  have fx237 : gV (bld L xs io120) 6571 0 = false := gV_b (by decide +kernel)
  have fx238 : nw (bld L xs io120) 6571 0 6 66 = bld L xs io121 := rfl
  have fx239 : pR (bld L xs io121) 49100 0 21 1 = bld L xs io122 := rfl
  have fx240 : 0 + gN (bld L xs io122) 67 = 0 := congrArg (0 + ·) (gN_b (v := 0) (by decide) (by decide +kernel))
  have fx241 : gV (bld L xs io122) 6581 0 = false := gV_b (by decide +kernel)
  have fx242 : nw (bld L xs io122) 6581 0 6 67 = bld L xs io123 := rfl
  have fx243 : pR (bld L xs io123) 49100 0 22 1 = bld L xs io124 := rfl
  have fx244 : 0 + gN (bld L xs io124) 68 = 0 := congrArg (0 + ·) (gN_b (v := 0) (by decide) (by decide +kernel))
  have fx245 : gV (bld L xs io124) 64591 0 = false := gV_b (by decide +kernel)
  have fx246 : nw (bld L xs io124) 64591 0 64 68 = bld L xs io125 := rfl
  have fx247 : pR (bld L xs io125) 49100 0 24 1 = bld L xs io126 := rfl
  have fx248 : 0 + gN (bld L xs io126) 69 = 0 := congrArg (0 + ·) (gN_b (v := 0) (by decide) (by decide +kernel))
  have fx249 : gV (bld L xs io126) 8601 0 = false := gV_b (by decide +kernel)
  have fx250 : nw (bld L xs io126) 8601 0 8 69 = bld L xs io127 := rfl
  have fx251 : pR (bld L xs io127) 49100 0 25 1 = bld L xs io128 := rfl
  have fx252 : 0 + gN (bld L xs io128) 70 = 0 := congrArg (0 + ·) (gN_b (v := 0) (by decide) (by decide +kernel))
  have fx253 : gV (bld L xs io128) 8611 0 = false := gV_b (by decide +kernel)
  have fx254 : nw (bld L xs io128) 8611 0 8 70 = bld L xs io129 := rfl
  have fx255 : pR (bld L xs io129) 49100 0 27 1 = bld L xs io130 := rfl
  have fx256 : 0 + gN (bld L xs io130) 71 = 0 := congrArg (0 + ·) (gN_b (v := 0) (by decide) (by decide +kernel))
  have fx257 : gV (bld L xs io130) 8621 0 = false := gV_b (by decide +kernel)
  have fx258 : nw (bld L xs io130) 8621 0 8 71 = bld L xs io131 := rfl
  have fx259 : pR (bld L xs io131) 49100 0 28 1 = bld L xs io132 := rfl
  have fx260 : 0 + gN (bld L xs io132) 72 = 0 := congrArg (0 + ·) (gN_b (v := 0) (by decide) (by decide +kernel))
  have fx261 : gV (bld L xs io132) 8631 0 = false := gV_b (by decide +kernel)
  have fx262 : nw (bld L xs io132) 8631 0 8 72 = bld L xs io133 := rfl
  have fx263 : pR (bld L xs io133) 49100 0 29 1 = bld L xs io134 := rfl
  have fx264 : 0 + gN (bld L xs io134) 73 = 0 := congrArg (0 + ·) (gN_b (v := 0) (by decide) (by decide +kernel))
  have fx265 : gV (bld L xs io134) 12641 0 = false := gV_b (by decide +kernel)
  have fx266 : nw (bld L xs io134) 12641 0 12 73 = bld L xs io135 := rfl
  have fx267 : pR (bld L xs io135) 49100 0 31 1 = bld L xs io136 := rfl
  have fx268 : 0 + gN (bld L xs io136) 74 = 0 := congrArg (0 + ·) (gN_b (v := 0) (by decide) (by decide +kernel))
  have fx269 : gV (bld L xs io136) 4651 0 = false := gV_b (by decide +kernel)
  have fx270 : nw (bld L xs io136) 4651 0 4 74 = bld L xs io137 := rfl
  have fx271 : pR (bld L xs io137) 49100 0 32 1 = bld L xs io138 := rfl
  have fx272 : 0 + gN (bld L xs io138) 75 = 0 := congrArg (0 + ·) (gN_b (v := 0) (by decide) (by decide +kernel))
  have fx273 : gV (bld L xs io138) 4661 0 = false := gV_b (by decide +kernel)
  have fx274 : nw (bld L xs io138) 4661 0 4 75 = bld L xs io139 := rfl
  have fx275 : pR (bld L xs io139) 49100 0 33 1 = bld L xs io140 := rfl
  have fx276 : 0 + gN (bld L xs io140) 76 = 0 := congrArg (0 + ·) (gN_b (v := 0) (by decide) (by decide +kernel))
  have fx277 : gV (bld L xs io140) 48671 0 = false := gV_b (by decide +kernel)
  have fx278 : nw (bld L xs io140) 48671 0 48 76 = bld L xs io141 := rfl
  have fx279 : pR (bld L xs io141) 49100 0 34 1 = bld L xs io142 := rfl
  have fx280 : 0 + gN (bld L xs io142) 77 = 0 := congrArg (0 + ·) (gN_b (v := 0) (by decide) (by decide +kernel))
  have fx281 : gV (bld L xs io142) 8681 0 = false := gV_b (by decide +kernel)
  have fx282 : nw (bld L xs io142) 8681 0 8 77 = bld L xs io143 := rfl
  have fx283 : pR (bld L xs io143) 49100 0 36 1 = bld L xs io144 := rfl
  have fx284 : 0 + gN (bld L xs io144) 78 = 0 := congrArg (0 + ·) (gN_b (v := 0) (by decide) (by decide +kernel))
  have fx285 : gV (bld L xs io144) 16691 0 = false := gV_b (by decide +kernel)
  have fx286 : nw (bld L xs io144) 16691 0 16 78 = bld L xs io145 := rfl
  have fx287 : pR (bld L xs io145) 49100 0 38 1 = bld L xs io146 := rfl
  have fx288 : pI (bld L xs io146) 49100 0 40 (-1) = bld L xs io147 := rfl
  have fx289 : 0 + gN (bld L xs io147) 79 = 0 := congrArg (0 + ·) (gN_b (v := 0) (by decide) (by decide +kernel))
  have fx290 : gV (bld L xs io147) 80701 0 = false := gV_b (by decide +kernel)
  have fx291 : nw (bld L xs io147) 80701 0 80 79 = bld L xs io148 := rfl
  have fx292 : pR (bld L xs io148) 49100 0 41 1 = bld L xs io149 := rfl
  have fx293 : 0 + gN (bld L xs io149) 80 = 0 := congrArg (0 + ·) (gN_b (v := 0) (by decide) (by decide +kernel))
  have fx294 : gV (bld L xs io149) 8711 0 = false := gV_b (by decide +kernel)
  have fx295 : nw (bld L xs io149) 8711 0 8 80 = bld L xs io150 := rfl
  have fx296 : pR (bld L xs io150) 49100 0 42 1 = bld L xs io151 := rfl
  have fx297 : 0 + gN (bld L xs io151) 81 = 0 := congrArg (0 + ·) (gN_b (v := 0) (by decide) (by decide +kernel))
  have fx298 : gV (bld L xs io151) 8721 0 = false := gV_b (by decide +kernel)
  have fx299 : nw (bld L xs io151) 8721 0 8 81 = bld L xs io152 := rfl
  have fx300 : pR (bld L xs io152) 49100 0 43 1 = bld L xs io153 := rfl
  have fx301 : 0 + gN (bld L xs io153) 82 = 0 := congrArg (0 + ·) (gN_b (v := 0) (by decide) (by decide +kernel))
  have fx302 : gV (bld L xs io153) 2731 0 = false := gV_b (by decide +kernel)
  have fx303 : nw (bld L xs io153) 2731 0 2 82 = bld L xs io154 := rfl
  have fx304 : pR (bld L xs io154) 49100 0 45 1 = bld L xs io155 := rfl
  have fx305 : 0 + gN (bld L xs io155) 83 = 0 := congrArg (0 + ·) (gN_b (v := 0) (by decide) (by decide +kernel))
  have fx306 : gV (bld L xs io155) 6741 0 = false := gV_b (by decide +kernel)
  have fx307 : nw (bld L xs io155) 6741 0 6 83 = bld L xs io156 := rfl
  have fx308 : pR (bld L xs io156) 49100 0 46 1 = bld L xs io157 := rfl
  have fx309 : 0 + gN (bld L xs io157) 84 = 0 := congrArg (0 + ·) (gN_b (v := 0) (by decide) (by decide +kernel))
  have fx310 : gV (bld L xs io157) 64751 0 = false := gV_b (by decide +kernel)
  have fx311 : nw (bld L xs io157) 64751 0 64 84 = bld L xs io158 := rfl
  have fx312 : pR (bld L xs io158) 49100 0 47 1 = bld L xs io159 := rfl
  have fx313 : 0 + gN (bld L xs io159) 85 = 0 := congrArg (0 + ·) (gN_b (v := 0) (by decide) (by decide +kernel))
  have fx314 : gV (bld L xs io159) 12761 0 = false := gV_b (by decide +kernel)
  have fx315 : nw (bld L xs io159) 12761 0 12 85 = bld L xs io160 := rfl
  have fx316 : pR (bld L xs io160) 49100 0 48 1 = bld L xs io161 := rfl
  have fx317 : gR (bld L xs io161) 49100 0 25 = 1 := gR_b (by decide +kernel)
  have fx318 : pI (bld L xs io161) 8601 0 0 1000 = bld L xs io162 := rfl
  have fx319 : gR (bld L xs io162) 49100 0 25 = 1 := gR_b (by decide +kernel)
  have fx320 : pI (bld L xs io162) 8601 0 1 1000 = bld L xs io163 := rfl
  have fx321 : gR (bld L xs io163) 49100 0 25 = 1 := gR_b (by decide +kernel)
  have fx322 : pI (bld L xs io163) 8601 0 2 1000 = bld L xs io164 := rfl
  have fx323 : gR (bld L xs io164) 49100 0 25 = 1 := gR_b (by decide +kernel)
  have fx324 : pI (bld L xs io164) 8601 0 3 1000 = bld L xs io165 := rfl
  have fx325 : gR (bld L xs io165) 49100 0 25 = 1 := gR_b (by decide +kernel)
  have fx326 : pI (bld L xs io165) 8601 0 4 1000 = bld L xs io166 := rfl
  have fx327 : gR (bld L xs io166) 49100 0 25 = 1 := gR_b (by decide +kernel)
  have fx328 : pI (bld L xs io166) 8601 0 5 1000 = bld L xs io167 := rfl
  have fx329 : gR (bld L xs io167) 49100 0 25 = 1 := gR_b (by decide +kernel)
  have fx330 : pI (bld L xs io167) 8601 0 6 1000 = bld L xs io168 := rfl
  have fx331 : gR (bld L xs io168) 49100 0 25 = 1 := gR_b (by decide +kernel)
  have fx332 : pI (bld L xs io168) 8601 0 7 1000 = bld L xs io169 := rfl
  rw [rX11_init, bX11_init_0, fx179, bX11_init_10, fx180, fx181, if_neg Bool.false_ne_true, fx182]
  rw [bX11_init_15, fx183, bX11_init_18, fx184, fx185, if_neg Bool.false_ne_true, fx186, bX11_init_23]
  rw [fx187, bX11_init_26, fx188, fx189, if_neg Bool.false_ne_true, fx190, bX11_init_31, fx191]
  rw [bX11_init_34, fx192, fx193, if_neg Bool.false_ne_true, fx194, bX11_init_39, fx195, bX11_init_42]
  rw [fx196, fx197, if_neg Bool.false_ne_true, fx198, bX11_init_47, fx199, bX11_init_50, fx200]
  rw [fx201, if_neg Bool.false_ne_true, fx202, bX11_init_55, fx203, bX11_init_58, fx204, fx205]
  rw [if_neg Bool.false_ne_true, fx206, bX11_init_63, fx207, bX11_init_66, fx208, fx209, if_neg Bool.false_ne_true]
  rw [fx210, bX11_init_71, fx211, bX11_init_74, fx212, fx213, if_neg Bool.false_ne_true, fx214]
  rw [bX11_init_79, fx215, bX11_init_82, fx216, fx217, if_neg Bool.false_ne_true, fx218, bX11_init_87]
  rw [fx219, bX11_init_90, fx220, fx221, if_neg Bool.false_ne_true, fx222, bX11_init_95, fx223]
  rw [bX11_init_98, fx224, fx225, if_neg Bool.false_ne_true, fx226, bX11_init_103, fx227, bX11_init_106]
  rw [fx228, fx229, if_neg Bool.false_ne_true, fx230, bX11_init_111, fx231, bX11_init_114, fx232]
  rw [fx233, if_neg Bool.false_ne_true, fx234, bX11_init_119, fx235, bX11_init_122, fx236, fx237]
  rw [if_neg Bool.false_ne_true, fx238, bX11_init_127, fx239, bX11_init_130, fx240, fx241, if_neg Bool.false_ne_true]
  rw [fx242, bX11_init_135, fx243, bX11_init_138, fx244, fx245, if_neg Bool.false_ne_true, fx246]
  rw [bX11_init_143, fx247, bX11_init_146, fx248, fx249, if_neg Bool.false_ne_true, fx250, bX11_init_151]
  rw [fx251, bX11_init_154, fx252, fx253, if_neg Bool.false_ne_true, fx254, bX11_init_159, fx255]
  rw [bX11_init_162, fx256, fx257, if_neg Bool.false_ne_true, fx258, bX11_init_167, fx259, bX11_init_170]
  rw [fx260, fx261, if_neg Bool.false_ne_true, fx262, bX11_init_175, fx263, bX11_init_178, fx264]
  rw [fx265, if_neg Bool.false_ne_true, fx266, bX11_init_183, fx267, bX11_init_186, fx268, fx269]
  rw [if_neg Bool.false_ne_true, fx270, bX11_init_190, fx271, bX11_init_193, fx272, fx273, if_neg Bool.false_ne_true]
  rw [fx274, bX11_init_197, fx275, bX11_init_200, fx276, fx277, if_neg Bool.false_ne_true, fx278]
  rw [bX11_init_205, fx279, bX11_init_208, fx280, fx281, if_neg Bool.false_ne_true, fx282, bX11_init_213]
  rw [fx283, bX11_init_216, fx284, fx285, if_neg Bool.false_ne_true, fx286, bX11_init_221, fx287]
  rw [bX11_init_224, fx288, bX11_init_229, fx289, fx290, if_neg Bool.false_ne_true, fx291, bX11_init_234]
  rw [fx292, bX11_init_237, fx293, fx294, if_neg Bool.false_ne_true, fx295, bX11_init_242, fx296]
  rw [bX11_init_245, fx297, fx298, if_neg Bool.false_ne_true, fx299, bX11_init_250, fx300, bX11_init_253]
  rw [fx301, fx302, if_neg Bool.false_ne_true, fx303, bX11_init_257, fx304, bX11_init_260, fx305]
  rw [fx306, if_neg Bool.false_ne_true, fx307, bX11_init_265, fx308, bX11_init_268, fx309, fx310]
  rw [if_neg Bool.false_ne_true, fx311, bX11_init_273, fx312, bX11_init_276, fx313, fx314, if_neg Bool.false_ne_true]
  rw [fx315, bX11_init_281, fx316, bX11_init_284, show (0 : Int32) = nI 0 from rfl, bX11_init_286, if_neg (by decide : ¬ (8 : Int32) ≤ nI 0), if_pos fx317]
  rw [if_pos (by decide : (z_in (nI 0) 8 && true) = true), show Int32.toNatClampNeg (nI 0) = 0 from by decide, fx318, show nI 0 + 1 = nI 1 from by decide, bX11_init_286, if_neg (by decide : ¬ (8 : Int32) ≤ nI 1), if_pos fx319, if_pos (by decide : (z_in (nI 1) 8 && true) = true)]
  rw [show Int32.toNatClampNeg (nI 1) = 1 from by decide, fx320, show nI 1 + 1 = nI 2 from by decide, bX11_init_286, if_neg (by decide : ¬ (8 : Int32) ≤ nI 2), if_pos fx321, if_pos (by decide : (z_in (nI 2) 8 && true) = true), show Int32.toNatClampNeg (nI 2) = 2 from by decide]
  rw [fx322, show nI 2 + 1 = nI 3 from by decide, bX11_init_286, if_neg (by decide : ¬ (8 : Int32) ≤ nI 3), if_pos fx323, if_pos (by decide : (z_in (nI 3) 8 && true) = true), show Int32.toNatClampNeg (nI 3) = 3 from by decide, fx324]
  rw [show nI 3 + 1 = nI 4 from by decide, bX11_init_286, if_neg (by decide : ¬ (8 : Int32) ≤ nI 4), if_pos fx325, if_pos (by decide : (z_in (nI 4) 8 && true) = true), show Int32.toNatClampNeg (nI 4) = 4 from by decide, fx326, show nI 4 + 1 = nI 5 from by decide]
  rw [bX11_init_286, if_neg (by decide : ¬ (8 : Int32) ≤ nI 5), if_pos fx327, if_pos (by decide : (z_in (nI 5) 8 && true) = true), show Int32.toNatClampNeg (nI 5) = 5 from by decide, fx328, show nI 5 + 1 = nI 6 from by decide, bX11_init_286]
  rw [if_neg (by decide : ¬ (8 : Int32) ≤ nI 6), if_pos fx329, if_pos (by decide : (z_in (nI 6) 8 && true) = true), show Int32.toNatClampNeg (nI 6) = 6 from by decide, fx330, show nI 6 + 1 = nI 7 from by decide, bX11_init_286, if_neg (by decide : ¬ (8 : Int32) ≤ nI 7)]
  rw [if_pos fx331, if_pos (by decide : (z_in (nI 7) 8 && true) = true), show Int32.toNatClampNeg (nI 7) = 7 from by decide, fx332, show nI 7 + 1 = nI 8 from by decide, bX11_init_286, if_pos (by decide : (8 : Int32) ≤ nI 8), bX11_init_307]
theorem ci_law (d : Nat) : EX (d + 3) 250 0 [z_R 7 0, z_U, z_U, z_U] [] (bld L xs io0) = EX (d + 3) 250 18 [z_R 7 0, z_R 10090 0, z_R 49100 0, z_I 0] [] (bld L xs io169) := by
  have fx1 : 0 + gN (bld L xs io0) 86 = 0 := congrArg (0 + ·) (gN_b (v := 0) (by decide) (by decide +kernel))
  have fx2 : gV (bld L xs io0) 10090 0 = false := gV_b (by decide +kernel)
  have fx3 : nw (bld L xs io0) 10090 0 10 86 = bld L xs io1 := rfl
  have fx176 : 0 + gN (bld L xs io90) 87 = 0 := congrArg (0 + ·) (gN_b (v := 0) (by decide) (by decide +kernel))
  have fx177 : gV (bld L xs io90) 49100 0 = false := gV_b (by decide +kernel)
  have fx178 : nw (bld L xs io90) 49100 0 49 87 = bld L xs io91 := rfl
  rw [bL_law_0, fx1, fx2, if_neg Bool.false_ne_true, fx3, ci_X10, q_cl, q_pn]
  rw [bL_law_7, fx176, fx177, if_neg Bool.false_ne_true, fx178, ci_X11, q_cl, q_pn]
  rw [bL_law_15]
end
