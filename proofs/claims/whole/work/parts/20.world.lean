/-! ===== the machine's heap and the JVM's: how they stand to one another ===== -/
/-- what stays the same in the whole run: class numbers, places of fields, array classes, where the law's heap begins, the script's address, its length, its ints, the texts' addresses and those of their bytes -/
abbrev z_Q : Type := (Nat → ClassId) × (Nat → Nat → Nat) × (Nat → ClassId) × Nat × Nat × Nat × (Nat → Int32) × (Nat → Nat) × (Nat → Nat)
abbrev zD (κ : z_Q) : va_G := (κ.1, κ.2.1)
abbrev za (κ : z_Q) : Nat → ClassId := κ.2.2.1
abbrev zz (κ : z_Q) : Nat := κ.2.2.2.1
abbrev zb (κ : z_Q) : Nat := κ.2.2.2.2.1
abbrev zn (κ : z_Q) : Nat := κ.2.2.2.2.2.1
abbrev zx (κ : z_Q) : Nat → Int32 := κ.2.2.2.2.2.2.1
abbrev zk (κ : z_Q) : Nat → Nat := κ.2.2.2.2.2.2.2.1
abbrev zv (κ : z_Q) : Nat → Nat := κ.2.2.2.2.2.2.2.2
def z_fr (κ : z_Q) : Nat → Prop := fun q => zz κ ≤ q
def z_rv (loc : Nat → Nat → Nat) (v : z_V) : Value := match v with
  | Sum.inl x => .int x
  | Sum.inr (Sum.inl x) => .long x
  | Sum.inr (Sum.inr (Sum.inl (p, i))) => .ref (loc p i)
  | Sum.inr (Sum.inr (Sum.inr _)) => .null
def z_fv (loc : Nat → Nat → Nat) (h : z_H) (p i k : Nat) : Value := if z_ft p k ≤ 1 then .int (gI h p i k) else if gR h p i k = 0 then .null else .ref (loc (z_ft p k) (gR h p i k - 1))
def z_rr (loc : Nat → Nat → Nat) (h : z_H) (p i k : Nat) : Option Nat := if gR h p i k = 0 then none else some (loc (z_ep p) (gR h p i k - 1))
def z_en (aC : Nat → ClassId) (loc : Nat → Nat → Nat) (h : z_H) (p i : Nat) : va_E := match z_kd p with
  | 0 => .inr (z_sq p, (List.range (z_ln p)).map (z_fv loc h p i))
  | 4 => .inl (aC 4, z_ln p, .inr (.inl (gJ h p i)))
  | 5 => .inl (aC (10 + z_sq (z_ep p)), z_ln p, .inr (.inr (.inr (.inr (z_rr loc h p i)))))
  | kd => .inl (aC kd, z_ln p, .inl (gI h p i))
def z_rp (p k : Nat) : Nat := if z_kd p = 0 then z_ft p k else z_ep p
/-- the list of the array classes -/
abbrev z_tys (aC : Nat → ClassId) : List (ClassId × FieldType) := [(aC 1, .int), (aC 2, .char), (aC 3, .boolean), (aC 4, .long), (aC 10, .object "DaughterTongues$Change"), (aC 14, .object "DaughterTongues$Law"), (aC 16, .object "DaughterTongues$Sheet"), (aC 18, .object "DaughterTongues$Tongue")]
def z_at (κ : z_Q) (loc : Nat → Nat → Nat) (h : z_H) (L : List Nat) (f : Nat → va_E) : Prop :=
  (∀ p i, gV h p i = true → p ∈ z_pools ∧ loc p i ∈ L ∧ f (loc p i) = z_en (za κ) loc h p i) ∧
  (∀ p i q j, gV h p i = true → gV h q j = true → loc p i = loc q j → p = q ∧ i = j) ∧
  (∀ p i k, gV h p i = true → gR h p i k ≠ 0 → gV h (z_rp p k) (gR h p i k - 1) = true) ∧
  (loc 7 0 = zb κ ∧ (∀ k, k < 8 → loc 8 k = zk κ k ∧ loc 9 k = zv κ k) ∧ gN h 7 = zn κ ∧ ∀ k, gI h 7 0 k = zx κ k)
def z_wd (κ : z_Q) (loc : Nat → Nat → Nat) (h : z_H) (H : Heap) : Prop :=
  ∃ (L : List Nat) (f : Nat → va_E), va_P (zD κ) z_cls (va_pl L f) H ∧ va_D (z_fr κ) (va_pl L f) ∧ z_at κ loc h L f ∧ zz κ ≤ H.size
/-- a value that may be used: no unset one, a living cell, the script, a text -/
def z_lv (h : z_H) (v : z_V) : Prop := match v with
  | Sum.inr (Sum.inr (Sum.inl (p, i))) => gV h p i = true ∨ (p = 7 ∧ i = 0) ∨ ((p = 8 ∨ p = 9) ∧ i < 8)
  | Sum.inr (Sum.inr (Sum.inr true)) => False
  | _ => True
def z_ex (h : z_H) (loc loc' : Nat → Nat → Nat) : Prop := (∀ p i, gV h p i = true → loc' p i = loc p i) ∧ loc' 7 0 = loc 7 0 ∧ ∀ k, k < 8 → loc' 8 k = loc 8 k ∧ loc' 9 k = loc 9 k
theorem z_ex_rfl (h : z_H) (loc : Nat → Nat → Nat) : z_ex h loc loc := ⟨fun _ _ _ => rfl, rfl, fun _ _ => ⟨rfl, rfl⟩⟩
theorem z_ex_trans {h h' : z_H} {a b c : Nat → Nat → Nat} (hl : z_le h h') (h1 : z_ex h a b) (h2 : z_ex h' b c) : z_ex h a c :=
  ⟨fun p i q => (h2.1 p i (hl.2.2 p i q)).trans (h1.1 p i q), h2.2.1.trans h1.2.1, fun k q => ⟨(h2.2.2 k q).1.trans (h1.2.2 k q).1, (h2.2.2 k q).2.trans (h1.2.2 k q).2⟩⟩
theorem z_lv_mono {h h' : z_H} (hl : z_le h h') {v : z_V} (q : z_lv h v) : z_lv h' v := by
  rcases v with x | x | ⟨p, i⟩ | b
  · trivial
  · trivial
  · rcases q with q | q
    · exact Or.inl (hl.2.2 p i q)
    · exact Or.inr q
  · cases b
    · trivial
    · exact q
theorem z_rv_ex {h : z_H} {loc loc' : Nat → Nat → Nat} (he : z_ex h loc loc') {v : z_V} (q : z_lv h v) : z_rv loc' v = z_rv loc v := by
  rcases v with x | x | ⟨p, i⟩ | b
  · rfl
  · rfl
  · show Value.ref (loc' p i) = Value.ref (loc p i)
    rcases q with q | ⟨rfl, rfl⟩ | ⟨rfl | rfl, q⟩
    · rw [he.1 p i q]
    · rw [he.2.1]
    · rw [(he.2.2 i q).1]
    · rw [(he.2.2 i q).2]
  · rfl
theorem z_st_ex {h : z_H} {loc loc' : Nat → Nat → Nat} (he : z_ex h loc loc') {s : List z_V} (q : ∀ v ∈ s, z_lv h v) : s.map (z_rv loc') = s.map (z_rv loc) := List.map_congr_left fun v hv => z_rv_ex he (q v hv)
/-- pools -/
theorem z_pool_kd : ∀ p ∈ z_pools, p % 10 = 0 ∨ p % 10 = 1 ∨ p % 10 = 2 ∨ p % 10 = 3 ∨ p % 10 = 4 ∨ p % 10 = 5 := by decide +kernel
theorem z_pool_7 : ∀ p ∈ z_pools, p ≠ 7 ∧ p ≠ 8 ∧ p ≠ 9 := by decide +kernel
theorem z_pool_obj : ∀ p ∈ z_pools, p % 10 = 0 → p / 10 % 100 < 11 ∧ (z_C (p / 10 % 100)).2.2 = p / 1000 := by decide +kernel
theorem z_pool_ref : ∀ p ∈ z_pools, p % 10 = 5 → z_ep p ∈ z_pools ∧ z_ep p % 10 = 0 ∧ (z_tys (fun k => k))[if z_ep p / 10 % 100 = 0 then 4 else if z_ep p / 10 % 100 = 4 then 5 else if z_ep p / 10 % 100 = 6 then 6 else 7]? = some (10 + z_ep p / 10 % 100, .object (z_C (z_ep p / 10 % 100)).1) := by decide +kernel
theorem gI_pI (h : z_H) (p i k : Nat) (v : Int32) (q j n : Nat) : gI (pI h p i k v) q j n = if q = p ∧ j = i ∧ n = k then v else gI h q j n := rfl
theorem gJ_pI (h : z_H) (p i k : Nat) (v : Int32) (q j n : Nat) : gJ (pI h p i k v) q j n = gJ h q j n := rfl
theorem gR_pI (h : z_H) (p i k : Nat) (v : Int32) (q j n : Nat) : gR (pI h p i k v) q j n = gR h q j n := rfl
theorem gV_pI (h : z_H) (p i k : Nat) (v : Int32) (q j : Nat) : gV (pI h p i k v) q j = gV h q j := rfl
theorem gN_pI (h : z_H) (p i k : Nat) (v : Int32) (q : Nat) : gN (pI h p i k v) q = gN h q := rfl
theorem gI_pJ (h : z_H) (p i k : Nat) (v : Int64) (q j n : Nat) : gI (pJ h p i k v) q j n = gI h q j n := rfl
theorem gJ_pJ (h : z_H) (p i k : Nat) (v : Int64) (q j n : Nat) : gJ (pJ h p i k v) q j n = if q = p ∧ j = i ∧ n = k then v else gJ h q j n := rfl
theorem gR_pJ (h : z_H) (p i k : Nat) (v : Int64) (q j n : Nat) : gR (pJ h p i k v) q j n = gR h q j n := rfl
theorem gI_pR (h : z_H) (p i k : Nat) (v : Nat) (q j n : Nat) : gI (pR h p i k v) q j n = gI h q j n := rfl
theorem gJ_pR (h : z_H) (p i k : Nat) (v : Nat) (q j n : Nat) : gJ (pR h p i k v) q j n = gJ h q j n := rfl
theorem gR_pR (h : z_H) (p i k : Nat) (v : Nat) (q j n : Nat) : gR (pR h p i k v) q j n = if q = p ∧ j = i ∧ n = k then v else gR h q j n := rfl
theorem gI_pA (h : z_H) (p i : Nat) (v : Nat → Int32) (q j n : Nat) : gI (pA h p i v) q j n = if q = p ∧ j = i then v n else gI h q j n := rfl
theorem gJ_pA (h : z_H) (p i : Nat) (v : Nat → Int32) (q j n : Nat) : gJ (pA h p i v) q j n = gJ h q j n := rfl
theorem gR_pA (h : z_H) (p i : Nat) (v : Nat → Int32) (q j n : Nat) : gR (pA h p i v) q j n = gR h q j n := rfl
theorem gI_nw (h : z_H) (p i m s : Nat) (q j n : Nat) : gI (nw h p i m s) q j n = if q = p ∧ j = i then 0 else gI h q j n := rfl
theorem gJ_nw (h : z_H) (p i m s : Nat) (q j n : Nat) : gJ (nw h p i m s) q j n = if q = p ∧ j = i then 0 else gJ h q j n := rfl
theorem gR_nw (h : z_H) (p i m s : Nat) (q j n : Nat) : gR (nw h p i m s) q j n = if q = p ∧ j = i then 0 else gR h q j n := rfl
theorem gV_nw (h : z_H) (p i m s : Nat) (q j : Nat) : gV (nw h p i m s) q j = if q = p ∧ j = i then true else gV h q j := rfl
theorem gN_nw (h : z_H) (p i m s t : Nat) : gN (nw h p i m s) t = if t = s then gN h s + 1 else gN h t := rfl
/-- a cell's picture hangs on its own slots alone -/
theorem z_en_congr {aC : Nat → ClassId} {loc loc' : Nat → Nat → Nat} {h h' : z_H} {p i : Nat} (h1 : ∀ k, gI h' p i k = gI h p i k) (h2 : ∀ k, gJ h' p i k = gJ h p i k) (h3 : ∀ k, gR h' p i k = gR h p i k) (h4 : ∀ k, gR h p i k ≠ 0 → loc' (z_rp p k) (gR h p i k - 1) = loc (z_rp p k) (gR h p i k - 1)) : z_en aC loc' h' p i = z_en aC loc h p i := by
  have e1 : gI h' p i = gI h p i := funext h1
  have e2 : gJ h' p i = gJ h p i := funext h2
  unfold z_en
  rw [e1, e2]
  have e3 : z_kd p = 0 → z_fv loc' h' p i = z_fv loc h p i := by
    intro hk
    funext k
    unfold z_fv
    rw [h1, h3]
    by_cases hr : gR h p i k = 0
    · simp [hr]
    · have := h4 k hr
      unfold z_rp at this
      rw [if_pos hk] at this
      rw [this]
  have e4 : z_kd p = 5 → z_rr loc' h' p i = z_rr loc h p i := by
    intro hk
    funext k
    unfold z_rr
    rw [h3]
    by_cases hr : gR h p i k = 0
    · simp [hr]
    · have := h4 k hr
      unfold z_rp at this
      rw [if_neg (by omega)] at this
      rw [this]
  split
  · next hk => rw [e3 hk]
  · rfl
  · next hk => rw [e4 hk]
  · rfl
/-- a living cell gets other contents -/
theorem z_at_upd {κ : z_Q} {loc : Nat → Nat → Nat} {h h' : z_H} {L : List Nat} {f : Nat → va_E} {p i : Nat} (hA : z_at κ loc h L f) (hv : gV h p i = true) (hV : ∀ q j, gV h' q j = gV h q j)
    (hI : ∀ q j, ¬ (q = p ∧ j = i) → ∀ k, gI h' q j k = gI h q j k) (hJ : ∀ q j, ¬ (q = p ∧ j = i) → ∀ k, gJ h' q j k = gJ h q j k) (hRe : ∀ q j, ¬ (q = p ∧ j = i) → ∀ k, gR h' q j k = gR h q j k)
    (hR : ∀ k, gR h' p i k ≠ 0 → gV h (z_rp p k) (gR h' p i k - 1) = true) (hN : gN h' 7 = gN h 7) : z_at κ loc h' L (va_up f (loc p i) (z_en (za κ) loc h' p i)) := by
  obtain ⟨a1, a2, a3, a4, a5, a6, a7⟩ := hA
  have hp7 : ¬ (7 = p ∧ 0 = i) := fun q => (z_pool_7 p (a1 p i hv).1).1 q.1.symm
  refine ⟨fun q j hq => ?_, fun q j q' j' h1 h2 => a2 q j q' j' ((hV q j).symm.trans h1) ((hV q' j').symm.trans h2), fun q j k hq hr => ?_, a4, a5, hN.trans a6, fun k => (hI 7 0 hp7 k).trans (a7 k)⟩
  · rw [hV] at hq
    obtain ⟨b1, b2, b3⟩ := a1 q j hq
    refine ⟨b1, b2, ?_⟩
    by_cases e : q = p ∧ j = i
    · obtain ⟨rfl, rfl⟩ := e
      rw [va_up_self]
    · rw [va_up_ne _ _ (fun z => e (a2 q j p i hq hv z)), b3]
      exact (z_en_congr (hI q j e) (hJ q j e) (hRe q j e) (fun _ _ => rfl)).symm
  · rw [hV] at hq ⊢
    by_cases e : q = p ∧ j = i
    · obtain ⟨rfl, rfl⟩ := e
      exact hR k hr
    · rw [hRe q j e] at hr ⊢
      exact a3 q j k hq hr
/-- a new cell -/
theorem z_at_new {κ : z_Q} {loc : Nat → Nat → Nat} {h : z_H} {L : List Nat} {f : Nat → va_E} {p i n s a : Nat} (hA : z_at κ loc h L f) (hp : p ∈ z_pools) (hv : gV h p i = false) (hs : s ≠ 7) (ha : a ∉ L) :
    z_at κ (fun q j => if q = p ∧ j = i then a else loc q j) (nw h p i n s) (L ++ [a]) (va_up f a (z_en (za κ) (fun q j => if q = p ∧ j = i then a else loc q j) (nw h p i n s) p i)) := by
  obtain ⟨a1, a2, a3, a4, a5, a6, a7⟩ := hA
  have hne : ∀ q j, gV h q j = true → ¬ (q = p ∧ j = i) := by
    rintro q j hq ⟨rfl, rfl⟩
    rw [hv] at hq
    cases hq
  have hl : ∀ q j, gV h q j = true → loc q j ≠ a := fun q j hq e => ha (e ▸ (a1 q j hq).2.1)
  have h7 := z_pool_7 p hp
  refine ⟨fun q j hq => ?_, fun q j q' j' h1 h2 he => ?_, fun q j k hq hr => ?_, ?_, fun k hk => ?_, ?_, fun k => ?_⟩
  · rw [gV_nw] at hq
    by_cases e : q = p ∧ j = i
    · obtain ⟨rfl, rfl⟩ := e
      refine ⟨hp, ?_, ?_⟩
      · simp
      · simp only [and_self, if_true]
        rw [va_up_self]
    · rw [if_neg e] at hq
      obtain ⟨b1, b2, b3⟩ := a1 q j hq
      simp only [if_neg e]
      refine ⟨b1, List.mem_append_left _ b2, ?_⟩
      rw [va_up_ne _ _ (hl q j hq), b3]
      refine (z_en_congr (fun k => by rw [gI_nw, if_neg e]) (fun k => by rw [gJ_nw, if_neg e]) (fun k => by rw [gR_nw, if_neg e]) (fun k hr => ?_)).symm
      rw [if_neg (hne _ _ (a3 q j k hq hr))]
  · rw [gV_nw] at h1 h2
    dsimp only at he
    by_cases e1 : q = p ∧ j = i <;> by_cases e2 : q' = p ∧ j' = i
    · exact ⟨e1.1.trans e2.1.symm, e1.2.trans e2.2.symm⟩
    · rw [if_neg e2] at h2
      rw [if_pos e1, if_neg e2] at he
      exact absurd he.symm (hl q' j' h2)
    · rw [if_neg e1] at h1
      rw [if_neg e1, if_pos e2] at he
      exact absurd he (hl q j h1)
    · rw [if_neg e1] at h1
      rw [if_neg e2] at h2
      rw [if_neg e1, if_neg e2] at he
      exact a2 q j q' j' h1 h2 he
  · rw [gV_nw] at hq
    rw [gR_nw] at hr ⊢
    by_cases e : q = p ∧ j = i
    · rw [if_pos e] at hr
      exact absurd rfl hr
    · rw [if_neg e] at hq hr ⊢
      have := a3 q j k hq hr
      rw [gV_nw]
      split
      · rfl
      · exact this
  · show (if 7 = p ∧ 0 = i then a else loc 7 0) = _
    rw [if_neg (fun q => h7.1 q.1.symm)]
    exact a4
  · show (if 8 = p ∧ k = i then a else loc 8 k) = _ ∧ (if 9 = p ∧ k = i then a else loc 9 k) = _
    rw [if_neg (fun q => h7.2.1 q.1.symm), if_neg (fun q => h7.2.2 q.1.symm)]
    exact a5 k hk
  · rw [gN_nw, if_neg (Ne.symm hs)]
    exact a6
  · rw [gI_nw, if_neg (fun q => h7.1 q.1.symm)]
    exact a7 k
theorem z_ex_new {h : z_H} {loc : Nat → Nat → Nat} {p i a : Nat} (hp : p ∈ z_pools) (hv : gV h p i = false) : z_ex h loc (fun q j => if q = p ∧ j = i then a else loc q j) := by
  have h7 := z_pool_7 p hp
  refine ⟨fun q j hq => if_neg ?_, if_neg (fun q => h7.1 q.1.symm), fun k _ => ⟨if_neg (fun q => h7.2.1 q.1.symm), if_neg (fun q => h7.2.2 q.1.symm)⟩⟩
  rintro ⟨rfl, rfl⟩
  rw [hv] at hq
  cases hq
theorem z_set_map {g : Nat → Value} {n k : Nat} {v : Value} : ((List.range n).map g).set k v = (List.range n).map (fun j => if j = k then v else g j) := by
  apply List.ext_getElem?
  intro j
  rw [List.getElem?_set]
  by_cases e : k = j
  · subst e
    by_cases hk : k < n
    · simp [hk]
    · simp [hk]
  · rw [if_neg e, List.getElem?_map, List.getElem?_map]
    by_cases hj : j < n
    · simp [hj, Ne.symm e]
    · simp [hj]
