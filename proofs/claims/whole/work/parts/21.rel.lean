/-! ===== what is given at a method's start, and what stands between the two machines at a place of its code ===== -/
def z_cx (κ : z_Q) (U : State) (H : Heap) : Prop :=
  va_K (zD κ) z_cls (z_tys (za κ)) U ∧
  (va_AO "DaughterTongues$Change" U ∧ va_AO "DaughterTongues$Law" U ∧ va_AO "DaughterTongues$Sheet" U ∧ va_AO "DaughterTongues$Tongue" U) ∧
  (∀ e ∈ z_NT, va_Nw (.methodLinkNest (z_on e.1) e.2.1 (z_mn e.2.2) "DaughterTongues") U) ∧
  va_Nw (.castable "[I" "java/lang/Cloneable") U ∧
  (va_X (zb κ) (zn κ) (zx κ) U H ∧ zb κ < zz κ) ∧
  (vk_S 8 z_tl z_t8 (zk κ) (zv κ) (z_fr κ) U H ∧ ∀ k, k < 8 → zk κ k < zz κ) ∧
  (∀ e ∈ z_ST, vk_R (z_on e.1) e.2.1 (z_tx e.2.2) (zk κ e.2.2) U) ∧
  va_Z "java/lang/String" "COMPACT_STRINGS" "Z" (.int 1) (z_fr κ) U H
def z_fx (κ : z_Q) (y d : Nat) (p : Program) (R : Room) (s : State) (m : MethodId) (args : Array Value) (meth : Method) (c : Code) : Prop :=
  p.tables.exec = Jvm.exec ∧ c.code = z_by y ∧ c.maxLocals = z_ml y ∧ s.vm.findClass (z_on (z_oc y)) = some m.cls ∧ (∀ w ∈ z_ws, w.before args s = true) ∧ meth.locks = false ∧ meth.sig.returnType = z_rt y ∧
  ((z_mn y).name = "<init>" → meth.name = "<init>") ∧ z_cx κ s s.heap ∧ zz κ ≤ s.heap.size ∧ d + 1 ≤ R.frames ∧ 64 * (d + 1) ≤ R.locals
def z_lo (loc : Nat → Nat → Nat) (h : z_H) (l : List z_V) (n : Nat) (ls : Array Slot) : Prop :=
  l.length = n ∧ ls.size = n ∧ lv_wf ls ∧ ∀ (i : Nat) (v : z_V), l[i]? = some v → v ≠ z_U → z_lv h v ∧ ls[i]? = some (Slot.val (z_rv loc v))
def z_rel (κ : z_Q) (s : State) (h0 : z_H) (loc0 : Nat → Nat → Nat) (n : Nat) (l st : List z_V) (h : z_H) (loc : Nat → Nat → Nat) (H : Heap) (locs : List Loc) (ls : Array Slot) (cells slots : Nat) : Prop :=
  z_wd κ loc h H ∧ va_S (z_fr κ) s.heap H locs ∧ z_lo loc h l n ls ∧ (∀ v ∈ st, z_lv h v) ∧ z_ex h0 loc0 loc ∧ z_le h0 h ∧ cells = gC h - gC h0 ∧ slots = gS h - gS h0
def z_go (κ : z_Q) (h0 : z_H) (loc0 : Nat → Nat → Nat) (n : Nat) (p : Program) (la : Launch) (e : Env) (R : Room) (s : State) (m : MethodId) (args : Array Value) (below : List Frame) (meth : Method) (c : Code) (Q : State → Prop) (K : z_K) (res : z_A) : Prop :=
  ∀ (pc : Nat) (l st : List z_V) (h : z_H) (loc : Nat → Nat → Nat) (H : Heap) (locs : List Loc) (ls : Array Slot) (cells slots : Nat), K pc l st h = some res → z_rel κ s h0 loc0 n l st h loc H locs ls cells slots →
    W p la e R s m args below meth c H locs cells slots Q (F0 m pc ls (st.map (z_rv loc)))
theorem z_cat_rv (loc : Nat → Nat → Nat) (v : z_V) : (z_rv loc v).category = z_cat v := by
  rcases v with x | x | ⟨p, i⟩ | b <;> rfl
theorem z_cs_rv (loc : Nat → Nat → Nat) (s : List z_V) : ((s.map (z_rv loc)).map fun v => v.category).sum = z_cs s := by
  induction s with
  | nil => rfl
  | cons v r ih =>
    show (z_rv loc v).category + ((r.map (z_rv loc)).map fun v => v.category).sum = z_cat v + z_cs r
    rw [z_cat_rv, ih]
theorem z_ld_get {l : List z_V} {i : Nat} {v : z_V} (h : z_ld l i = v) (hv : v ≠ z_U) : l[i]? = some v := by
  unfold z_ld at h
  rw [List.getD_eq_getElem?_getD] at h
  cases hg : l[i]? with
  | none => rw [hg] at h; exact absurd h.symm hv
  | some w => rw [hg] at h; exact congrArg some h
theorem z_lo_ld {loc : Nat → Nat → Nat} {h : z_H} {l : List z_V} {n : Nat} {ls : Array Slot} {i : Nat} {v : z_V} (hl : z_lo loc h l n ls) (e : z_ld l i = v) (hv : v ≠ z_U) : z_lv h v ∧ ls[i]? = some (.val (z_rv loc v)) := hl.2.2.2 i v (z_ld_get e hv) hv
def z_isU (v : z_V) : Bool := match v with
  | Sum.inr (Sum.inr (Sum.inr true)) => true
  | _ => false
theorem z_isU_iff (v : z_V) : z_isU v = true ↔ v = z_U := by
  rcases v with x | x | ⟨p, i⟩ | _ | _ <;> simp [z_isU]
/-- the locals that are set, as the kit lists them -/
def z_lvl (loc : Nat → Nat → Nat) (l : List z_V) : List (Nat × Value) := l.zipIdx.filterMap (fun q => if z_isU q.1 then none else some (q.2, z_rv loc q.1))
theorem z_lvl_mem {loc : Nat → Nat → Nat} {l : List z_V} {i : Nat} {w : Value} : (i, w) ∈ z_lvl loc l ↔ ∃ v, l[i]? = some v ∧ v ≠ z_U ∧ w = z_rv loc v := by
  unfold z_lvl
  rw [List.mem_filterMap]
  constructor
  · rintro ⟨⟨v, j⟩, hm, hq⟩
    rw [List.mem_zipIdx_iff_getElem?] at hm
    by_cases hu : z_isU v
    · simp [hu] at hq
    · simp only [hu, if_false, Option.some.injEq, Prod.mk.injEq, Bool.false_eq_true] at hq
      obtain ⟨rfl, rfl⟩ := hq
      exact ⟨v, hm, fun z => hu ((z_isU_iff v).mpr z), rfl⟩
  · rintro ⟨v, hm, hv, rfl⟩
    refine ⟨(v, i), List.mem_zipIdx_iff_getElem?.mpr hm, ?_⟩
    have hu : z_isU v = false := by
      cases hq : z_isU v with
      | false => rfl
      | true => exact absurd ((z_isU_iff v).mp hq) hv
    simp [hu]
theorem z_lo_has {loc : Nat → Nat → Nat} {h : z_H} {l : List z_V} {n : Nat} {ls : Array Slot} (hl : z_lo loc h l n ls) : lv_has ls n (z_lvl loc l) := by
  refine ⟨hl.2.1, hl.2.2.1, fun q hq => ?_⟩
  obtain ⟨i, w⟩ := q
  obtain ⟨v, h1, h2, rfl⟩ := z_lvl_mem.mp hq
  exact (hl.2.2.2 i v h1 h2).2
theorem z_nl_cat {l : List z_V} {i j : Nat} (hn : z_nl l i = true) (hj : j + 1 = i) {v : z_V} (hv : l[j]? = some v) : z_cat v = 1 := by
  subst hj
  unfold z_nl at hn
  have e : z_ld l j = v := by
    unfold z_ld
    rw [List.getD_eq_getElem?_getD, hv]
    rfl
  simp only [e] at hn
  rcases v with x | x | ⟨p, i⟩ | b
  · rfl
  · cases hn
  · rfl
  · rfl
theorem z_lo_set1 {loc : Nat → Nat → Nat} {h : z_H} {l : List z_V} {n : Nat} {ls ls' : Array Slot} {i : Nat} {v : z_V} (hl : z_lo loc h l n ls) (hn : z_nl l i = true) (hv : z_lv h v)
    (hh : lv_has ls' n ((i, z_rv loc v) :: (z_lvl loc l).filter (fun q => !(q.1 == i) && !(q.1 + 1 == i && q.2.category == 2)))) : z_lo loc h (l.set i v) n ls' := by
  refine ⟨by rw [List.length_set]; exact hl.1, hh.1, hh.2.1, fun j w hw hu => ?_⟩
  rw [List.getElem?_set] at hw
  by_cases e : i = j
  · subst e
    rw [if_pos rfl] at hw
    split at hw
    · cases hw
      exact ⟨hv, hh.2.2 _ List.mem_cons_self⟩
    · cases hw
  · rw [if_neg e] at hw
    refine ⟨(hl.2.2.2 j w hw hu).1, hh.2.2 (j, z_rv loc w) (List.mem_cons_of_mem _ (List.mem_filter.mpr ⟨z_lvl_mem.mpr ⟨w, hw, hu, rfl⟩, ?_⟩))⟩
    by_cases e2 : j + 1 = i
    · have := z_nl_cat hn e2 hw
      simp [Ne.symm e, z_cat_rv, this]
    · simp [Ne.symm e, e2]
theorem z_lo_set2 {loc : Nat → Nat → Nat} {h : z_H} {l : List z_V} {n : Nat} {ls ls' : Array Slot} {i : Nat} {v : z_V} (hl : z_lo loc h l n ls) (hn : z_nl l i = true) (hv : z_lv h v)
    (hh : lv_has ls' n ((i, z_rv loc v) :: (z_lvl loc l).filter (fun q => !(q.1 == i) && (!(q.1 == i + 1) && !(q.1 + 1 == i && q.2.category == 2))))) : z_lo loc h ((l.set i v).set (i + 1) z_U) n ls' := by
  refine ⟨by rw [List.length_set, List.length_set]; exact hl.1, hh.1, hh.2.1, fun j w hw hu => ?_⟩
  rw [List.getElem?_set] at hw
  by_cases e1 : i + 1 = j
  · rw [if_pos e1] at hw
    split at hw
    · cases hw
      exact absurd rfl hu
    · cases hw
  · rw [if_neg e1, List.getElem?_set] at hw
    by_cases e : i = j
    · subst e
      rw [if_pos rfl] at hw
      split at hw
      · cases hw
        exact ⟨hv, hh.2.2 _ List.mem_cons_self⟩
      · cases hw
    · rw [if_neg e] at hw
      refine ⟨(hl.2.2.2 j w hw hu).1, hh.2.2 (j, z_rv loc w) (List.mem_cons_of_mem _ (List.mem_filter.mpr ⟨z_lvl_mem.mpr ⟨w, hw, hu, rfl⟩, ?_⟩))⟩
      by_cases e2 : j + 1 = i
      · have := z_nl_cat hn e2 hw
        simp [Ne.symm e, z_cat_rv, this, Ne.symm e1]
      · simp [Ne.symm e, e2, Ne.symm e1]
theorem z_lo_mono {loc loc' : Nat → Nat → Nat} {h h' : z_H} {l : List z_V} {n : Nat} {ls : Array Slot} (hl : z_lo loc h l n ls) (he : z_ex h loc loc') (hh : z_le h h') : z_lo loc' h' l n ls := by
  refine ⟨hl.1, hl.2.1, hl.2.2.1, fun i v h1 h2 => ?_⟩
  obtain ⟨a, b⟩ := hl.2.2.2 i v h1 h2
  exact ⟨z_lv_mono hh a, by rw [z_rv_ex he a]; exact b⟩
theorem z_in_vp {i : Int32} {n : Nat} (h : z_in i n = true) : vp_in i n := by
  simp only [z_in, Bool.and_eq_true, Bool.not_eq_true', decide_eq_false_iff_not, decide_eq_true_eq] at h
  rintro (q | q)
  · exact h.1 q
  · omega
theorem z_nar_b {x : Int32} (h : z_bz x = true) : x &&& 1 = x := by
  simp only [z_bz, Bool.or_eq_true, beq_iff_eq] at h
  rcases h with rfl | rfl <;> decide
theorem z_nar_c {x : Int32} (h : z_in x 65536 = true) : vp_nar .char x = x := by
  simp only [z_in, Bool.and_eq_true, Bool.not_eq_true', decide_eq_false_iff_not, decide_eq_true_eq] at h
  rw [vp_nar_char]
  have h0 : (0 : Int) ≤ x.toInt := by
    have := Int32.not_lt.mp h.1
    simpa using Int32.le_iff_toInt_le.mp this
  have h1 : x.toInt.toNat < 65536 := h.2
  have h2 : x.toInt < 65536 := by omega
  have h3 : x.toBitVec.toNat < 65536 := by
    have h4 : x.toInt = x.toBitVec.toInt := rfl
    rw [h4, BitVec.toInt_eq_toNat_cond] at h0 h2
    split at h0
    · rw [if_pos (by assumption)] at h2
      omega
    · omega
  apply Int32.toBitVec_inj.mp
  apply BitVec.eq_of_toNat_eq
  show (BitVec.setWidth 32 (BitVec.setWidth 16 x.toBitVec)).toNat = x.toBitVec.toNat
  rw [BitVec.toNat_setWidth, BitVec.toNat_setWidth]
  rw [Nat.mod_eq_of_lt (show x.toBitVec.toNat < 2 ^ 16 from h3), Nat.mod_eq_of_lt (by omega)]
/-- a heap as it was, another stack -/
theorem z_rel_st {κ : z_Q} {s : State} {h0 : z_H} {loc0 : Nat → Nat → Nat} {n : Nat} {l st st' : List z_V} {h : z_H} {loc : Nat → Nat → Nat} {H : Heap} {locs : List Loc} {ls : Array Slot} {cells slots : Nat} (r : z_rel κ s h0 loc0 n l st h loc H locs ls cells slots) (hs : ∀ v ∈ st', z_lv h v) : z_rel κ s h0 loc0 n l st' h loc H locs ls cells slots :=
  ⟨r.1, r.2.1, r.2.2.1, hs, r.2.2.2.2⟩
theorem z_rel_lo {κ : z_Q} {s : State} {h0 : z_H} {loc0 : Nat → Nat → Nat} {n : Nat} {l l' st st' : List z_V} {h : z_H} {loc : Nat → Nat → Nat} {H : Heap} {locs : List Loc} {ls ls' : Array Slot} {cells slots : Nat} (r : z_rel κ s h0 loc0 n l st h loc H locs ls cells slots) (hl : z_lo loc h l' n ls') (hs : ∀ v ∈ st', z_lv h v) : z_rel κ s h0 loc0 n l' st' h loc H locs ls' cells slots :=
  ⟨r.1, r.2.1, hl, hs, r.2.2.2.2⟩
theorem z_all_cons {h : z_H} {v : z_V} {s : List z_V} (h1 : z_lv h v) (h2 : ∀ w ∈ s, z_lv h w) : ∀ w ∈ v :: s, z_lv h w := fun w hw => (List.mem_cons.mp hw).elim (fun e => e ▸ h1) (h2 w)
theorem z_all_tail {h : z_H} {v : z_V} {s : List z_V} (h2 : ∀ w ∈ v :: s, z_lv h w) : ∀ w ∈ s, z_lv h w := fun w hw => h2 w (List.mem_cons_of_mem _ hw)
theorem z_all_head {h : z_H} {v : z_V} {s : List z_V} (h2 : ∀ w ∈ v :: s, z_lv h w) : z_lv h v := h2 v List.mem_cons_self
theorem z_clsok : ∀ ci, ci < 11 → z_cls[ci]? = some (z_C ci) := by
  intro ci h
  match ci, h with
  | 0, _ => rfl
  | 1, _ => rfl
  | 2, _ => rfl
  | 3, _ => rfl
  | 4, _ => rfl
  | 5, _ => rfl
  | 6, _ => rfl
  | 7, _ => rfl
  | 8, _ => rfl
  | 9, _ => rfl
  | 10, _ => rfl
