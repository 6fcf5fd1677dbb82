/-! THE CLAIM OUT OF ONE WALK OF THE LAW'S BODY. Your part is whole_start (and what it stands on); all else here is the same for every law, but numbers. -/
def R_law : String := "DaughterTonguesLaw"
def lw_P (b : Addr) (xs : List Int32) (args : Array Value) (s : State) : Prop := args = #[.ref b] ∧ s.IntsAt b xs ∧ xs.length ≤ 3072 ∧ (Jvm.Cond.and given_1 narrow_1).before args s = true
def lw_Q (_ : Array Value) (s : State) (o : Outcome) (t : State) : Prop := o = .returned (some (.int 1)) ∧ Framed s o t [] 600000 7302250
def lw_Z (below : List Frame) (a : Array Value) (s : State) : State → Prop := fun t => ∃ o, t.status = .running ∧ Ended t below o ∧ lw_Q a s o t
/-- the law's own end, with 1 on the stack, nothing written that was there before, its room as the claim has it -/
theorem lw_ret {p : Program} {l : Launch} {e : Env} {s : State} {m : MethodId} {below : List Frame} {meth : Method} {c : Code} {b : Nat} (hx : p.tables.exec = Jvm.exec) (hb : c.code = code) (hr : meth.sig.returnType = ret) (hlocks : meth.locks = false) {pc : Nat} {H : Heap} {ls : Array Slot} (hdg : decode code pc = .ok (.ireturn, 1)) : W p l e room_1 s m #[Value.ref b] below meth c H [] 600000 7302250 (lw_Z below #[Value.ref b] s) (F0 m pc ls [.int 1]) := by
  intro T hT X
  obtain ⟨fs, hret, hrun, hended, hW, hframe⟩ := X.leave (v := some (.int 1)) (hlocks := hlocks) (fun h => by rw [hr] at h; cases h)
  have hmeth' : T.vm.method? m = some meth := X.method'
  refine ⟨T.setFrames fs, ?_, .returned (some (.int 1)), hrun, hended, rfl, ⟨_, rfl⟩, hW, hframe⟩
  jvm_step X.here [X.here.top, hx, hb, hdg, hmeth', hr, ret, narrow_b1]
  (try refine ⟨rfl, ?_⟩); (try refine ⟨rfl, ?_⟩)
  first | (intro acts; rw [hret _ acts rfl rfl rfl]) | rw [hret _ _ rfl rfl rfl]
  exact Steps.refl _
/-- what holds at the law's entry: the machine, the code, the tables' words (any of lw_tbl by 'hts w (by decide +kernel)'), the script of L ints xs at the cell b, what the Statement gives of the start (any of its parts by flat_of_before) -/
def lw_At (p : Program) (s : State) (m : MethodId) (meth : Method) (c : Code) (b L : Nat) (xs : Nat → Int32) : Prop :=
  p.tables.exec = Jvm.exec ∧ c.code = code ∧ meth.sig.returnType = ret ∧ c.maxLocals = 4 ∧ s.vm.findClass R_law = some m.cls ∧ (∀ w ∈ lw_tbl, w.before #[Value.ref b] s = true) ∧ va_X b L xs s s.heap ∧ b < s.heap.size ∧ meth.locks = false ∧ (Jvm.Cond.and given_1 narrow_1).before #[Value.ref b] s = true

/-! ===== the start ===== -/
theorem zs_NT : ∀ e ∈ z_NT, Jvm.Cond.methodLinkNest (z_on e.1) e.2.1 (z_mn e.2.2) "DaughterTongues" ∈ lw_tbl := by
  intro e he
  have h := z_NTt
  rw [List.all_eq_true] at h
  have hm : e ∈ (([((4, 24, 7), 522), ((5, 32, 7), 203), ((9, 9, 68), 105), ((9, 24, 12), 130), ((9, 31, 33), 170), ((9, 38, 54), 197), ((9, 56, 64), 306)] : List ((Nat × Nat × Nat) × Nat))).map (fun q => q.1) := he
  obtain ⟨q, hq, rfl⟩ := List.mem_map.mp hm
  have := h q hq
  simp only [decide_eq_true_eq] at this
  exact List.mem_of_getElem? this
theorem zs_in {i : Nat} {w : Jvm.Cond} (h : decide (lw_tbl[i]? = some w) = true) : w ∈ lw_tbl := List.mem_of_getElem? (of_decide_eq_true h)
theorem zs_cast : Jvm.Cond.castable "[I" "java/lang/Cloneable" ∈ lw_tbl := zs_in (i := 519) (by decide +kernel)
theorem zs_ao1 : Jvm.Cond.arrayOver (.object "DaughterTongues$Change") ∈ lw_tbl := zs_in (i := 262) (by decide +kernel)
theorem zs_ao2 : Jvm.Cond.arrayOver (.object "DaughterTongues$Law") ∈ lw_tbl := zs_in (i := 127) (by decide +kernel)
theorem zs_ao3 : Jvm.Cond.arrayOver (.object "DaughterTongues$Sheet") ∈ lw_tbl := zs_in (i := 304) (by decide +kernel)
theorem zs_ao4 : Jvm.Cond.arrayOver (.object "DaughterTongues$Tongue") ∈ lw_tbl := zs_in (i := 135) (by decide +kernel)
theorem zs_ls : Jvm.Cond.laysStatic "java/lang/String" "COMPACT_STRINGS" "Z" ∈ lw_tbl := zs_in (i := 421) (by decide +kernel)
theorem zs_ini : Jvm.Cond.initialized "java/lang/String" ∈ lw_tbl := zs_in (i := 85) (by decide +kernel)
def z_cps : List Nat := [30, 36, 38, 40, 46, 54, 56, 52]
def z_tm (i : Nat) : Jvm.Term := .string "DaughterTongues$Tape" (z_cps.getD i 0)
theorem zs_st : ∀ k, k < 8 → Jvm.Cond.stringRef "DaughterTongues$Tape" (z_cps.getD k 0) (z_tx k) ∈ lw_tbl := by
  intro k hk
  match k, hk with
  | 0, _ => exact zs_in (i := 403) (by decide +kernel)
  | 1, _ => exact zs_in (i := 494) (by decide +kernel)
  | 2, _ => exact zs_in (i := 495) (by decide +kernel)
  | 3, _ => exact zs_in (i := 496) (by decide +kernel)
  | 4, _ => exact zs_in (i := 500) (by decide +kernel)
  | 5, _ => exact zs_in (i := 505) (by decide +kernel)
  | 6, _ => exact zs_in (i := 506) (by decide +kernel)
  | 7, _ => exact zs_in (i := 507) (by decide +kernel)
theorem zs_ST : ∀ e ∈ z_ST, z_on e.1 = "DaughterTongues$Tape" ∧ e.2.1 = z_cps.getD e.2.2 0 ∧ e.2.2 < 8 := by decide +kernel
def z_fl : List Jvm.Cond := flatC (Jvm.Cond.and given_1 narrow_1)
theorem zs_f1 : ∀ i, i < 8 → Jvm.Cond.exactly (z_tm i) "java/lang/String" ∈ z_fl := by decide +kernel
theorem zs_f2 : ∀ i, i < 8 → Jvm.Cond.eq (.field (z_tm i) "java/lang/String" "coder" "B") (.int 0) ∈ z_fl := by decide +kernel
theorem zs_f3 : ∀ i, i < 8 → Jvm.Cond.arrayOf (.field (z_tm i) "java/lang/String" "value" "[B") .byte ∈ z_fl := by decide +kernel
theorem zs_f4 : ∀ i, i < 8 → Jvm.Cond.eq (.length (.field (z_tm i) "java/lang/String" "value" "[B")) (.int (Int32.ofNat (z_tl.getD i 0))) ∈ z_fl := by decide +kernel
theorem zs_f5 : ∀ i, i < 8 → ∀ j, j < z_tl.getD i 0 → Jvm.Cond.eq (.elem (.field (z_tm i) "java/lang/String" "value" "[B") (.int (Int32.ofNat j))) (.int ((z_t8.getD i []).getD j 0)) ∈ z_fl := by decide +kernel
theorem zs_f6 : ∀ i, i < 8 → ∀ j, j < 8 → i ≠ j → (Jvm.Cond.not (Jvm.Cond.eq (z_tm i) (z_tm j)) ∈ z_fl ∨ Jvm.Cond.not (Jvm.Cond.eq (z_tm j) (z_tm i)) ∈ z_fl) := by decide +kernel
theorem zs_f7 : Jvm.Cond.eq (.static "java/lang/String" "COMPACT_STRINGS" "Z") (.int 1) ∈ z_fl := by decide +kernel
theorem zs_tl : ∀ i, i < 8 → z_tl.getD i 0 < 2 ^ 31 := by decide +kernel
/-- the heap at the start: nothing but the script -/
def z_h0 (L : Nat) (xs : Nat → Int32) : z_H := (fun p _ k => if p = 7 then xs k else 0, fun _ _ _ => 0, fun _ _ _ => 0, fun _ _ => false, fun s => if s = 7 then L else 0, 0, 0)
theorem zs_arr {s : State} {args : Array Value} {ty : FieldType} (h : (Jvm.Cond.arrayClass ty).before args s = true) (hp : ∀ C, ty ≠ .object C) : ∃ cA, ArrOfT s cA ty ∧ va_RA s cA ty := by
  obtain ⟨cA, kA, comp, hfind, hk, hkind⟩ := Cond.arrayClass_spec h
  refine ⟨cA, fun n z => ⟨fun k h => (by cases h), kA, hk, comp, hkind⟩, ?_⟩
  cases ty <;> first | exact hfind | exact absurd rfl (hp _)
theorem zs_arq {s : State} {args : Array Value} {C : String} (h : (Jvm.Cond.arrayOver (.object C)).before args s = true) : ∃ cA, ArrOfT s cA (.object C) ∧ va_RA s cA (.object C) := by
  obtain ⟨comp, c, k, h1, h2, h3, h4, h5⟩ := Cond.arrayOver_spec h
  exact ⟨c, fun n z => ⟨fun k h => (by cases h), k, h3, comp, h4⟩, k, comp, h3, h4, h1, h5⟩
theorem zs_start {s : State} {b L : Nat} {xs : Nat → Int32} (hts : ∀ w ∈ lw_tbl, w.before #[Value.ref b] s = true) (hX : va_X b L xs s s.heap) (hbl : b < s.heap.size) (hgv : (Jvm.Cond.and given_1 narrow_1).before #[Value.ref b] s = true) :
    ∃ (κ : z_Q) (loc : Nat → Nat → Nat), z_cx κ s s.heap ∧ zz κ = s.heap.size ∧ z_wd κ loc (z_h0 L xs) s.heap ∧ loc 7 0 = b := by
  have hfl : ∀ c ∈ z_fl, c.before #[Value.ref b] s = true := flat_of_before _ hgv
  have hK : ∀ ci : Nat, ∃ q : ClassId × (Nat → Nat), ci < 11 → u_Kn s (z_C ci).1 (z_C ci).2.1 (z_C ci).2.2 q.1 q.2 := by
    intro ci
    by_cases h : ci < 11
    · obtain ⟨cC, iS, q⟩ := u_known (ws := z_ws) (args := #[Value.ref b]) (fun w hw => hts w (z_ws_tbl w hw)) (z_layok ci h) (hts _ (z_ws_tbl _ (z_instok ci h)))
      exact ⟨(cC, iS), fun _ => q⟩
    · exact ⟨(0, fun _ => 0), fun z => absurd z h⟩
  obtain ⟨fK, hfK⟩ := Classical.axiomOfChoice hK
  obtain ⟨c1, p1, r1⟩ := zs_arr (ty := .int) (hts _ (z_ws_tbl _ zw_arr_int)) (fun C => by intro z; cases z)
  obtain ⟨c2, p2, r2⟩ := zs_arr (ty := .char) (hts _ (z_ws_tbl _ zw_arr_char)) (fun C => by intro z; cases z)
  obtain ⟨c3, p3, r3⟩ := zs_arr (ty := .boolean) (hts _ (z_ws_tbl _ zw_arr_boolean)) (fun C => by intro z; cases z)
  obtain ⟨c4, p4, r4⟩ := zs_arr (ty := .long) (hts _ (z_ws_tbl _ zw_arr_long)) (fun C => by intro z; cases z)
  obtain ⟨c5, p5, r5⟩ := zs_arq (hts _ zs_ao1)
  obtain ⟨c6, p6, r6⟩ := zs_arq (hts _ zs_ao2)
  obtain ⟨c7, p7, r7⟩ := zs_arq (hts _ zs_ao3)
  obtain ⟨c8, p8, r8⟩ := zs_arq (hts _ zs_ao4)
  obtain ⟨aC, ha⟩ : ∃ aC : Nat → ClassId, aC 1 = c1 ∧ aC 2 = c2 ∧ aC 3 = c3 ∧ aC 4 = c4 ∧ aC 10 = c5 ∧ aC 14 = c6 ∧ aC 16 = c7 ∧ aC 18 = c8 :=
    ⟨fun k => if k = 1 then c1 else if k = 2 then c2 else if k = 3 then c3 else if k = 4 then c4 else if k = 10 then c5 else if k = 14 then c6 else if k = 16 then c7 else c8, rfl, rfl, rfl, rfl, rfl, rfl, rfl, rfl⟩
  obtain ⟨e1, e2, e3, e4, e5, e6, e7, e8⟩ := ha
  obtain ⟨adK, adV, hSt, hev⟩ := vk_Sof (args := #[Value.ref b]) (s := s) (N := 8) (tm := z_tm) (len := z_tl) (byt := z_t8) (A := fun q => s.heap.size ≤ q) zs_tl (fun i hi => hfl _ (zs_f1 i hi)) (fun i hi => hfl _ (zs_f2 i hi)) (fun i hi => hfl _ (zs_f3 i hi)) (fun i hi => hfl _ (zs_f4 i hi)) (fun i hi j hj => hfl _ (zs_f5 i hi j hj)) (fun i j hi hj hij => (zs_f6 i hi j hj hij).elim (fun z => Or.inl (hfl _ z)) (fun z => Or.inr (hfl _ z))) (fun a h1 h2 => absurd h1 (Nat.not_lt.mpr h2))
  refine ⟨(fun c => (fK c).1, fun c => (fK c).2, aC, s.heap.size, b, L, xs, adK, adV), fun p i => if p = 7 then b else if p = 8 then adK i else adV i, ?_, rfl, ?_, rfl⟩
  · refine ⟨⟨fun c q hq => ?_, fun k q hk => ?_⟩, ⟨hts _ zs_ao1, hts _ zs_ao2, hts _ zs_ao3, hts _ zs_ao4⟩, fun e he => va_Nw.of rfl (hts _ (zs_NT e he)), va_Nw.of rfl (hts _ zs_cast), ⟨hX, hbl⟩, ⟨hSt, fun k hk => ?_⟩, fun e he => ?_, va_Zof (hts _ zs_ls) (hts _ zs_ini) (va_eqi (hfl _ zs_f7)) (fun a h1 h2 => absurd h1 (Nat.not_lt.mpr h2))⟩
    · have hlt : c < 11 := (List.getElem?_eq_some_iff.mp hq).1
      have := (z_clsok c hlt).symm.trans hq
      cases this
      exact hfK c hlt
    · have hlt : k < 8 := (List.getElem?_eq_some_iff.mp hk).1
      match k, hlt, hk with
      | 0, _, hk => cases hk; exact ⟨by rw [show za _ 1 = c1 from e1]; exact p1, by rw [show za _ 1 = c1 from e1]; exact r1⟩
      | 1, _, hk => cases hk; exact ⟨by rw [show za _ 2 = c2 from e2]; exact p2, by rw [show za _ 2 = c2 from e2]; exact r2⟩
      | 2, _, hk => cases hk; exact ⟨by rw [show za _ 3 = c3 from e3]; exact p3, by rw [show za _ 3 = c3 from e3]; exact r3⟩
      | 3, _, hk => cases hk; exact ⟨by rw [show za _ 4 = c4 from e4]; exact p4, by rw [show za _ 4 = c4 from e4]; exact r4⟩
      | 4, _, hk => cases hk; exact ⟨by rw [show za _ 10 = c5 from e5]; exact p5, by rw [show za _ 10 = c5 from e5]; exact r5⟩
      | 5, _, hk => cases hk; exact ⟨by rw [show za _ 14 = c6 from e6]; exact p6, by rw [show za _ 14 = c6 from e6]; exact r6⟩
      | 6, _, hk => cases hk; exact ⟨by rw [show za _ 16 = c7 from e7]; exact p7, by rw [show za _ 16 = c7 from e7]; exact r7⟩
      | 7, _, hk => cases hk; exact ⟨by rw [show za _ 18 = c8 from e8]; exact p8, by rw [show za _ 18 = c8 from e8]; exact r8⟩
    · obtain ⟨cell, q1, -⟩ := (hSt.1 k hk).1
      exact (Array.getElem?_eq_some_iff.mp q1).1
    · obtain ⟨h1, h2, h3⟩ := zs_ST e he
      rw [h1, h2]
      exact vk_R.of (hts _ (zs_st e.2.2 h3)) (hev e.2.2 h3)
  · refine ⟨[], fun _ => .inl (0, 0, .inl (fun _ => 0)), fun k q hk => (by cases hk), ⟨fun i j p q hi => (by cases hi), fun k q hk => (by cases hk)⟩, ⟨fun p i hv => (by cases hv), fun p i q j hv => (by cases hv), fun p i k hv => (by cases hv), rfl, fun k hk => ⟨rfl, rfl⟩, rfl, fun k => rfl⟩, Nat.le_refl _⟩
theorem z_frames : (2048 : Nat) ≤ room_1.frames ∧ (84000 : Nat) ≤ room_1.locals ∧ room_1.cells = 600000 ∧ room_1.slots = 7302250 := ⟨Nat.le_refl _, Nat.le_refl _, rfl, rfl⟩
/-- the claim out of a run of the machine -/
theorem z_whole {p : Program} {e : Env} {s : State} {m : MethodId} {below : List Frame} {meth : Method} {c : Code} (l : Launch) {b L : Nat} {xs : Nat → Int32} (C0 : lw_At p s m meth c b L xs) (d : Nat) (hd40 : d ≤ 1000) (h1 : z_H)
    (hrun : EX d 250 0 [z_R 7 0, z_U, z_U, z_U] [] (z_h0 L xs) = some (some (z_I 1), h1)) (hc : gC h1 ≤ 600000) (hs : gS h1 ≤ 7302250) :
    W p l e room_1 s m #[Value.ref b] below meth c s.heap [] 0 0 (lw_Z below #[Value.ref b] s) (entryFrame m ([Value.ref b] : List Value).toArray 4) := by
  obtain ⟨hx, hb, hr, hml, hown, hts, hX, hbl, hlocks, hgv⟩ := C0
  obtain ⟨κ, loc, hcx, hzz, hwd, hl7⟩ := zs_start hts hX hbl hgv
  have hrf := z_frames
  have F : z_fx κ 250 d p room_1 s m #[Value.ref b] meth c := ⟨hx, hb, hml, hown, fun w hw => hts w (z_ws_tbl w hw), hlocks, hr, fun z => absurd z (by decide), hcx, by omega, by omega, by omega⟩
  obtain ⟨n, e1⟩ := (z_lim_some (Rn_gr d)).mp (show z_lim (Rn d) 250 0 [z_R 7 0, z_U, z_U, z_U] [] (z_h0 L xs) = some (some (z_I 1), h1) from hrun)
  have hC0 : gC (z_h0 L xs) = 0 := rfl
  have hS0 : gS (z_h0 L xs) = 0 := rfl
  have hfin : z_fin κ (z_h0 L xs) loc 250 p l e room_1 s m #[Value.ref b] below meth c (lw_Z below #[Value.ref b] s) (some (z_I 1), h1) := by
    intro pc l' st h loc' H locs ls cells slots v hv hres rl
    obtain ⟨rfl, rfl⟩ : some (z_I 1) = v ∧ h1 = h := ⟨congrArg Prod.fst hres, congrArg Prod.snd hres⟩
    obtain ⟨wd, hS, lo, lvs, ex, le, ec, es⟩ := rl
    rcases hv with ⟨x, rfl, hx1, hd, -⟩ | ⟨p1, i, rfl, hx1, -⟩ | ⟨-, hx1, -⟩
    · have hx2 : x = 1 := by
        have h9 := Option.some.inj hx1
        exact (Sum.inl.inj h9).symm
      subst hx2
      refine va_forget (fun q hq => ?_) ?_
      · have := hS.2.2 q hq
        have h8 : zz κ ≤ q.base := this
        omega
      · refine W.widen (k := 600000) (n := 7302250) (by rw [hC0] at ec; omega) (by rw [hS0] at es; omega) ?_
        exact lw_ret hx hb hr hlocks hd
    · cases Option.some.inj hx1
    · cases hx1
  have hg := z_main (la := l) (ev := e) (below := below) (Q := lw_Z below #[Value.ref b] s) (res := (some (z_I 1), h1)) F (z_sound z_allok_ok l d) ⟨by show gC h1 - gC (z_h0 L xs) ≤ _; omega, by show gS h1 - gS (z_h0 L xs) ≤ _; omega⟩ hfin (z_allok_ok 250 (by omega)) n
  rw [lg_entry_eq]
  have hlo := z_lo_ent (loc := loc) (h := z_h0 L xs) (a := [z_R 7 0]) (n := 4) (by decide) (fun w hw => by
    rcases List.mem_singleton.mp hw with rfl
    exact Or.inr (Or.inl ⟨rfl, rfl⟩))
  have hmap : ([z_R 7 0] : List z_V).map (z_rv loc) = [Value.ref b] := by
    show [Value.ref (loc 7 0)] = _
    rw [hl7]
  rw [hmap] at hlo
  exact hg 0 [z_R 7 0, z_U, z_U, z_U] [] (z_h0 L xs) loc s.heap [] _ 0 0 e1 ⟨hwd, va_S.rf, hlo, fun w hw => (by cases hw), z_ex_rfl _ _, z_le_rfl _, (by omega), (by omega)⟩
