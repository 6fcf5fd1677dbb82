/-! ===== instruction by instruction (printed by wip/whole/emit_rows.py) ===== -/
section
variable {κ : z_Q} {y d : Nat} {h0 : z_H} {loc0 : Nat → Nat → Nat} {p : Program} {la : Launch} {ev : Env} {R : Room} {s : State} {m : MethodId} {args : Array Value} {below : List Frame} {meth : Method} {c : Code} {Q : State → Prop} {K : z_K} {res : z_A} {pc : Nat} {l st : List z_V} {h : z_H} {loc : Nat → Nat → Nat} {H : Heap} {locs : List Loc} {ls : Array Slot} {cells slots : Nat}
theorem w_iln (F : z_fx κ y d p R s m args meth c) (G : z_go κ h0 loc0 (z_ml y) p la ev R s m args below meth c Q K res) (r : z_rel κ s h0 loc0 (z_ml y) l st h loc H locs ls cells slots) {k : Fin 4} (hd : decode (z_by y) pc = .ok (.iload_n k, 1)) (e : o_il K (pc + 1) l st h k.val = some res) : W p la ev R s m args below meth c H locs cells slots Q (F0 m pc ls (st.map (z_rv loc))) := by
  obtain ⟨hx, hb, hml, hown, hts, hlk, hrt, hnm, hcx, hz, hRf, hRl⟩ := F
  unfold o_il at e
  split at e
  · next x hv =>
    obtain ⟨a1, a2⟩ := z_lo_ld r.2.2.1 hv (by intro q; cases q)
    refine lv_iload_n hx hb hd rfl a2 ?_
    exact G _ _ _ _ _ _ _ _ _ _ e (z_rel_st r (z_all_cons trivial r.2.2.2.1))
  · cases e
theorem w_il (F : z_fx κ y d p R s m args meth c) (G : z_go κ h0 loc0 (z_ml y) p la ev R s m args below meth c Q K res) (r : z_rel κ s h0 loc0 (z_ml y) l st h loc H locs ls cells slots) {i : Nat} (hd : decode (z_by y) pc = .ok (.iload i, 2)) (e : o_il K (pc + 2) l st h i = some res) : W p la ev R s m args below meth c H locs cells slots Q (F0 m pc ls (st.map (z_rv loc))) := by
  obtain ⟨hx, hb, hml, hown, hts, hlk, hrt, hnm, hcx, hz, hRf, hRl⟩ := F
  unfold o_il at e
  split at e
  · next x hv =>
    obtain ⟨a1, a2⟩ := z_lo_ld r.2.2.1 hv (by intro q; cases q)
    refine lv_iload hx hb hd a2 ?_
    exact G _ _ _ _ _ _ _ _ _ _ e (z_rel_st r (z_all_cons trivial r.2.2.2.1))
  · cases e
theorem w_lln (F : z_fx κ y d p R s m args meth c) (G : z_go κ h0 loc0 (z_ml y) p la ev R s m args below meth c Q K res) (r : z_rel κ s h0 loc0 (z_ml y) l st h loc H locs ls cells slots) {k : Fin 4} (hd : decode (z_by y) pc = .ok (.lload_n k, 1)) (e : o_ll K (pc + 1) l st h k.val = some res) : W p la ev R s m args below meth c H locs cells slots Q (F0 m pc ls (st.map (z_rv loc))) := by
  obtain ⟨hx, hb, hml, hown, hts, hlk, hrt, hnm, hcx, hz, hRf, hRl⟩ := F
  unfold o_ll at e
  split at e
  · next x hv =>
    obtain ⟨a1, a2⟩ := z_lo_ld r.2.2.1 hv (by intro q; cases q)
    refine lv_lload_n hx hb hd rfl a2 ?_
    exact G _ _ _ _ _ _ _ _ _ _ e (z_rel_st r (z_all_cons trivial r.2.2.2.1))
  · cases e
theorem w_aln (F : z_fx κ y d p R s m args meth c) (G : z_go κ h0 loc0 (z_ml y) p la ev R s m args below meth c Q K res) (r : z_rel κ s h0 loc0 (z_ml y) l st h loc H locs ls cells slots) {k : Fin 4} (hd : decode (z_by y) pc = .ok (.aload_n k, 1)) (e : o_al K (pc + 1) l st h k.val = some res) : W p la ev R s m args below meth c H locs cells slots Q (F0 m pc ls (st.map (z_rv loc))) := by
  obtain ⟨hx, hb, hml, hown, hts, hlk, hrt, hnm, hcx, hz, hRf, hRl⟩ := F
  unfold o_al at e
  split at e
  · next p1 j1 hv =>
    obtain ⟨a1, a2⟩ := z_lo_ld r.2.2.1 hv (by intro q; cases q)
    refine lv_aload_n hx hb hd rfl a2 ?_
    exact G _ _ _ _ _ _ _ _ _ _ e (z_rel_st r (z_all_cons a1 r.2.2.2.1))
  · next hv =>
    obtain ⟨a1, a2⟩ := z_lo_ld r.2.2.1 hv (by intro q; cases q)
    refine lv_aload_nN hx hb hd rfl a2 ?_
    exact G _ _ _ _ _ _ _ _ _ _ e (z_rel_st r (z_all_cons trivial r.2.2.2.1))
  · cases e
theorem w_al (F : z_fx κ y d p R s m args meth c) (G : z_go κ h0 loc0 (z_ml y) p la ev R s m args below meth c Q K res) (r : z_rel κ s h0 loc0 (z_ml y) l st h loc H locs ls cells slots) {i : Nat} (hd : decode (z_by y) pc = .ok (.aload i, 2)) (e : o_al K (pc + 2) l st h i = some res) : W p la ev R s m args below meth c H locs cells slots Q (F0 m pc ls (st.map (z_rv loc))) := by
  obtain ⟨hx, hb, hml, hown, hts, hlk, hrt, hnm, hcx, hz, hRf, hRl⟩ := F
  unfold o_al at e
  split at e
  · next p1 j1 hv =>
    obtain ⟨a1, a2⟩ := z_lo_ld r.2.2.1 hv (by intro q; cases q)
    refine lv_aload hx hb hd a2 ?_
    exact G _ _ _ _ _ _ _ _ _ _ e (z_rel_st r (z_all_cons a1 r.2.2.2.1))
  · next hv =>
    obtain ⟨a1, a2⟩ := z_lo_ld r.2.2.1 hv (by intro q; cases q)
    refine lv_aloadN hx hb hd a2 ?_
    exact G _ _ _ _ _ _ _ _ _ _ e (z_rel_st r (z_all_cons trivial r.2.2.2.1))
  · cases e
theorem w_isn (F : z_fx κ y d p R s m args meth c) (G : z_go κ h0 loc0 (z_ml y) p la ev R s m args below meth c Q K res) (r : z_rel κ s h0 loc0 (z_ml y) l st h loc H locs ls cells slots) {k : Fin 4} (hd : decode (z_by y) pc = .ok (.istore_n k, 1)) (e : o_is K (pc + 1) l st h k.val = some res) : W p la ev R s m args below meth c H locs cells slots Q (F0 m pc ls (st.map (z_rv loc))) := by
  obtain ⟨hx, hb, hml, hown, hts, hlk, hrt, hnm, hcx, hz, hRf, hRl⟩ := F
  unfold o_is at e
  split at e
  · next x st' =>
    cases hb2 : (z_nl l k.val && Nat.blt k.val l.length) with
    | false => rw [hb2] at e; cases e
    | true =>
      rw [hb2] at e
      simp only [Bool.and_eq_true] at hb2
      have hlt : k.val < z_ml y := by rw [← r.2.2.1.1]; exact Nat.le_of_ble_eq_true hb2.2
      refine lv_istore_n hx hb hd rfl (z_lo_has r.2.2.1) hlt rfl (fun ls' hl' => ?_)
      exact G _ _ _ _ _ _ _ _ _ _ e (z_rel_lo r (z_lo_set1 (v := z_I x) r.2.2.1 hb2.1 trivial hl') (z_all_tail r.2.2.2.1))
  · cases e
theorem w_is (F : z_fx κ y d p R s m args meth c) (G : z_go κ h0 loc0 (z_ml y) p la ev R s m args below meth c Q K res) (r : z_rel κ s h0 loc0 (z_ml y) l st h loc H locs ls cells slots) {i : Nat} (hd : decode (z_by y) pc = .ok (.istore i, 2)) (e : o_is K (pc + 2) l st h i = some res) : W p la ev R s m args below meth c H locs cells slots Q (F0 m pc ls (st.map (z_rv loc))) := by
  obtain ⟨hx, hb, hml, hown, hts, hlk, hrt, hnm, hcx, hz, hRf, hRl⟩ := F
  unfold o_is at e
  split at e
  · next x st' =>
    cases hb2 : (z_nl l i && Nat.blt i l.length) with
    | false => rw [hb2] at e; cases e
    | true =>
      rw [hb2] at e
      simp only [Bool.and_eq_true] at hb2
      have hlt : i < z_ml y := by rw [← r.2.2.1.1]; exact Nat.le_of_ble_eq_true hb2.2
      refine lv_istore hx hb hd (z_lo_has r.2.2.1) hlt rfl (fun ls' hl' => ?_)
      exact G _ _ _ _ _ _ _ _ _ _ e (z_rel_lo r (z_lo_set1 (v := z_I x) r.2.2.1 hb2.1 trivial hl') (z_all_tail r.2.2.2.1))
  · cases e
theorem w_asn (F : z_fx κ y d p R s m args meth c) (G : z_go κ h0 loc0 (z_ml y) p la ev R s m args below meth c Q K res) (r : z_rel κ s h0 loc0 (z_ml y) l st h loc H locs ls cells slots) {k : Fin 4} (hd : decode (z_by y) pc = .ok (.astore_n k, 1)) (e : o_as K (pc + 1) l st h k.val = some res) : W p la ev R s m args below meth c H locs cells slots Q (F0 m pc ls (st.map (z_rv loc))) := by
  obtain ⟨hx, hb, hml, hown, hts, hlk, hrt, hnm, hcx, hz, hRf, hRl⟩ := F
  unfold o_as at e
  split at e
  · next p1 j1 st' =>
    cases hb2 : (z_nl l k.val && Nat.blt k.val l.length) with
    | false => rw [hb2] at e; cases e
    | true =>
      rw [hb2] at e
      simp only [Bool.and_eq_true] at hb2
      have hlt : k.val < z_ml y := by rw [← r.2.2.1.1]; exact Nat.le_of_ble_eq_true hb2.2
      refine lv_astore_n hx hb hd rfl (z_lo_has r.2.2.1) hlt rfl (fun ls' hl' => ?_)
      exact G _ _ _ _ _ _ _ _ _ _ e (z_rel_lo r (z_lo_set1 (v := z_R p1 j1) r.2.2.1 hb2.1 (z_all_head r.2.2.2.1) hl') (z_all_tail r.2.2.2.1))
  · next st' =>
    cases hb2 : (z_nl l k.val && Nat.blt k.val l.length) with
    | false => rw [hb2] at e; cases e
    | true =>
      rw [hb2] at e
      simp only [Bool.and_eq_true] at hb2
      have hlt : k.val < z_ml y := by rw [← r.2.2.1.1]; exact Nat.le_of_ble_eq_true hb2.2
      refine lv_astore_nN hx hb hd rfl (z_lo_has r.2.2.1) hlt rfl (fun ls' hl' => ?_)
      exact G _ _ _ _ _ _ _ _ _ _ e (z_rel_lo r (z_lo_set1 (v := z_N) r.2.2.1 hb2.1 trivial hl') (z_all_tail r.2.2.2.1))
  · cases e
theorem w_as (F : z_fx κ y d p R s m args meth c) (G : z_go κ h0 loc0 (z_ml y) p la ev R s m args below meth c Q K res) (r : z_rel κ s h0 loc0 (z_ml y) l st h loc H locs ls cells slots) {i : Nat} (hd : decode (z_by y) pc = .ok (.astore i, 2)) (e : o_as K (pc + 2) l st h i = some res) : W p la ev R s m args below meth c H locs cells slots Q (F0 m pc ls (st.map (z_rv loc))) := by
  obtain ⟨hx, hb, hml, hown, hts, hlk, hrt, hnm, hcx, hz, hRf, hRl⟩ := F
  unfold o_as at e
  split at e
  · next p1 j1 st' =>
    cases hb2 : (z_nl l i && Nat.blt i l.length) with
    | false => rw [hb2] at e; cases e
    | true =>
      rw [hb2] at e
      simp only [Bool.and_eq_true] at hb2
      have hlt : i < z_ml y := by rw [← r.2.2.1.1]; exact Nat.le_of_ble_eq_true hb2.2
      refine lv_astore hx hb hd (z_lo_has r.2.2.1) hlt rfl (fun ls' hl' => ?_)
      exact G _ _ _ _ _ _ _ _ _ _ e (z_rel_lo r (z_lo_set1 (v := z_R p1 j1) r.2.2.1 hb2.1 (z_all_head r.2.2.2.1) hl') (z_all_tail r.2.2.2.1))
  · next st' =>
    cases hb2 : (z_nl l i && Nat.blt i l.length) with
    | false => rw [hb2] at e; cases e
    | true =>
      rw [hb2] at e
      simp only [Bool.and_eq_true] at hb2
      have hlt : i < z_ml y := by rw [← r.2.2.1.1]; exact Nat.le_of_ble_eq_true hb2.2
      refine lv_astoreN hx hb hd (z_lo_has r.2.2.1) hlt rfl (fun ls' hl' => ?_)
      exact G _ _ _ _ _ _ _ _ _ _ e (z_rel_lo r (z_lo_set1 (v := z_N) r.2.2.1 hb2.1 trivial hl') (z_all_tail r.2.2.2.1))
  · cases e
theorem w_lsn (F : z_fx κ y d p R s m args meth c) (G : z_go κ h0 loc0 (z_ml y) p la ev R s m args below meth c Q K res) (r : z_rel κ s h0 loc0 (z_ml y) l st h loc H locs ls cells slots) {k : Fin 4} (hd : decode (z_by y) pc = .ok (.lstore_n k, 1)) (e : o_ls K (pc + 1) l st h k.val = some res) : W p la ev R s m args below meth c H locs cells slots Q (F0 m pc ls (st.map (z_rv loc))) := by
  obtain ⟨hx, hb, hml, hown, hts, hlk, hrt, hnm, hcx, hz, hRf, hRl⟩ := F
  unfold o_ls at e
  split at e
  · next x st' =>
    cases hb2 : (z_nl l k.val && Nat.blt (k.val + 1) l.length) with
    | false => rw [hb2] at e; cases e
    | true =>
      rw [hb2] at e
      simp only [Bool.and_eq_true] at hb2
      have hlt : k.val + 1 < z_ml y := by rw [← r.2.2.1.1]; exact Nat.le_of_ble_eq_true hb2.2
      refine lv_lstore_n hx hb hd rfl (z_lo_has r.2.2.1) hlt rfl (fun ls' hl' => ?_)
      exact G _ _ _ _ _ _ _ _ _ _ e (z_rel_lo r (z_lo_set2 (v := z_L x) r.2.2.1 hb2.1 trivial hl') (z_all_tail r.2.2.2.1))
  · cases e
theorem w_iinc (F : z_fx κ y d p R s m args meth c) (G : z_go κ h0 loc0 (z_ml y) p la ev R s m args below meth c Q K res) (r : z_rel κ s h0 loc0 (z_ml y) l st h loc H locs ls cells slots) {i : Nat} {n : Int} {v : Int32} (hv : Int32.ofInt n = v) (hd : decode (z_by y) pc = .ok (.iinc i n, 3)) (e : o_ic K (pc + 3) l st h i v = some res) : W p la ev R s m args below meth c H locs cells slots Q (F0 m pc ls (st.map (z_rv loc))) := by
  obtain ⟨hx, hb, hml, hown, hts, hlk, hrt, hnm, hcx, hz, hRf, hRl⟩ := F
  unfold o_ic at e
  split at e
  · next x hx2 =>
    cases hb2 : (z_nl l i && Nat.blt i l.length) with
    | false => rw [hb2] at e; cases e
    | true =>
      rw [hb2] at e
      simp only [Bool.and_eq_true] at hb2
      have hlt : i < z_ml y := by rw [← r.2.2.1.1]; exact Nat.le_of_ble_eq_true hb2.2
      have hm : (i, Value.int x) ∈ z_lvl loc l := z_lvl_mem.mpr ⟨z_I x, z_ld_get hx2 (by intro q; cases q), (by intro q; cases q), rfl⟩
      obtain ⟨k, hk⟩ := List.getElem?_of_mem hm
      refine lv_iinc (v := x + v) hx hb hd (z_lo_has r.2.2.1) hk (by rw [hv]) hlt rfl (fun ls' hl' => ?_)
      exact G _ _ _ _ _ _ _ _ _ _ e (z_rel_lo r (z_lo_set1 (v := z_I (x + v)) r.2.2.1 hb2.1 trivial hl') r.2.2.2.1)
  · cases e
theorem w_iconst (F : z_fx κ y d p R s m args meth c) (G : z_go κ h0 loc0 (z_ml y) p la ev R s m args below meth c Q K res) (r : z_rel κ s h0 loc0 (z_ml y) l st h loc H locs ls cells slots) {k : Int} {v : Int32} (hv : Int32.ofInt k = v) (hd : decode (z_by y) pc = .ok (.iconst k, 1)) (e : K (pc + 1) l (z_I v :: st) h = some res) : W p la ev R s m args below meth c H locs cells slots Q (F0 m pc ls (st.map (z_rv loc))) := by
  obtain ⟨hx, hb, hml, hown, hts, hlk, hrt, hnm, hcx, hz, hRf, hRl⟩ := F
  refine lv_iconst hx hb hd hv ?_
  exact G _ _ _ _ _ _ _ _ _ _ e (z_rel_st r (z_all_cons trivial r.2.2.2.1))
theorem w_bipush (F : z_fx κ y d p R s m args meth c) (G : z_go κ h0 loc0 (z_ml y) p la ev R s m args below meth c Q K res) (r : z_rel κ s h0 loc0 (z_ml y) l st h loc H locs ls cells slots) {k : Int} {v : Int32} (hv : (Int8.ofInt k).toInt32 = v) (hd : decode (z_by y) pc = .ok (.bipush k, 2)) (e : K (pc + 2) l (z_I v :: st) h = some res) : W p la ev R s m args below meth c H locs cells slots Q (F0 m pc ls (st.map (z_rv loc))) := by
  obtain ⟨hx, hb, hml, hown, hts, hlk, hrt, hnm, hcx, hz, hRf, hRl⟩ := F
  refine lv_bipush hx hb hd hv ?_
  exact G _ _ _ _ _ _ _ _ _ _ e (z_rel_st r (z_all_cons trivial r.2.2.2.1))
theorem w_sipush (F : z_fx κ y d p R s m args meth c) (G : z_go κ h0 loc0 (z_ml y) p la ev R s m args below meth c Q K res) (r : z_rel κ s h0 loc0 (z_ml y) l st h loc H locs ls cells slots) {k : Int} {v : Int32} (hv : (Int16.ofInt k).toInt32 = v) (hd : decode (z_by y) pc = .ok (.sipush k, 3)) (e : K (pc + 3) l (z_I v :: st) h = some res) : W p la ev R s m args below meth c H locs cells slots Q (F0 m pc ls (st.map (z_rv loc))) := by
  obtain ⟨hx, hb, hml, hown, hts, hlk, hrt, hnm, hcx, hz, hRf, hRl⟩ := F
  refine lv_sipush hx hb hd hv ?_
  exact G _ _ _ _ _ _ _ _ _ _ e (z_rel_st r (z_all_cons trivial r.2.2.2.1))
theorem w_ldc (F : z_fx κ y d p R s m args meth c) (G : z_go κ h0 loc0 (z_ml y) p la ev R s m args below meth c Q K res) (r : z_rel κ s h0 loc0 (z_ml y) l st h loc H locs ls cells slots) {k : Nat} {v : Int32} (hv : (z_oc y, k, v) ∈ z_KT.map (fun q => q.1)) (hd : decode (z_by y) pc = .ok (.ldc k, 2)) (e : K (pc + 2) l (z_I v :: st) h = some res) : W p la ev R s m args below meth c H locs cells slots Q (F0 m pc ls (st.map (z_rv loc))) := by
  obtain ⟨hx, hb, hml, hown, hts, hlk, hrt, hnm, hcx, hz, hRf, hRl⟩ := F
  refine lv_ldc hx hb hown (hts _ (z_KT_ok _ hv)) hd ?_
  exact G _ _ _ _ _ _ _ _ _ _ e (z_rel_st r (z_all_cons trivial r.2.2.2.1))
theorem w_ldcw (F : z_fx κ y d p R s m args meth c) (G : z_go κ h0 loc0 (z_ml y) p la ev R s m args below meth c Q K res) (r : z_rel κ s h0 loc0 (z_ml y) l st h loc H locs ls cells slots) {k : Nat} {v : Int32} (hv : (z_oc y, k, v) ∈ z_KT.map (fun q => q.1)) (hd : decode (z_by y) pc = .ok (.ldc_w k, 3)) (e : K (pc + 3) l (z_I v :: st) h = some res) : W p la ev R s m args below meth c H locs cells slots Q (F0 m pc ls (st.map (z_rv loc))) := by
  obtain ⟨hx, hb, hml, hown, hts, hlk, hrt, hnm, hcx, hz, hRf, hRl⟩ := F
  refine lv_ldcw hx hb hown (hts _ (z_KT_ok _ hv)) hd ?_
  exact G _ _ _ _ _ _ _ _ _ _ e (z_rel_st r (z_all_cons trivial r.2.2.2.1))
theorem w_ldc2 (F : z_fx κ y d p R s m args meth c) (G : z_go κ h0 loc0 (z_ml y) p la ev R s m args below meth c Q K res) (r : z_rel κ s h0 loc0 (z_ml y) l st h loc H locs ls cells slots) {k : Nat} {v : Int64} (hv : (z_oc y, k, v) ∈ z_LT.map (fun q => q.1)) (hd : decode (z_by y) pc = .ok (.ldc2_w k, 3)) (e : K (pc + 3) l (z_L v :: st) h = some res) : W p la ev R s m args below meth c H locs cells slots Q (F0 m pc ls (st.map (z_rv loc))) := by
  obtain ⟨hx, hb, hml, hown, hts, hlk, hrt, hnm, hcx, hz, hRf, hRl⟩ := F
  refine lv_ldc2 hx hb hown (hts _ (z_LT_ok _ hv)) hd ?_
  exact G _ _ _ _ _ _ _ _ _ _ e (z_rel_st r (z_all_cons trivial r.2.2.2.1))
theorem w_ldcS (F : z_fx κ y d p R s m args meth c) (G : z_go κ h0 loc0 (z_ml y) p la ev R s m args below meth c Q K res) (r : z_rel κ s h0 loc0 (z_ml y) l st h loc H locs ls cells slots) {k b : Nat} (hv : (z_oc y, k, b) ∈ z_ST) (hb8 : b < 8) (hd : decode (z_by y) pc = .ok (.ldc k, 2)) (e : K (pc + 2) l (z_R 8 b :: st) h = some res) : W p la ev R s m args below meth c H locs cells slots Q (F0 m pc ls (st.map (z_rv loc))) := by
  obtain ⟨hx, hb, hml, hown, hts, hlk, hrt, hnm, hcx, hz, hRf, hRl⟩ := F
  have hk : loc 8 b = zk κ b := by
    obtain ⟨L, f, hP, hD, hA, hzz⟩ := r.1
    exact (hA.2.2.2.2.1 b hb8).1
  have hZ : vk_R (z_on (z_oc y)) k (z_tx b) (zk κ b) s := by
    obtain ⟨c1, c2, c3, c4, c5, c6, c7, c8⟩ := hcx
    exact c7 (z_oc y, k, b) hv
  have hl : z_lv h (z_R 8 b) := Or.inr (Or.inr ⟨Or.inl rfl, hb8⟩)
  rw [← hk] at hZ
  refine va_ldcS hx hb hown hZ hd ?_
  exact G _ _ _ _ _ _ _ _ _ _ e (z_rel_st r (z_all_cons hl r.2.2.2.1))
theorem w_null (F : z_fx κ y d p R s m args meth c) (G : z_go κ h0 loc0 (z_ml y) p la ev R s m args below meth c Q K res) (r : z_rel κ s h0 loc0 (z_ml y) l st h loc H locs ls cells slots) (hd : decode (z_by y) pc = .ok (.aconst_null, 1)) (e : K (pc + 1) l (z_N :: st) h = some res) : W p la ev R s m args below meth c H locs cells slots Q (F0 m pc ls (st.map (z_rv loc))) := by
  obtain ⟨hx, hb, hml, hown, hts, hlk, hrt, hnm, hcx, hz, hRf, hRl⟩ := F
  refine lv_null hx hb hd ?_
  exact G _ _ _ _ _ _ _ _ _ _ e (z_rel_st r (z_all_cons trivial r.2.2.2.1))
theorem w_dup (F : z_fx κ y d p R s m args meth c) (G : z_go κ h0 loc0 (z_ml y) p la ev R s m args below meth c Q K res) (r : z_rel κ s h0 loc0 (z_ml y) l st h loc H locs ls cells slots) (hd : decode (z_by y) pc = .ok (.dup, 1)) (e : o_dup K (pc + 1) l st h = some res) : W p la ev R s m args below meth c H locs cells slots Q (F0 m pc ls (st.map (z_rv loc))) := by
  obtain ⟨hx, hb, hml, hown, hts, hlk, hrt, hnm, hcx, hz, hRf, hRl⟩ := F
  unfold o_dup at e
  split at e
  · next v st' =>
    cases hb2 : Nat.beq (z_cat v) 1 with
    | false => rw [hb2] at e; cases e
    | true =>
      rw [hb2] at e
      refine lv_dup hx hb hd (by rw [z_cat_rv]; exact Nat.eq_of_beq_eq_true hb2) ?_
      exact G _ _ _ _ _ _ _ _ _ _ e (z_rel_st r (z_all_cons (z_all_head r.2.2.2.1) r.2.2.2.1))
  · cases e
theorem w_pop (F : z_fx κ y d p R s m args meth c) (G : z_go κ h0 loc0 (z_ml y) p la ev R s m args below meth c Q K res) (r : z_rel κ s h0 loc0 (z_ml y) l st h loc H locs ls cells slots) (hd : decode (z_by y) pc = .ok (.pop, 1)) (e : o_pop K (pc + 1) l st h = some res) : W p la ev R s m args below meth c H locs cells slots Q (F0 m pc ls (st.map (z_rv loc))) := by
  obtain ⟨hx, hb, hml, hown, hts, hlk, hrt, hnm, hcx, hz, hRf, hRl⟩ := F
  unfold o_pop at e
  split at e
  · next v st' =>
    cases hb2 : Nat.beq (z_cat v) 1 with
    | false => rw [hb2] at e; cases e
    | true =>
      rw [hb2] at e
      refine lv_pop hx hb hd (by rw [z_cat_rv]; exact Nat.eq_of_beq_eq_true hb2) ?_
      exact G _ _ _ _ _ _ _ _ _ _ e (z_rel_st r (z_all_tail r.2.2.2.1))
  · cases e
theorem w_dup2 (F : z_fx κ y d p R s m args meth c) (G : z_go κ h0 loc0 (z_ml y) p la ev R s m args below meth c Q K res) (r : z_rel κ s h0 loc0 (z_ml y) l st h loc H locs ls cells slots) (hd : decode (z_by y) pc = .ok (.dup2, 1)) (e : o_dup2 K (pc + 1) l st h = some res) : W p la ev R s m args below meth c H locs cells slots Q (F0 m pc ls (st.map (z_rv loc))) := by
  obtain ⟨hx, hb, hml, hown, hts, hlk, hrt, hnm, hcx, hz, hRf, hRl⟩ := F
  unfold o_dup2 at e
  split at e
  · next v w st' =>
    cases hb2 : (Nat.beq (z_cat v) 1 && Nat.beq (z_cat w) 1) with
    | false => rw [hb2] at e; cases e
    | true =>
      rw [hb2] at e
      simp only [Bool.and_eq_true] at hb2
      refine lv_dup2_11 hx hb hd (by rw [z_cat_rv]; exact Nat.eq_of_beq_eq_true hb2.1) (by rw [z_cat_rv]; exact Nat.eq_of_beq_eq_true hb2.2) ?_
      exact G _ _ _ _ _ _ _ _ _ _ e (z_rel_st r (z_all_cons (z_all_head r.2.2.2.1) (z_all_cons (z_all_head (z_all_tail r.2.2.2.1)) r.2.2.2.1)))
  · cases e
theorem w_iadd (F : z_fx κ y d p R s m args meth c) (G : z_go κ h0 loc0 (z_ml y) p la ev R s m args below meth c Q K res) (r : z_rel κ s h0 loc0 (z_ml y) l st h loc H locs ls cells slots) (hd : decode (z_by y) pc = .ok (.iadd, 1)) (e : o_b K (pc + 1) l st h (fun x y => x + y) = some res) : W p la ev R s m args below meth c H locs cells slots Q (F0 m pc ls (st.map (z_rv loc))) := by
  obtain ⟨hx, hb, hml, hown, hts, hlk, hrt, hnm, hcx, hz, hRf, hRl⟩ := F
  unfold o_b at e
  split at e
  · next b a st' =>
    refine lv_iadd hx hb hd ?_
    exact G _ _ _ _ _ _ _ _ _ _ e (z_rel_st r (z_all_cons trivial (z_all_tail (z_all_tail r.2.2.2.1))))
  · cases e
theorem w_isub (F : z_fx κ y d p R s m args meth c) (G : z_go κ h0 loc0 (z_ml y) p la ev R s m args below meth c Q K res) (r : z_rel κ s h0 loc0 (z_ml y) l st h loc H locs ls cells slots) (hd : decode (z_by y) pc = .ok (.isub, 1)) (e : o_b K (pc + 1) l st h (fun x y => x - y) = some res) : W p la ev R s m args below meth c H locs cells slots Q (F0 m pc ls (st.map (z_rv loc))) := by
  obtain ⟨hx, hb, hml, hown, hts, hlk, hrt, hnm, hcx, hz, hRf, hRl⟩ := F
  unfold o_b at e
  split at e
  · next b a st' =>
    refine lv_isub hx hb hd ?_
    exact G _ _ _ _ _ _ _ _ _ _ e (z_rel_st r (z_all_cons trivial (z_all_tail (z_all_tail r.2.2.2.1))))
  · cases e
theorem w_imul (F : z_fx κ y d p R s m args meth c) (G : z_go κ h0 loc0 (z_ml y) p la ev R s m args below meth c Q K res) (r : z_rel κ s h0 loc0 (z_ml y) l st h loc H locs ls cells slots) (hd : decode (z_by y) pc = .ok (.imul, 1)) (e : o_b K (pc + 1) l st h (fun x y => x * y) = some res) : W p la ev R s m args below meth c H locs cells slots Q (F0 m pc ls (st.map (z_rv loc))) := by
  obtain ⟨hx, hb, hml, hown, hts, hlk, hrt, hnm, hcx, hz, hRf, hRl⟩ := F
  unfold o_b at e
  split at e
  · next b a st' =>
    refine lv_imul hx hb hd ?_
    exact G _ _ _ _ _ _ _ _ _ _ e (z_rel_st r (z_all_cons trivial (z_all_tail (z_all_tail r.2.2.2.1))))
  · cases e
theorem w_iand (F : z_fx κ y d p R s m args meth c) (G : z_go κ h0 loc0 (z_ml y) p la ev R s m args below meth c Q K res) (r : z_rel κ s h0 loc0 (z_ml y) l st h loc H locs ls cells slots) (hd : decode (z_by y) pc = .ok (.iand, 1)) (e : o_b K (pc + 1) l st h (fun x y => x &&& y) = some res) : W p la ev R s m args below meth c H locs cells slots Q (F0 m pc ls (st.map (z_rv loc))) := by
  obtain ⟨hx, hb, hml, hown, hts, hlk, hrt, hnm, hcx, hz, hRf, hRl⟩ := F
  unfold o_b at e
  split at e
  · next b a st' =>
    refine lv_iand hx hb hd ?_
    exact G _ _ _ _ _ _ _ _ _ _ e (z_rel_st r (z_all_cons trivial (z_all_tail (z_all_tail r.2.2.2.1))))
  · cases e
theorem w_ior (F : z_fx κ y d p R s m args meth c) (G : z_go κ h0 loc0 (z_ml y) p la ev R s m args below meth c Q K res) (r : z_rel κ s h0 loc0 (z_ml y) l st h loc H locs ls cells slots) (hd : decode (z_by y) pc = .ok (.ior, 1)) (e : o_b K (pc + 1) l st h (fun x y => x ||| y) = some res) : W p la ev R s m args below meth c H locs cells slots Q (F0 m pc ls (st.map (z_rv loc))) := by
  obtain ⟨hx, hb, hml, hown, hts, hlk, hrt, hnm, hcx, hz, hRf, hRl⟩ := F
  unfold o_b at e
  split at e
  · next b a st' =>
    refine lv_ior hx hb hd ?_
    exact G _ _ _ _ _ _ _ _ _ _ e (z_rel_st r (z_all_cons trivial (z_all_tail (z_all_tail r.2.2.2.1))))
  · cases e
theorem w_ixor (F : z_fx κ y d p R s m args meth c) (G : z_go κ h0 loc0 (z_ml y) p la ev R s m args below meth c Q K res) (r : z_rel κ s h0 loc0 (z_ml y) l st h loc H locs ls cells slots) (hd : decode (z_by y) pc = .ok (.ixor, 1)) (e : o_b K (pc + 1) l st h (fun x y => x ^^^ y) = some res) : W p la ev R s m args below meth c H locs cells slots Q (F0 m pc ls (st.map (z_rv loc))) := by
  obtain ⟨hx, hb, hml, hown, hts, hlk, hrt, hnm, hcx, hz, hRf, hRl⟩ := F
  unfold o_b at e
  split at e
  · next b a st' =>
    refine lv_ixor hx hb hd ?_
    exact G _ _ _ _ _ _ _ _ _ _ e (z_rel_st r (z_all_cons trivial (z_all_tail (z_all_tail r.2.2.2.1))))
  · cases e
theorem w_ishl (F : z_fx κ y d p R s m args meth c) (G : z_go κ h0 loc0 (z_ml y) p la ev R s m args below meth c Q K res) (r : z_rel κ s h0 loc0 (z_ml y) l st h loc H locs ls cells slots) (hd : decode (z_by y) pc = .ok (.ishl, 1)) (e : o_b K (pc + 1) l st h (fun x y => x <<< (y &&& 31)) = some res) : W p la ev R s m args below meth c H locs cells slots Q (F0 m pc ls (st.map (z_rv loc))) := by
  obtain ⟨hx, hb, hml, hown, hts, hlk, hrt, hnm, hcx, hz, hRf, hRl⟩ := F
  unfold o_b at e
  split at e
  · next b a st' =>
    refine lv_ishl hx hb hd ?_
    exact G _ _ _ _ _ _ _ _ _ _ e (z_rel_st r (z_all_cons trivial (z_all_tail (z_all_tail r.2.2.2.1))))
  · cases e
theorem w_ishr (F : z_fx κ y d p R s m args meth c) (G : z_go κ h0 loc0 (z_ml y) p la ev R s m args below meth c Q K res) (r : z_rel κ s h0 loc0 (z_ml y) l st h loc H locs ls cells slots) (hd : decode (z_by y) pc = .ok (.ishr, 1)) (e : o_b K (pc + 1) l st h (fun x y => x >>> (y &&& 31)) = some res) : W p la ev R s m args below meth c H locs cells slots Q (F0 m pc ls (st.map (z_rv loc))) := by
  obtain ⟨hx, hb, hml, hown, hts, hlk, hrt, hnm, hcx, hz, hRf, hRl⟩ := F
  unfold o_b at e
  split at e
  · next b a st' =>
    refine lv_ishr hx hb hd ?_
    exact G _ _ _ _ _ _ _ _ _ _ e (z_rel_st r (z_all_cons trivial (z_all_tail (z_all_tail r.2.2.2.1))))
  · cases e
theorem w_iushr (F : z_fx κ y d p R s m args meth c) (G : z_go κ h0 loc0 (z_ml y) p la ev R s m args below meth c Q K res) (r : z_rel κ s h0 loc0 (z_ml y) l st h loc H locs ls cells slots) (hd : decode (z_by y) pc = .ok (.iushr, 1)) (e : o_b K (pc + 1) l st h z_ush = some res) : W p la ev R s m args below meth c H locs cells slots Q (F0 m pc ls (st.map (z_rv loc))) := by
  obtain ⟨hx, hb, hml, hown, hts, hlk, hrt, hnm, hcx, hz, hRf, hRl⟩ := F
  unfold o_b at e
  split at e
  · next b a st' =>
    refine lv_iushr hx hb hd rfl ?_
    exact G _ _ _ _ _ _ _ _ _ _ e (z_rel_st r (z_all_cons trivial (z_all_tail (z_all_tail r.2.2.2.1))))
  · cases e
theorem w_ladd (F : z_fx κ y d p R s m args meth c) (G : z_go κ h0 loc0 (z_ml y) p la ev R s m args below meth c Q K res) (r : z_rel κ s h0 loc0 (z_ml y) l st h loc H locs ls cells slots) (hd : decode (z_by y) pc = .ok (.ladd, 1)) (e : o_bl K (pc + 1) l st h (fun x y => x + y) = some res) : W p la ev R s m args below meth c H locs cells slots Q (F0 m pc ls (st.map (z_rv loc))) := by
  obtain ⟨hx, hb, hml, hown, hts, hlk, hrt, hnm, hcx, hz, hRf, hRl⟩ := F
  unfold o_bl at e
  split at e
  · next b a st' =>
    refine lv_ladd hx hb hd ?_
    exact G _ _ _ _ _ _ _ _ _ _ e (z_rel_st r (z_all_cons trivial (z_all_tail (z_all_tail r.2.2.2.1))))
  · cases e
theorem w_land (F : z_fx κ y d p R s m args meth c) (G : z_go κ h0 loc0 (z_ml y) p la ev R s m args below meth c Q K res) (r : z_rel κ s h0 loc0 (z_ml y) l st h loc H locs ls cells slots) (hd : decode (z_by y) pc = .ok (.land, 1)) (e : o_bl K (pc + 1) l st h (fun x y => x &&& y) = some res) : W p la ev R s m args below meth c H locs cells slots Q (F0 m pc ls (st.map (z_rv loc))) := by
  obtain ⟨hx, hb, hml, hown, hts, hlk, hrt, hnm, hcx, hz, hRf, hRl⟩ := F
  unfold o_bl at e
  split at e
  · next b a st' =>
    refine lv_land hx hb hd ?_
    exact G _ _ _ _ _ _ _ _ _ _ e (z_rel_st r (z_all_cons trivial (z_all_tail (z_all_tail r.2.2.2.1))))
  · cases e
theorem w_lor (F : z_fx κ y d p R s m args meth c) (G : z_go κ h0 loc0 (z_ml y) p la ev R s m args below meth c Q K res) (r : z_rel κ s h0 loc0 (z_ml y) l st h loc H locs ls cells slots) (hd : decode (z_by y) pc = .ok (.lor, 1)) (e : o_bl K (pc + 1) l st h (fun x y => x ||| y) = some res) : W p la ev R s m args below meth c H locs cells slots Q (F0 m pc ls (st.map (z_rv loc))) := by
  obtain ⟨hx, hb, hml, hown, hts, hlk, hrt, hnm, hcx, hz, hRf, hRl⟩ := F
  unfold o_bl at e
  split at e
  · next b a st' =>
    refine lv_lor hx hb hd ?_
    exact G _ _ _ _ _ _ _ _ _ _ e (z_rel_st r (z_all_cons trivial (z_all_tail (z_all_tail r.2.2.2.1))))
  · cases e
theorem w_lshl (F : z_fx κ y d p R s m args meth c) (G : z_go κ h0 loc0 (z_ml y) p la ev R s m args below meth c Q K res) (r : z_rel κ s h0 loc0 (z_ml y) l st h loc H locs ls cells slots) (hd : decode (z_by y) pc = .ok (.lshl, 1)) (e : o_sl K (pc + 1) l st h (fun x y => x <<< (y.toInt64 &&& 63)) = some res) : W p la ev R s m args below meth c H locs cells slots Q (F0 m pc ls (st.map (z_rv loc))) := by
  obtain ⟨hx, hb, hml, hown, hts, hlk, hrt, hnm, hcx, hz, hRf, hRl⟩ := F
  unfold o_sl at e
  split at e
  · next b a st' =>
    refine lv_lshl hx hb hd rfl ?_
    exact G _ _ _ _ _ _ _ _ _ _ e (z_rel_st r (z_all_cons trivial (z_all_tail (z_all_tail r.2.2.2.1))))
  · cases e
theorem w_lshr (F : z_fx κ y d p R s m args meth c) (G : z_go κ h0 loc0 (z_ml y) p la ev R s m args below meth c Q K res) (r : z_rel κ s h0 loc0 (z_ml y) l st h loc H locs ls cells slots) (hd : decode (z_by y) pc = .ok (.lshr, 1)) (e : o_sl K (pc + 1) l st h (fun x y => x >>> (y.toInt64 &&& 63)) = some res) : W p la ev R s m args below meth c H locs cells slots Q (F0 m pc ls (st.map (z_rv loc))) := by
  obtain ⟨hx, hb, hml, hown, hts, hlk, hrt, hnm, hcx, hz, hRf, hRl⟩ := F
  unfold o_sl at e
  split at e
  · next b a st' =>
    refine lv_lshr hx hb hd rfl ?_
    exact G _ _ _ _ _ _ _ _ _ _ e (z_rel_st r (z_all_cons trivial (z_all_tail (z_all_tail r.2.2.2.1))))
  · cases e
theorem w_lushr (F : z_fx κ y d p R s m args meth c) (G : z_go κ h0 loc0 (z_ml y) p la ev R s m args below meth c Q K res) (r : z_rel κ s h0 loc0 (z_ml y) l st h loc H locs ls cells slots) (hd : decode (z_by y) pc = .ok (.lushr, 1)) (e : o_sl K (pc + 1) l st h z_lush = some res) : W p la ev R s m args below meth c H locs cells slots Q (F0 m pc ls (st.map (z_rv loc))) := by
  obtain ⟨hx, hb, hml, hown, hts, hlk, hrt, hnm, hcx, hz, hRf, hRl⟩ := F
  unfold o_sl at e
  split at e
  · next b a st' =>
    refine lv_lushr hx hb hd rfl ?_
    exact G _ _ _ _ _ _ _ _ _ _ e (z_rel_st r (z_all_cons trivial (z_all_tail (z_all_tail r.2.2.2.1))))
  · cases e
theorem w_lcmp (F : z_fx κ y d p R s m args meth c) (G : z_go κ h0 loc0 (z_ml y) p la ev R s m args below meth c Q K res) (r : z_rel κ s h0 loc0 (z_ml y) l st h loc H locs ls cells slots) (hd : decode (z_by y) pc = .ok (.lcmp, 1)) (e : o_lc K (pc + 1) l st h  = some res) : W p la ev R s m args below meth c H locs cells slots Q (F0 m pc ls (st.map (z_rv loc))) := by
  obtain ⟨hx, hb, hml, hown, hts, hlk, hrt, hnm, hcx, hz, hRf, hRl⟩ := F
  unfold o_lc at e
  split at e
  · next b a st' =>
    refine W.lcmp hx hb hd ?_
    exact G _ _ _ _ _ _ _ _ _ _ e (z_rel_st r (z_all_cons trivial (z_all_tail (z_all_tail r.2.2.2.1))))
  · cases e
theorem w_idiv (F : z_fx κ y d p R s m args meth c) (G : z_go κ h0 loc0 (z_ml y) p la ev R s m args below meth c Q K res) (r : z_rel κ s h0 loc0 (z_ml y) l st h loc H locs ls cells slots) (hd : decode (z_by y) pc = .ok (.idiv, 1)) (e : o_d K (pc + 1) l st h (fun x y => x / y) = some res) : W p la ev R s m args below meth c H locs cells slots Q (F0 m pc ls (st.map (z_rv loc))) := by
  obtain ⟨hx, hb, hml, hown, hts, hlk, hrt, hnm, hcx, hz, hRf, hRl⟩ := F
  unfold o_d at e
  split at e
  · next b a st' =>
    cases hb2 : (b == 0) with
    | true => rw [hb2] at e; cases e
    | false =>
      rw [hb2] at e
      refine lv_idiv hx hb hd (by simpa using hb2) ?_
      exact G _ _ _ _ _ _ _ _ _ _ e (z_rel_st r (z_all_cons trivial (z_all_tail (z_all_tail r.2.2.2.1))))
  · cases e
theorem w_irem (F : z_fx κ y d p R s m args meth c) (G : z_go κ h0 loc0 (z_ml y) p la ev R s m args below meth c Q K res) (r : z_rel κ s h0 loc0 (z_ml y) l st h loc H locs ls cells slots) (hd : decode (z_by y) pc = .ok (.irem, 1)) (e : o_d K (pc + 1) l st h (fun x y => x - x / y * y) = some res) : W p la ev R s m args below meth c H locs cells slots Q (F0 m pc ls (st.map (z_rv loc))) := by
  obtain ⟨hx, hb, hml, hown, hts, hlk, hrt, hnm, hcx, hz, hRf, hRl⟩ := F
  unfold o_d at e
  split at e
  · next b a st' =>
    cases hb2 : (b == 0) with
    | true => rw [hb2] at e; cases e
    | false =>
      rw [hb2] at e
      refine lv_irem hx hb hd (by simpa using hb2) ?_
      exact G _ _ _ _ _ _ _ _ _ _ e (z_rel_st r (z_all_cons trivial (z_all_tail (z_all_tail r.2.2.2.1))))
  · cases e
theorem w_i2l (F : z_fx κ y d p R s m args meth c) (G : z_go κ h0 loc0 (z_ml y) p la ev R s m args below meth c Q K res) (r : z_rel κ s h0 loc0 (z_ml y) l st h loc H locs ls cells slots) (hd : decode (z_by y) pc = .ok (.i2l, 1)) (e : o_i2l K (pc + 1) l st h  = some res) : W p la ev R s m args below meth c H locs cells slots Q (F0 m pc ls (st.map (z_rv loc))) := by
  obtain ⟨hx, hb, hml, hown, hts, hlk, hrt, hnm, hcx, hz, hRf, hRl⟩ := F
  unfold o_i2l at e
  split at e
  · next a st' =>
    refine lv_i2l hx hb hd rfl ?_
    exact G _ _ _ _ _ _ _ _ _ _ e (z_rel_st r (z_all_cons trivial (z_all_tail r.2.2.2.1)))
  · cases e
theorem w_l2i (F : z_fx κ y d p R s m args meth c) (G : z_go κ h0 loc0 (z_ml y) p la ev R s m args below meth c Q K res) (r : z_rel κ s h0 loc0 (z_ml y) l st h loc H locs ls cells slots) (hd : decode (z_by y) pc = .ok (.l2i, 1)) (e : o_l2i K (pc + 1) l st h  = some res) : W p la ev R s m args below meth c H locs cells slots Q (F0 m pc ls (st.map (z_rv loc))) := by
  obtain ⟨hx, hb, hml, hown, hts, hlk, hrt, hnm, hcx, hz, hRf, hRl⟩ := F
  unfold o_l2i at e
  split at e
  · next a st' =>
    refine lv_l2i hx hb hd rfl ?_
    exact G _ _ _ _ _ _ _ _ _ _ e (z_rel_st r (z_all_cons trivial (z_all_tail r.2.2.2.1)))
  · cases e
theorem w_i2b (F : z_fx κ y d p R s m args meth c) (G : z_go κ h0 loc0 (z_ml y) p la ev R s m args below meth c Q K res) (r : z_rel κ s h0 loc0 (z_ml y) l st h loc H locs ls cells slots) (hd : decode (z_by y) pc = .ok (.i2b, 1)) (e : o_u K (pc + 1) l st h (fun x => x.toInt8.toInt32) = some res) : W p la ev R s m args below meth c H locs cells slots Q (F0 m pc ls (st.map (z_rv loc))) := by
  obtain ⟨hx, hb, hml, hown, hts, hlk, hrt, hnm, hcx, hz, hRf, hRl⟩ := F
  unfold o_u at e
  split at e
  · next a st' =>
    refine lv_i2b hx hb hd rfl ?_
    exact G _ _ _ _ _ _ _ _ _ _ e (z_rel_st r (z_all_cons trivial (z_all_tail r.2.2.2.1)))
  · cases e
theorem w_i2s (F : z_fx κ y d p R s m args meth c) (G : z_go κ h0 loc0 (z_ml y) p la ev R s m args below meth c Q K res) (r : z_rel κ s h0 loc0 (z_ml y) l st h loc H locs ls cells slots) (hd : decode (z_by y) pc = .ok (.i2s, 1)) (e : o_u K (pc + 1) l st h (fun x => x.toInt16.toInt32) = some res) : W p la ev R s m args below meth c H locs cells slots Q (F0 m pc ls (st.map (z_rv loc))) := by
  obtain ⟨hx, hb, hml, hown, hts, hlk, hrt, hnm, hcx, hz, hRf, hRl⟩ := F
  unfold o_u at e
  split at e
  · next a st' =>
    refine lv_i2s hx hb hd rfl ?_
    exact G _ _ _ _ _ _ _ _ _ _ e (z_rel_st r (z_all_cons trivial (z_all_tail r.2.2.2.1)))
  · cases e
theorem w_i2c (F : z_fx κ y d p R s m args meth c) (G : z_go κ h0 loc0 (z_ml y) p la ev R s m args below meth c Q K res) (r : z_rel κ s h0 loc0 (z_ml y) l st h loc H locs ls cells slots) (hd : decode (z_by y) pc = .ok (.i2c, 1)) (e : o_u K (pc + 1) l st h (fun x => (x.toUInt32 % 65536).toInt32) = some res) : W p la ev R s m args below meth c H locs cells slots Q (F0 m pc ls (st.map (z_rv loc))) := by
  obtain ⟨hx, hb, hml, hown, hts, hlk, hrt, hnm, hcx, hz, hRf, hRl⟩ := F
  unfold o_u at e
  split at e
  · next a st' =>
    refine lv_i2c hx hb hd rfl ?_
    exact G _ _ _ _ _ _ _ _ _ _ e (z_rel_st r (z_all_cons trivial (z_all_tail r.2.2.2.1)))
  · cases e
theorem w_icmp_eq (F : z_fx κ y d p R s m args meth c) (G : z_go κ h0 loc0 (z_ml y) p la ev R s m args below meth c Q K res) (r : z_rel κ s h0 loc0 (z_ml y) l st h loc H locs ls cells slots) {off : Int} {t : Nat} (ht : (pc : Int) + off = (t : Int)) (hd : decode (z_by y) pc = .ok (.if_icmp .eq off, 3)) (e : o_if2 K (pc + 3) l st h .eq t = some res) : W p la ev R s m args below meth c H locs cells slots Q (F0 m pc ls (st.map (z_rv loc))) := by
  obtain ⟨hx, hb, hml, hown, hts, hlk, hrt, hnm, hcx, hz, hRf, hRl⟩ := F
  unfold o_if2 at e
  split at e
  · next b a st' =>
    simp only [z_cmp] at e
    refine lv_icmp_eq (tgt := t) hx hb hd ht (fun q => ?_) (fun q => ?_)
    · rw [if_pos q] at e
      exact G _ _ _ _ _ _ _ _ _ _ e (z_rel_st r (z_all_tail (z_all_tail r.2.2.2.1)))
    · rw [if_neg q] at e
      exact G _ _ _ _ _ _ _ _ _ _ e (z_rel_st r (z_all_tail (z_all_tail r.2.2.2.1)))
  · cases e
theorem w_if_eq (F : z_fx κ y d p R s m args meth c) (G : z_go κ h0 loc0 (z_ml y) p la ev R s m args below meth c Q K res) (r : z_rel κ s h0 loc0 (z_ml y) l st h loc H locs ls cells slots) {off : Int} {t : Nat} (ht : (pc : Int) + off = (t : Int)) (hd : decode (z_by y) pc = .ok (.ifCond .eq off, 3)) (e : o_if1 K (pc + 3) l st h .eq t = some res) : W p la ev R s m args below meth c H locs cells slots Q (F0 m pc ls (st.map (z_rv loc))) := by
  obtain ⟨hx, hb, hml, hown, hts, hlk, hrt, hnm, hcx, hz, hRf, hRl⟩ := F
  unfold o_if1 at e
  split at e
  · next a st' =>
    simp only [z_cmp] at e
    refine lv_if_eq (tgt := t) hx hb hd ht (fun q => ?_) (fun q => ?_)
    · rw [if_pos q] at e
      exact G _ _ _ _ _ _ _ _ _ _ e (z_rel_st r (z_all_tail r.2.2.2.1))
    · rw [if_neg q] at e
      exact G _ _ _ _ _ _ _ _ _ _ e (z_rel_st r (z_all_tail r.2.2.2.1))
  · cases e
theorem w_icmp_ne (F : z_fx κ y d p R s m args meth c) (G : z_go κ h0 loc0 (z_ml y) p la ev R s m args below meth c Q K res) (r : z_rel κ s h0 loc0 (z_ml y) l st h loc H locs ls cells slots) {off : Int} {t : Nat} (ht : (pc : Int) + off = (t : Int)) (hd : decode (z_by y) pc = .ok (.if_icmp .ne off, 3)) (e : o_if2 K (pc + 3) l st h .ne t = some res) : W p la ev R s m args below meth c H locs cells slots Q (F0 m pc ls (st.map (z_rv loc))) := by
  obtain ⟨hx, hb, hml, hown, hts, hlk, hrt, hnm, hcx, hz, hRf, hRl⟩ := F
  unfold o_if2 at e
  split at e
  · next b a st' =>
    simp only [z_cmp] at e
    refine lv_icmp_ne (tgt := t) hx hb hd ht (fun q => ?_) (fun q => ?_)
    · rw [if_pos q] at e
      exact G _ _ _ _ _ _ _ _ _ _ e (z_rel_st r (z_all_tail (z_all_tail r.2.2.2.1)))
    · rw [if_neg (fun z => z q)] at e
      exact G _ _ _ _ _ _ _ _ _ _ e (z_rel_st r (z_all_tail (z_all_tail r.2.2.2.1)))
  · cases e
theorem w_if_ne (F : z_fx κ y d p R s m args meth c) (G : z_go κ h0 loc0 (z_ml y) p la ev R s m args below meth c Q K res) (r : z_rel κ s h0 loc0 (z_ml y) l st h loc H locs ls cells slots) {off : Int} {t : Nat} (ht : (pc : Int) + off = (t : Int)) (hd : decode (z_by y) pc = .ok (.ifCond .ne off, 3)) (e : o_if1 K (pc + 3) l st h .ne t = some res) : W p la ev R s m args below meth c H locs cells slots Q (F0 m pc ls (st.map (z_rv loc))) := by
  obtain ⟨hx, hb, hml, hown, hts, hlk, hrt, hnm, hcx, hz, hRf, hRl⟩ := F
  unfold o_if1 at e
  split at e
  · next a st' =>
    simp only [z_cmp] at e
    refine lv_if_ne (tgt := t) hx hb hd ht (fun q => ?_) (fun q => ?_)
    · rw [if_pos q] at e
      exact G _ _ _ _ _ _ _ _ _ _ e (z_rel_st r (z_all_tail r.2.2.2.1))
    · rw [if_neg (fun z => z q)] at e
      exact G _ _ _ _ _ _ _ _ _ _ e (z_rel_st r (z_all_tail r.2.2.2.1))
  · cases e
theorem w_icmp_lt (F : z_fx κ y d p R s m args meth c) (G : z_go κ h0 loc0 (z_ml y) p la ev R s m args below meth c Q K res) (r : z_rel κ s h0 loc0 (z_ml y) l st h loc H locs ls cells slots) {off : Int} {t : Nat} (ht : (pc : Int) + off = (t : Int)) (hd : decode (z_by y) pc = .ok (.if_icmp .lt off, 3)) (e : o_if2 K (pc + 3) l st h .lt t = some res) : W p la ev R s m args below meth c H locs cells slots Q (F0 m pc ls (st.map (z_rv loc))) := by
  obtain ⟨hx, hb, hml, hown, hts, hlk, hrt, hnm, hcx, hz, hRf, hRl⟩ := F
  unfold o_if2 at e
  split at e
  · next b a st' =>
    simp only [z_cmp] at e
    refine lv_icmp_lt (tgt := t) hx hb hd ht (fun q => ?_) (fun q => ?_)
    · rw [if_pos q] at e
      exact G _ _ _ _ _ _ _ _ _ _ e (z_rel_st r (z_all_tail (z_all_tail r.2.2.2.1)))
    · rw [if_neg q] at e
      exact G _ _ _ _ _ _ _ _ _ _ e (z_rel_st r (z_all_tail (z_all_tail r.2.2.2.1)))
  · cases e
theorem w_if_lt (F : z_fx κ y d p R s m args meth c) (G : z_go κ h0 loc0 (z_ml y) p la ev R s m args below meth c Q K res) (r : z_rel κ s h0 loc0 (z_ml y) l st h loc H locs ls cells slots) {off : Int} {t : Nat} (ht : (pc : Int) + off = (t : Int)) (hd : decode (z_by y) pc = .ok (.ifCond .lt off, 3)) (e : o_if1 K (pc + 3) l st h .lt t = some res) : W p la ev R s m args below meth c H locs cells slots Q (F0 m pc ls (st.map (z_rv loc))) := by
  obtain ⟨hx, hb, hml, hown, hts, hlk, hrt, hnm, hcx, hz, hRf, hRl⟩ := F
  unfold o_if1 at e
  split at e
  · next a st' =>
    simp only [z_cmp] at e
    refine lv_if_lt (tgt := t) hx hb hd ht (fun q => ?_) (fun q => ?_)
    · rw [if_pos q] at e
      exact G _ _ _ _ _ _ _ _ _ _ e (z_rel_st r (z_all_tail r.2.2.2.1))
    · rw [if_neg q] at e
      exact G _ _ _ _ _ _ _ _ _ _ e (z_rel_st r (z_all_tail r.2.2.2.1))
  · cases e
theorem w_icmp_ge (F : z_fx κ y d p R s m args meth c) (G : z_go κ h0 loc0 (z_ml y) p la ev R s m args below meth c Q K res) (r : z_rel κ s h0 loc0 (z_ml y) l st h loc H locs ls cells slots) {off : Int} {t : Nat} (ht : (pc : Int) + off = (t : Int)) (hd : decode (z_by y) pc = .ok (.if_icmp .ge off, 3)) (e : o_if2 K (pc + 3) l st h .ge t = some res) : W p la ev R s m args below meth c H locs cells slots Q (F0 m pc ls (st.map (z_rv loc))) := by
  obtain ⟨hx, hb, hml, hown, hts, hlk, hrt, hnm, hcx, hz, hRf, hRl⟩ := F
  unfold o_if2 at e
  split at e
  · next b a st' =>
    simp only [z_cmp] at e
    refine lv_icmp_ge (tgt := t) hx hb hd ht (fun q => ?_) (fun q => ?_)
    · rw [if_pos q] at e
      exact G _ _ _ _ _ _ _ _ _ _ e (z_rel_st r (z_all_tail (z_all_tail r.2.2.2.1)))
    · rw [if_neg q] at e
      exact G _ _ _ _ _ _ _ _ _ _ e (z_rel_st r (z_all_tail (z_all_tail r.2.2.2.1)))
  · cases e
theorem w_if_ge (F : z_fx κ y d p R s m args meth c) (G : z_go κ h0 loc0 (z_ml y) p la ev R s m args below meth c Q K res) (r : z_rel κ s h0 loc0 (z_ml y) l st h loc H locs ls cells slots) {off : Int} {t : Nat} (ht : (pc : Int) + off = (t : Int)) (hd : decode (z_by y) pc = .ok (.ifCond .ge off, 3)) (e : o_if1 K (pc + 3) l st h .ge t = some res) : W p la ev R s m args below meth c H locs cells slots Q (F0 m pc ls (st.map (z_rv loc))) := by
  obtain ⟨hx, hb, hml, hown, hts, hlk, hrt, hnm, hcx, hz, hRf, hRl⟩ := F
  unfold o_if1 at e
  split at e
  · next a st' =>
    simp only [z_cmp] at e
    refine lv_if_ge (tgt := t) hx hb hd ht (fun q => ?_) (fun q => ?_)
    · rw [if_pos q] at e
      exact G _ _ _ _ _ _ _ _ _ _ e (z_rel_st r (z_all_tail r.2.2.2.1))
    · rw [if_neg q] at e
      exact G _ _ _ _ _ _ _ _ _ _ e (z_rel_st r (z_all_tail r.2.2.2.1))
  · cases e
theorem w_icmp_gt (F : z_fx κ y d p R s m args meth c) (G : z_go κ h0 loc0 (z_ml y) p la ev R s m args below meth c Q K res) (r : z_rel κ s h0 loc0 (z_ml y) l st h loc H locs ls cells slots) {off : Int} {t : Nat} (ht : (pc : Int) + off = (t : Int)) (hd : decode (z_by y) pc = .ok (.if_icmp .gt off, 3)) (e : o_if2 K (pc + 3) l st h .gt t = some res) : W p la ev R s m args below meth c H locs cells slots Q (F0 m pc ls (st.map (z_rv loc))) := by
  obtain ⟨hx, hb, hml, hown, hts, hlk, hrt, hnm, hcx, hz, hRf, hRl⟩ := F
  unfold o_if2 at e
  split at e
  · next b a st' =>
    simp only [z_cmp] at e
    refine lv_icmp_gt (tgt := t) hx hb hd ht (fun q => ?_) (fun q => ?_)
    · rw [if_pos q] at e
      exact G _ _ _ _ _ _ _ _ _ _ e (z_rel_st r (z_all_tail (z_all_tail r.2.2.2.1)))
    · rw [if_neg q] at e
      exact G _ _ _ _ _ _ _ _ _ _ e (z_rel_st r (z_all_tail (z_all_tail r.2.2.2.1)))
  · cases e
theorem w_if_gt (F : z_fx κ y d p R s m args meth c) (G : z_go κ h0 loc0 (z_ml y) p la ev R s m args below meth c Q K res) (r : z_rel κ s h0 loc0 (z_ml y) l st h loc H locs ls cells slots) {off : Int} {t : Nat} (ht : (pc : Int) + off = (t : Int)) (hd : decode (z_by y) pc = .ok (.ifCond .gt off, 3)) (e : o_if1 K (pc + 3) l st h .gt t = some res) : W p la ev R s m args below meth c H locs cells slots Q (F0 m pc ls (st.map (z_rv loc))) := by
  obtain ⟨hx, hb, hml, hown, hts, hlk, hrt, hnm, hcx, hz, hRf, hRl⟩ := F
  unfold o_if1 at e
  split at e
  · next a st' =>
    simp only [z_cmp] at e
    refine lv_if_gt (tgt := t) hx hb hd ht (fun q => ?_) (fun q => ?_)
    · rw [if_pos q] at e
      exact G _ _ _ _ _ _ _ _ _ _ e (z_rel_st r (z_all_tail r.2.2.2.1))
    · rw [if_neg q] at e
      exact G _ _ _ _ _ _ _ _ _ _ e (z_rel_st r (z_all_tail r.2.2.2.1))
  · cases e
theorem w_icmp_le (F : z_fx κ y d p R s m args meth c) (G : z_go κ h0 loc0 (z_ml y) p la ev R s m args below meth c Q K res) (r : z_rel κ s h0 loc0 (z_ml y) l st h loc H locs ls cells slots) {off : Int} {t : Nat} (ht : (pc : Int) + off = (t : Int)) (hd : decode (z_by y) pc = .ok (.if_icmp .le off, 3)) (e : o_if2 K (pc + 3) l st h .le t = some res) : W p la ev R s m args below meth c H locs cells slots Q (F0 m pc ls (st.map (z_rv loc))) := by
  obtain ⟨hx, hb, hml, hown, hts, hlk, hrt, hnm, hcx, hz, hRf, hRl⟩ := F
  unfold o_if2 at e
  split at e
  · next b a st' =>
    simp only [z_cmp] at e
    refine lv_icmp_le (tgt := t) hx hb hd ht (fun q => ?_) (fun q => ?_)
    · rw [if_pos q] at e
      exact G _ _ _ _ _ _ _ _ _ _ e (z_rel_st r (z_all_tail (z_all_tail r.2.2.2.1)))
    · rw [if_neg q] at e
      exact G _ _ _ _ _ _ _ _ _ _ e (z_rel_st r (z_all_tail (z_all_tail r.2.2.2.1)))
  · cases e
theorem w_if_le (F : z_fx κ y d p R s m args meth c) (G : z_go κ h0 loc0 (z_ml y) p la ev R s m args below meth c Q K res) (r : z_rel κ s h0 loc0 (z_ml y) l st h loc H locs ls cells slots) {off : Int} {t : Nat} (ht : (pc : Int) + off = (t : Int)) (hd : decode (z_by y) pc = .ok (.ifCond .le off, 3)) (e : o_if1 K (pc + 3) l st h .le t = some res) : W p la ev R s m args below meth c H locs cells slots Q (F0 m pc ls (st.map (z_rv loc))) := by
  obtain ⟨hx, hb, hml, hown, hts, hlk, hrt, hnm, hcx, hz, hRf, hRl⟩ := F
  unfold o_if1 at e
  split at e
  · next a st' =>
    simp only [z_cmp] at e
    refine lv_if_le (tgt := t) hx hb hd ht (fun q => ?_) (fun q => ?_)
    · rw [if_pos q] at e
      exact G _ _ _ _ _ _ _ _ _ _ e (z_rel_st r (z_all_tail r.2.2.2.1))
    · rw [if_neg q] at e
      exact G _ _ _ _ _ _ _ _ _ _ e (z_rel_st r (z_all_tail r.2.2.2.1))
  · cases e
theorem w_goto (F : z_fx κ y d p R s m args meth c) (G : z_go κ h0 loc0 (z_ml y) p la ev R s m args below meth c Q K res) (r : z_rel κ s h0 loc0 (z_ml y) l st h loc H locs ls cells slots) {off : Int} {t : Nat} (ht : (pc : Int) + off = (t : Int)) (hd : decode (z_by y) pc = .ok (.goto off, 3)) (e : K t l st h = some res) : W p la ev R s m args below meth c H locs cells slots Q (F0 m pc ls (st.map (z_rv loc))) := by
  obtain ⟨hx, hb, hml, hown, hts, hlk, hrt, hnm, hcx, hz, hRf, hRl⟩ := F
  refine lv_goto (tgt := t) hx hb hd ht ?_
  exact G _ _ _ _ _ _ _ _ _ _ e r
theorem w_ifnull (F : z_fx κ y d p R s m args meth c) (G : z_go κ h0 loc0 (z_ml y) p la ev R s m args below meth c Q K res) (r : z_rel κ s h0 loc0 (z_ml y) l st h loc H locs ls cells slots) {off : Int} {t : Nat} (ht : (pc : Int) + off = (t : Int)) (hd : decode (z_by y) pc = .ok (.ifnull off, 3)) (e : o_nul K l st h t (pc + 3) = some res) : W p la ev R s m args below meth c H locs cells slots Q (F0 m pc ls (st.map (z_rv loc))) := by
  obtain ⟨hx, hb, hml, hown, hts, hlk, hrt, hnm, hcx, hz, hRf, hRl⟩ := F
  unfold o_nul at e
  split at e
  · refine lv_ifnull hx hb hd ?_
    exact G _ _ _ _ _ _ _ _ _ _ e (z_rel_st r (z_all_tail r.2.2.2.1))
  · refine lv_ifnullN (tgt := t) hx hb hd ht ?_
    exact G _ _ _ _ _ _ _ _ _ _ e (z_rel_st r (z_all_tail r.2.2.2.1))
  · cases e
theorem w_ifnonnull (F : z_fx κ y d p R s m args meth c) (G : z_go κ h0 loc0 (z_ml y) p la ev R s m args below meth c Q K res) (r : z_rel κ s h0 loc0 (z_ml y) l st h loc H locs ls cells slots) {off : Int} {t : Nat} (ht : (pc : Int) + off = (t : Int)) (hd : decode (z_by y) pc = .ok (.ifnonnull off, 3)) (e : o_nul K l st h (pc + 3) t = some res) : W p la ev R s m args below meth c H locs cells slots Q (F0 m pc ls (st.map (z_rv loc))) := by
  obtain ⟨hx, hb, hml, hown, hts, hlk, hrt, hnm, hcx, hz, hRf, hRl⟩ := F
  unfold o_nul at e
  split at e
  · refine lv_ifnonnull (tgt := t) hx hb hd ht ?_
    exact G _ _ _ _ _ _ _ _ _ _ e (z_rel_st r (z_all_tail r.2.2.2.1))
  · refine lv_ifnonnullN hx hb hd ?_
    exact G _ _ _ _ _ _ _ _ _ _ e (z_rel_st r (z_all_tail r.2.2.2.1))
  · cases e
end
