/-! ===== cells that are made; copies ===== -/
theorem z_pool_len : ∀ p ∈ z_pools, (Int32.ofNat (p / 1000)).toNatClampNeg = p / 1000 ∧ ¬ Int32.ofNat (p / 1000) < 0 ∧ p / 1000 * 8 ≤ 536870912 := by decide +kernel
theorem z_pool_tt : ∀ p ∈ z_pools, p % 10 = 0 → ∀ k, k < 49 → (if z_ft p k ≤ 1 then (z_tt (p / 10 % 100) k = .int ∨ z_tt (p / 10 % 100) k = .boolean) else z_isR (z_tt (p / 10 % 100) k) = true) ∨ p / 1000 ≤ k := by decide +kernel
theorem z_fresh {A : Nat → Prop} {L : List Nat} {f : Nat → va_E} {q : Nat} {e : va_E} (hD : va_D A (va_pl L f ++ [(q, e)])) : q ∉ L := by
  intro hq
  obtain ⟨k, hk⟩ := z_pl_get (f := f) hq
  have h1 := (List.getElem?_eq_some_iff.mp hk).1
  have h2 : (va_pl L f ++ [(q, e)])[k]? = some (q, f q) := by rw [List.getElem?_append_left h1]; exact hk
  have h3 : (va_pl L f ++ [(q, e)])[(va_pl L f).length]? = some (q, e) := by rw [List.getElem?_append_right (Nat.le_refl _), Nat.sub_self]; rfl
  have := hD.1 _ _ _ _ h2 h3 rfl
  omega
/-- the world behind a making -/
theorem z_wd_new {κ : z_Q} {loc : Nat → Nat → Nat} {h : z_H} {L : List Nat} {f : Nat → va_E} {p i n t q : Nat} {e : va_E} {H1 : Heap} (hA : z_at κ loc h L f) (hp : p ∈ z_pools) (hv : gV h p i = false) (ht : t ≠ 7)
    (hP1 : va_P (zD κ) z_cls (va_pl L f ++ [(q, e)]) H1) (hD1 : va_D (z_fr κ) (va_pl L f ++ [(q, e)])) (hE : e = z_en (za κ) (fun q' j => if q' = p ∧ j = i then q else loc q' j) (nw h p i n t) p i) (hz : zz κ ≤ H1.size) :
    z_wd κ (fun q' j => if q' = p ∧ j = i then q else loc q' j) (nw h p i n t) H1 := by
  have hq := z_fresh hD1
  rw [va_pl_push hq, hE] at hP1 hD1
  exact ⟨_, _, hP1, hD1, z_at_new hA hp hv ht hq, hz⟩
theorem z_st_new {h : z_H} {loc : Nat → Nat → Nat} {p i q : Nat} {st : List z_V} (hp : p ∈ z_pools) (hv : gV h p i = false) (lvs : ∀ w ∈ st, z_lv h w) : List.map (z_rv (fun q' j => if q' = p ∧ j = i then q else loc q' j)) (z_R p i :: st) = Value.ref q :: st.map (z_rv loc) := by
  rw [List.map_cons, z_st_ex (z_ex_new hp hv) lvs]
  show Value.ref (if p = p ∧ i = i then q else loc p i) :: _ = _
  rw [if_pos ⟨rfl, rfl⟩]
section
variable {κ : z_Q} {y d : Nat} {h0 : z_H} {loc0 : Nat → Nat → Nat} {p : Program} {la : Launch} {ev : Env} {R : Room} {s : State} {m : MethodId} {args : Array Value} {below : List Frame} {meth : Method} {c : Code} {Q : State → Prop} {K : z_K} {res : z_A} {pc : Nat} {l st : List z_V} {h : z_H} {loc : Nat → Nat → Nat} {H : Heap} {locs : List Loc} {ls : Array Slot} {cells slots : Nat}
theorem z_rel_new {κ : z_Q} {s : State} {h0 : z_H} {loc0 : Nat → Nat → Nat} {n : Nat} {l st st' : List z_V} {h : z_H} {loc : Nat → Nat → Nat} {H H1 : Heap} {locs : List Loc} {ls : Array Slot} {cells slots p i q k t : Nat} (r : z_rel κ s h0 loc0 n l st h loc H locs ls cells slots) (hp : p ∈ z_pools) (hv : gV h p i = false)
    (hw : z_wd κ (fun q' j => if q' = p ∧ j = i then q else loc q' j) (nw h p i k t) H1) (hS1 : va_S (z_fr κ) s.heap H1 locs) (hst : ∀ w ∈ st', z_lv h w) :
    z_rel κ s h0 loc0 n l (z_R p i :: st') (nw h p i k t) (fun q' j => if q' = p ∧ j = i then q else loc q' j) H1 locs ls (cells + 1) (slots + k) := by
  obtain ⟨wd, hS, lo, lvs, ex, le, ec, es⟩ := r
  have hx : z_ex h loc (fun q' j => if q' = p ∧ j = i then q else loc q' j) := z_ex_new hp hv
  refine ⟨hw, hS1, z_lo_mono lo hx (z_le_nw h _ _ _ _), z_all_cons (Or.inl ?_) (fun w hw => z_lv_mono (z_le_nw h _ _ _ _) (hst w hw)), z_ex_trans le ex hx, z_le_trans le (z_le_nw h _ _ _ _), ?_, ?_⟩
  · rw [gV_nw, if_pos ⟨rfl, rfl⟩]
  · have h1 : gC (nw h p i k t) = gC h + 1 := rfl
    have := le.1
    omega
  · have h1 : gS (nw h p i k t) = gS h + k := rfl
    have := le.2.1
    omega
theorem w_new (F : z_fx κ y d p R s m args meth c) (G : z_go κ h0 loc0 (z_ml y) p la ev R s m args below meth c Q K res) (r : z_rel κ s h0 loc0 (z_ml y) l st h loc H locs ls cells slots) (hmo : ∀ pc l st h, K pc l st h = some res → z_le h res.2) (hro : gC res.2 - gC h0 ≤ R.cells ∧ gS res.2 - gS h0 ≤ R.slots) {k a b cc : Nat} (hap : a ∈ z_pools) (ha : a % 10 = 0) (hf : (z_oc y, k, a / 10 % 100) ∈ z_CT.map (fun q => q.1)) (hbt : b ≠ 7) (hd : decode (z_by y) pc = .ok (.new k, 3)) (e : o_new K (pc + 3) l st h a b cc = some res) : W p la ev R s m args below meth c H locs cells slots Q (F0 m pc ls (st.map (z_rv loc))) := by
  have r0 := r
  obtain ⟨hx, hb, hml, hown, hts, hlk, hrt, hnm, hcx, hz, hRf, hRl⟩ := F
  obtain ⟨wd, hS, lo, lvs, ex, le, ec, es⟩ := r
  obtain ⟨L, f, hP, hD, hA, hzz⟩ := wd
  unfold o_new at e
  by_cases hv : gV h a (cc + gN h b) = true
  · rw [if_pos hv] at e
    cases e
  · rw [if_neg hv] at e
    have hv : gV h a (cc + gN h b) = false := by simpa using hv
    have ho := z_pool_obj a hap ha
    have hm := hmo _ _ _ _ e
    have hC : gC (nw h a (cc + gN h b) (z_ln a) b) = gC h + 1 := rfl
    have hS2 : gS (nw h a (cc + gN h b) (z_ln a) b) = gS h + z_ln a := rfl
    have hm1 := hm.1
    have hm2 := hm.2.1
    have hl1 := le.1
    have hl2 := le.2.1
    rw [hC] at hm1
    rw [hS2] at hm2
    have hN : (z_C (a / 10 % 100)).2.2 = z_ln a := ho.2
    have hnul : ∀ (lc : Nat → Nat → Nat) (j : Nat), z_fv lc (nw h a (cc + gN h b) (z_ln a) b) a (cc + gN h b) j = if z_ft a j ≤ 1 then Value.int 0 else Value.null := by
      intro lc j
      have e1 : gI (nw h a (cc + gN h b) (z_ln a) b) a (cc + gN h b) j = 0 := by rw [gI_nw, if_pos ⟨rfl, rfl⟩]
      have e2 : gR (nw h a (cc + gN h b) (z_ln a) b) a (cc + gN h b) j = 0 := by rw [gR_nw, if_pos ⟨rfl, rfl⟩]
      unfold z_fv
      rw [e1, e2, if_pos rfl]
    refine va_new (D := zD κ) (cl := z_cls) (tys := z_tys (za κ)) (ci := a / 10 % 100) (C := (z_C (a / 10 % 100)).1) (T := (z_C (a / 10 % 100)).2.1) (N := (z_C (a / 10 % 100)).2.2) (fs := (List.range (a / 1000)).map (fun j => if z_ft a j ≤ 1 then Value.int 0 else Value.null)) hx hb hts (z_layok _ ho.1) (z_tt (a / 10 % 100)) (z_tyok _ ho.1) hown (hts _ (z_CT_ok _ hf)) (hts _ (z_instok _ ho.1)) (hts _ (z_ciniok _ ho.1)) hcx.1 hP hD hS (fun q hq => Nat.le_trans hz hq) (z_clsok _ ho.1) (fun j hj => ?_) (by omega) (by rw [hN]; omega) hd (fun q H1 hP1 hD1 hS1 => ?_)
    · rw [ho.2] at hj
      have h49 := z_pool_49 a hap ha
      have h1 := z_pool_tt a hap ha j (by omega)
      have h2 : vp_V ((List.range (a / 1000)).map (fun j => if z_ft a j ≤ 1 then Value.int 0 else Value.null)) j = if z_ft a j ≤ 1 then Value.int 0 else Value.null := by
        unfold vp_V
        rw [List.getD_eq_getElem?_getD]
        simp [hj]
      rw [h2]
      rcases h1 with h1 | h1
      · by_cases h3 : z_ft a j ≤ 1
        · rw [if_pos h3] at h1 ⊢
          rcases h1 with h1 | h1 <;> rw [h1] <;> rfl
        · rw [if_neg h3] at h1 ⊢
          cases ht : z_tt (a / 10 % 100) j <;> rw [ht] at h1 <;> first | rfl | cases h1
      · omega
    · rw [hN]
      have hE : (Sum.inr (a / 10 % 100, (List.range (a / 1000)).map (fun j => if z_ft a j ≤ 1 then Value.int 0 else Value.null)) : va_E) = z_en (za κ) (fun q' j => if q' = a ∧ j = cc + gN h b then q else loc q' j) (nw h a (cc + gN h b) (z_ln a) b) a (cc + gN h b) := by
        rw [z_en_obj ha]
        congr 2
        apply List.map_congr_left
        intro j _
        exact (hnul _ j).symm
      have w := G _ _ _ _ _ _ _ _ _ _ e (z_rel_new r0 hap hv (z_wd_new hA hap hv hbt hP1 hD1 hE (z_size hz hS1)) hS1 lvs)
      rw [z_st_new hap hv lvs] at w
      exact w
theorem w_nai (F : z_fx κ y d p R s m args meth c) (G : z_go κ h0 loc0 (z_ml y) p la ev R s m args below meth c Q K res) (r : z_rel κ s h0 loc0 (z_ml y) l st h loc H locs ls cells slots) (hmo : ∀ pc l st h, K pc l st h = some res → z_le h res.2) (hro : gC res.2 - gC h0 ≤ R.cells ∧ gS res.2 - gS h0 ≤ R.slots) {a b cc : Nat} (hap : a ∈ z_pools) (ha : a % 10 = 1) (hbt : b ≠ 7) (hd : decode (z_by y) pc = .ok (.newarray .int, 2)) (e : o_na K (pc + 2) l st h a b cc = some res) : W p la ev R s m args below meth c H locs cells slots Q (F0 m pc ls (st.map (z_rv loc))) := by
  have r0 := r
  obtain ⟨hx, hb, hml, hown, hts, hlk, hrt, hnm, hcx, hz, hRf, hRl⟩ := F
  obtain ⟨wd, hS, lo, lvs, ex, le, ec, es⟩ := r
  obtain ⟨L, f, hP, hD, hA, hzz⟩ := wd
  unfold o_na at e
  split at e
  · next n st' =>
    cases hb2 : (n == Int32.ofNat (z_ln a)) with
    | false => rw [hb2] at e; cases e
    | true =>
      rw [hb2] at e
      have hn : n = Int32.ofNat (a / 1000) := by simpa using hb2
      have hpl := z_pool_len a hap
      have e : (if gV h a (cc + gN h b) then none else K (pc + 2) l (z_R a (cc + gN h b) :: st') (nw h a (cc + gN h b) (z_ln a) b)) = some res := e
      by_cases hv : gV h a (cc + gN h b) = true
      · rw [if_pos hv] at e
        cases e
      · rw [if_neg hv] at e
        have hv : gV h a (cc + gN h b) = false := by simpa using hv
        have hm := hmo _ _ _ _ e
        have hC : gC (nw h a (cc + gN h b) (z_ln a) b) = gC h + 1 := rfl
        have hS2 : gS (nw h a (cc + gN h b) (z_ln a) b) = gS h + a / 1000 := rfl
        have hm1 := hm.1
        have hm2 := hm.2.1
        have hl1 := le.1
        have hl2 := le.2.1
        rw [hC] at hm1
        rw [hS2] at hm2
        refine va_newa (atype := .int) (ty := .int) (D := zD κ) (cl := z_cls) (tys := z_tys (za κ)) (N' := a / 1000) (a0 := (a / 1000, .inl (fun _ => 0))) hx hb (hts _ zw_arr_int) rfl hcx.1 hP hD hS (fun q hq => Nat.le_trans hz hq) (fun cA => rfl) (by rw [hn]; exact hpl.2.1) (by rw [hn]; exact hpl.1) (Nat.le_trans (Nat.mul_le_mul_left _ (by decide)) hpl.2.2) (by omega) (by omega) hd (fun q cA H1 hK1 hP1 hD1 hS1 => ?_)
        have hcA : cA = za κ 1 := by
          have q1 : va_RA s cA .int := (hK1.2 8 (cA, .int) rfl).2
          have q2 : va_RA s (za κ 1) .int := (hcx.1.2 (1 - 1) _ rfl).2
          exact Option.some.inj (q1.symm.trans q2)
        have hz0 : (fun _ : Nat => 0) = gI (nw h a (cc + gN h b) (z_ln a) b) a (cc + gN h b) := by
          funext j
          rw [gI_nw, if_pos ⟨rfl, rfl⟩]
        have hE : (Sum.inl (cA, a / 1000, (Sum.inl (fun _ => 0))) : va_E) = z_en (za κ) (fun q' j => if q' = a ∧ j = cc + gN h b then q else loc q' j) (nw h a (cc + gN h b) (z_ln a) b) a (cc + gN h b) := by
          rw [z_en_int ha (by omega), hcA, hz0]
        have w := G _ _ _ _ _ _ _ _ _ _ e (z_rel_new r0 hap hv (z_wd_new hA hap hv hbt hP1 hD1 hE (z_size hz hS1)) hS1 (z_all_tail lvs))
        rw [z_st_new hap hv (z_all_tail lvs)] at w
        exact w
  · cases e
theorem w_nac (F : z_fx κ y d p R s m args meth c) (G : z_go κ h0 loc0 (z_ml y) p la ev R s m args below meth c Q K res) (r : z_rel κ s h0 loc0 (z_ml y) l st h loc H locs ls cells slots) (hmo : ∀ pc l st h, K pc l st h = some res → z_le h res.2) (hro : gC res.2 - gC h0 ≤ R.cells ∧ gS res.2 - gS h0 ≤ R.slots) {a b cc : Nat} (hap : a ∈ z_pools) (ha : a % 10 = 2) (hbt : b ≠ 7) (hd : decode (z_by y) pc = .ok (.newarray .char, 2)) (e : o_na K (pc + 2) l st h a b cc = some res) : W p la ev R s m args below meth c H locs cells slots Q (F0 m pc ls (st.map (z_rv loc))) := by
  have r0 := r
  obtain ⟨hx, hb, hml, hown, hts, hlk, hrt, hnm, hcx, hz, hRf, hRl⟩ := F
  obtain ⟨wd, hS, lo, lvs, ex, le, ec, es⟩ := r
  obtain ⟨L, f, hP, hD, hA, hzz⟩ := wd
  unfold o_na at e
  split at e
  · next n st' =>
    cases hb2 : (n == Int32.ofNat (z_ln a)) with
    | false => rw [hb2] at e; cases e
    | true =>
      rw [hb2] at e
      have hn : n = Int32.ofNat (a / 1000) := by simpa using hb2
      have hpl := z_pool_len a hap
      have e : (if gV h a (cc + gN h b) then none else K (pc + 2) l (z_R a (cc + gN h b) :: st') (nw h a (cc + gN h b) (z_ln a) b)) = some res := e
      by_cases hv : gV h a (cc + gN h b) = true
      · rw [if_pos hv] at e
        cases e
      · rw [if_neg hv] at e
        have hv : gV h a (cc + gN h b) = false := by simpa using hv
        have hm := hmo _ _ _ _ e
        have hC : gC (nw h a (cc + gN h b) (z_ln a) b) = gC h + 1 := rfl
        have hS2 : gS (nw h a (cc + gN h b) (z_ln a) b) = gS h + a / 1000 := rfl
        have hm1 := hm.1
        have hm2 := hm.2.1
        have hl1 := le.1
        have hl2 := le.2.1
        rw [hC] at hm1
        rw [hS2] at hm2
        refine va_newa (atype := .char) (ty := .char) (D := zD κ) (cl := z_cls) (tys := z_tys (za κ)) (N' := a / 1000) (a0 := (a / 1000, .inl (fun _ => 0))) hx hb (hts _ zw_arr_char) rfl hcx.1 hP hD hS (fun q hq => Nat.le_trans hz hq) (fun cA => rfl) (by rw [hn]; exact hpl.2.1) (by rw [hn]; exact hpl.1) (Nat.le_trans (Nat.mul_le_mul_left _ (by decide)) hpl.2.2) (by omega) (by omega) hd (fun q cA H1 hK1 hP1 hD1 hS1 => ?_)
        have hcA : cA = za κ 2 := by
          have q1 : va_RA s cA .char := (hK1.2 8 (cA, .char) rfl).2
          have q2 : va_RA s (za κ 2) .char := (hcx.1.2 (2 - 1) _ rfl).2
          exact Option.some.inj (q1.symm.trans q2)
        have hz0 : (fun _ : Nat => 0) = gI (nw h a (cc + gN h b) (z_ln a) b) a (cc + gN h b) := by
          funext j
          rw [gI_nw, if_pos ⟨rfl, rfl⟩]
        have hE : (Sum.inl (cA, a / 1000, (Sum.inl (fun _ => 0))) : va_E) = z_en (za κ) (fun q' j => if q' = a ∧ j = cc + gN h b then q else loc q' j) (nw h a (cc + gN h b) (z_ln a) b) a (cc + gN h b) := by
          rw [z_en_int ha (by omega), hcA, hz0]
        have w := G _ _ _ _ _ _ _ _ _ _ e (z_rel_new r0 hap hv (z_wd_new hA hap hv hbt hP1 hD1 hE (z_size hz hS1)) hS1 (z_all_tail lvs))
        rw [z_st_new hap hv (z_all_tail lvs)] at w
        exact w
  · cases e
theorem w_naz (F : z_fx κ y d p R s m args meth c) (G : z_go κ h0 loc0 (z_ml y) p la ev R s m args below meth c Q K res) (r : z_rel κ s h0 loc0 (z_ml y) l st h loc H locs ls cells slots) (hmo : ∀ pc l st h, K pc l st h = some res → z_le h res.2) (hro : gC res.2 - gC h0 ≤ R.cells ∧ gS res.2 - gS h0 ≤ R.slots) {a b cc : Nat} (hap : a ∈ z_pools) (ha : a % 10 = 3) (hbt : b ≠ 7) (hd : decode (z_by y) pc = .ok (.newarray .boolean, 2)) (e : o_na K (pc + 2) l st h a b cc = some res) : W p la ev R s m args below meth c H locs cells slots Q (F0 m pc ls (st.map (z_rv loc))) := by
  have r0 := r
  obtain ⟨hx, hb, hml, hown, hts, hlk, hrt, hnm, hcx, hz, hRf, hRl⟩ := F
  obtain ⟨wd, hS, lo, lvs, ex, le, ec, es⟩ := r
  obtain ⟨L, f, hP, hD, hA, hzz⟩ := wd
  unfold o_na at e
  split at e
  · next n st' =>
    cases hb2 : (n == Int32.ofNat (z_ln a)) with
    | false => rw [hb2] at e; cases e
    | true =>
      rw [hb2] at e
      have hn : n = Int32.ofNat (a / 1000) := by simpa using hb2
      have hpl := z_pool_len a hap
      have e : (if gV h a (cc + gN h b) then none else K (pc + 2) l (z_R a (cc + gN h b) :: st') (nw h a (cc + gN h b) (z_ln a) b)) = some res := e
      by_cases hv : gV h a (cc + gN h b) = true
      · rw [if_pos hv] at e
        cases e
      · rw [if_neg hv] at e
        have hv : gV h a (cc + gN h b) = false := by simpa using hv
        have hm := hmo _ _ _ _ e
        have hC : gC (nw h a (cc + gN h b) (z_ln a) b) = gC h + 1 := rfl
        have hS2 : gS (nw h a (cc + gN h b) (z_ln a) b) = gS h + a / 1000 := rfl
        have hm1 := hm.1
        have hm2 := hm.2.1
        have hl1 := le.1
        have hl2 := le.2.1
        rw [hC] at hm1
        rw [hS2] at hm2
        refine va_newa (atype := .boolean) (ty := .boolean) (D := zD κ) (cl := z_cls) (tys := z_tys (za κ)) (N' := a / 1000) (a0 := (a / 1000, .inl (fun _ => 0))) hx hb (hts _ zw_arr_boolean) rfl hcx.1 hP hD hS (fun q hq => Nat.le_trans hz hq) (fun cA => rfl) (by rw [hn]; exact hpl.2.1) (by rw [hn]; exact hpl.1) (Nat.le_trans (Nat.mul_le_mul_left _ (by decide)) hpl.2.2) (by omega) (by omega) hd (fun q cA H1 hK1 hP1 hD1 hS1 => ?_)
        have hcA : cA = za κ 3 := by
          have q1 : va_RA s cA .boolean := (hK1.2 8 (cA, .boolean) rfl).2
          have q2 : va_RA s (za κ 3) .boolean := (hcx.1.2 (3 - 1) _ rfl).2
          exact Option.some.inj (q1.symm.trans q2)
        have hz0 : (fun _ : Nat => 0) = gI (nw h a (cc + gN h b) (z_ln a) b) a (cc + gN h b) := by
          funext j
          rw [gI_nw, if_pos ⟨rfl, rfl⟩]
        have hE : (Sum.inl (cA, a / 1000, (Sum.inl (fun _ => 0))) : va_E) = z_en (za κ) (fun q' j => if q' = a ∧ j = cc + gN h b then q else loc q' j) (nw h a (cc + gN h b) (z_ln a) b) a (cc + gN h b) := by
          rw [z_en_int ha (by omega), hcA, hz0]
        have w := G _ _ _ _ _ _ _ _ _ _ e (z_rel_new r0 hap hv (z_wd_new hA hap hv hbt hP1 hD1 hE (z_size hz hS1)) hS1 (z_all_tail lvs))
        rw [z_st_new hap hv (z_all_tail lvs)] at w
        exact w
  · cases e
theorem w_naj (F : z_fx κ y d p R s m args meth c) (G : z_go κ h0 loc0 (z_ml y) p la ev R s m args below meth c Q K res) (r : z_rel κ s h0 loc0 (z_ml y) l st h loc H locs ls cells slots) (hmo : ∀ pc l st h, K pc l st h = some res → z_le h res.2) (hro : gC res.2 - gC h0 ≤ R.cells ∧ gS res.2 - gS h0 ≤ R.slots) {a b cc : Nat} (hap : a ∈ z_pools) (ha : a % 10 = 4) (hbt : b ≠ 7) (hd : decode (z_by y) pc = .ok (.newarray .long, 2)) (e : o_na K (pc + 2) l st h a b cc = some res) : W p la ev R s m args below meth c H locs cells slots Q (F0 m pc ls (st.map (z_rv loc))) := by
  have r0 := r
  obtain ⟨hx, hb, hml, hown, hts, hlk, hrt, hnm, hcx, hz, hRf, hRl⟩ := F
  obtain ⟨wd, hS, lo, lvs, ex, le, ec, es⟩ := r
  obtain ⟨L, f, hP, hD, hA, hzz⟩ := wd
  unfold o_na at e
  split at e
  · next n st' =>
    cases hb2 : (n == Int32.ofNat (z_ln a)) with
    | false => rw [hb2] at e; cases e
    | true =>
      rw [hb2] at e
      have hn : n = Int32.ofNat (a / 1000) := by simpa using hb2
      have hpl := z_pool_len a hap
      have e : (if gV h a (cc + gN h b) then none else K (pc + 2) l (z_R a (cc + gN h b) :: st') (nw h a (cc + gN h b) (z_ln a) b)) = some res := e
      by_cases hv : gV h a (cc + gN h b) = true
      · rw [if_pos hv] at e
        cases e
      · rw [if_neg hv] at e
        have hv : gV h a (cc + gN h b) = false := by simpa using hv
        have hm := hmo _ _ _ _ e
        have hC : gC (nw h a (cc + gN h b) (z_ln a) b) = gC h + 1 := rfl
        have hS2 : gS (nw h a (cc + gN h b) (z_ln a) b) = gS h + a / 1000 := rfl
        have hm1 := hm.1
        have hm2 := hm.2.1
        have hl1 := le.1
        have hl2 := le.2.1
        rw [hC] at hm1
        rw [hS2] at hm2
        refine va_newa (atype := .long) (ty := .long) (D := zD κ) (cl := z_cls) (tys := z_tys (za κ)) (N' := a / 1000) (a0 := (a / 1000, .inr (.inl (fun _ => 0)))) hx hb (hts _ zw_arr_long) rfl hcx.1 hP hD hS (fun q hq => Nat.le_trans hz hq) (fun cA => rfl) (by rw [hn]; exact hpl.2.1) (by rw [hn]; exact hpl.1) (Nat.le_trans (Nat.mul_le_mul_left _ (by decide)) hpl.2.2) (by omega) (by omega) hd (fun q cA H1 hK1 hP1 hD1 hS1 => ?_)
        have hcA : cA = za κ 4 := by
          have q1 : va_RA s cA .long := (hK1.2 8 (cA, .long) rfl).2
          have q2 : va_RA s (za κ 4) .long := (hcx.1.2 (4 - 1) _ rfl).2
          exact Option.some.inj (q1.symm.trans q2)
        have hz0 : (fun _ : Nat => 0) = gJ (nw h a (cc + gN h b) (z_ln a) b) a (cc + gN h b) := by
          funext j
          rw [gJ_nw, if_pos ⟨rfl, rfl⟩]
        have hE : (Sum.inl (cA, a / 1000, Sum.inr (Sum.inl (fun _ => 0))) : va_E) = z_en (za κ) (fun q' j => if q' = a ∧ j = cc + gN h b then q else loc q' j) (nw h a (cc + gN h b) (z_ln a) b) a (cc + gN h b) := by
          rw [z_en_long ha, hcA, hz0]
        have w := G _ _ _ _ _ _ _ _ _ _ e (z_rel_new r0 hap hv (z_wd_new hA hap hv hbt hP1 hD1 hE (z_size hz hS1)) hS1 (z_all_tail lvs))
        rw [z_st_new hap hv (z_all_tail lvs)] at w
        exact w
  · cases e
theorem w_anew (F : z_fx κ y d p R s m args meth c) (G : z_go κ h0 loc0 (z_ml y) p la ev R s m args below meth c Q K res) (r : z_rel κ s h0 loc0 (z_ml y) l st h loc H locs ls cells slots) (hmo : ∀ pc l st h, K pc l st h = some res → z_le h res.2) (hro : gC res.2 - gC h0 ≤ R.cells ∧ gS res.2 - gS h0 ≤ R.slots) {k a b cc : Nat} (hap : a ∈ z_pools) (ha : a % 10 = 5) (hf : (z_oc y, k, z_ep a / 10 % 100) ∈ z_CT.map (fun q => q.1)) (hbt : b ≠ 7) (hd : decode (z_by y) pc = .ok (.anewarray k, 3)) (e : o_na K (pc + 3) l st h a b cc = some res) : W p la ev R s m args below meth c H locs cells slots Q (F0 m pc ls (st.map (z_rv loc))) := by
  have r0 := r
  obtain ⟨hx, hb, hml, hown, hts, hlk, hrt, hnm, hcx, hz, hRf, hRl⟩ := F
  obtain ⟨wd, hS, lo, lvs, ex, le, ec, es⟩ := r
  obtain ⟨L, f, hP, hD, hA, hzz⟩ := wd
  unfold o_na at e
  split at e
  · next n st' =>
    cases hb2 : (n == Int32.ofNat (z_ln a)) with
    | false => rw [hb2] at e; cases e
    | true =>
      rw [hb2] at e
      have hn : n = Int32.ofNat (a / 1000) := by simpa using hb2
      have hpl := z_pool_len a hap
      have e : (if gV h a (cc + gN h b) then none else K (pc + 3) l (z_R a (cc + gN h b) :: st') (nw h a (cc + gN h b) (z_ln a) b)) = some res := e
      by_cases hv : gV h a (cc + gN h b) = true
      · rw [if_pos hv] at e
        cases e
      · rw [if_neg hv] at e
        have hv : gV h a (cc + gN h b) = false := by simpa using hv
        have hm := hmo _ _ _ _ e
        have hC : gC (nw h a (cc + gN h b) (z_ln a) b) = gC h + 1 := rfl
        have hS2 : gS (nw h a (cc + gN h b) (z_ln a) b) = gS h + a / 1000 := rfl
        have hm1 := hm.1
        have hm2 := hm.2.1
        have hl1 := le.1
        have hl2 := le.2.1
        rw [hC] at hm1
        rw [hS2] at hm2
        have hao : va_AO (z_C (z_ep a / 10 % 100)).1 s := by
          obtain ⟨o1, o2, o3, o4⟩ := hcx.2.1
          have hc : z_ep a / 10 % 100 = 0 ∨ z_ep a / 10 % 100 = 4 ∨ z_ep a / 10 % 100 = 6 ∨ z_ep a / 10 % 100 = 8 := by
            unfold z_ep
            repeat' split
            all_goals decide
          rcases hc with h1 | h1 | h1 | h1 <;> rw [h1]
          · exact o1
          · exact o2
          · exact o3
          · exact o4
        refine va_newq (D := zD κ) (cl := z_cls) (tys := z_tys (za κ)) (N' := a / 1000) hx hb hown (hts _ (z_CT_ok _ hf)) hao hcx.1 hP hD hS (fun q hq => Nat.le_trans hz hq) (by rw [hn]; exact hpl.2.1) (by rw [hn]; exact hpl.1) (by omega) (by omega) (by omega) hd (fun q cA H1 hK1 hP1 hD1 hS1 => ?_)
        have hcA : cA = za κ (10 + z_ep a / 10 % 100) := by
          obtain ⟨k1, k2, -, -, -, q1⟩ := (hK1.2 8 (cA, .object (z_C (z_ep a / 10 % 100)).1) rfl).2
          obtain ⟨k3, k4, -, -, -, q2⟩ := (hcx.1.2 (z_ti a) _ (z_tys5 (za κ) hap ha)).2
          exact Option.some.inj (q1.symm.trans q2)
        have hz0 : (fun _ : Nat => (none : Option Nat)) = z_rr (fun q' j => if q' = a ∧ j = cc + gN h b then q else loc q' j) (nw h a (cc + gN h b) (z_ln a) b) a (cc + gN h b) := by
          funext j
          unfold z_rr
          rw [if_pos (show gR (nw h a (cc + gN h b) (z_ln a) b) a (cc + gN h b) j = 0 by rw [gR_nw, if_pos ⟨rfl, rfl⟩])]
        have hE : (Sum.inl (cA, a / 1000, Sum.inr (Sum.inr (Sum.inr (Sum.inr (fun _ => none))))) : va_E) = z_en (za κ) (fun q' j => if q' = a ∧ j = cc + gN h b then q else loc q' j) (nw h a (cc + gN h b) (z_ln a) b) a (cc + gN h b) := by
          rw [z_en_ref ha, hcA, hz0]
        have w := G _ _ _ _ _ _ _ _ _ _ e (z_rel_new r0 hap hv (z_wd_new hA hap hv hbt hP1 hD1 hE (z_size hz hS1)) hS1 (z_all_tail lvs))
        rw [z_st_new hap hv (z_all_tail lvs)] at w
        exact w
  · cases e
end
