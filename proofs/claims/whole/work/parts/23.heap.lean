/-! ===== instructions that read or write cells ===== -/
theorem z_ftp : ∀ p ∈ z_pools, ∀ k, k < 49 → p % 10 = 0 → 1 < z_ft p k → z_ft p k ∈ z_pools := by decide +kernel
theorem z_pool_49 : ∀ p ∈ z_pools, p % 10 = 0 → p / 1000 ≤ 49 := by decide +kernel
theorem z_lv_pool {h : z_H} {a i : Nat} (ha : a ∈ z_pools) (q : z_lv h (z_R a i)) : gV h a i = true := by
  rcases q with q | q | q
  · exact q
  · exact absurd q.1 (z_pool_7 a ha).1
  · rcases q.1 with e | e
    · exact absurd e (z_pool_7 a ha).2.1
    · exact absurd e (z_pool_7 a ha).2.2
theorem z_lv_kd {h : z_H} {a i k : Nat} (ha : a % 10 = k) (hk : k < 7) (q : z_lv h (z_R a i)) : gV h a i = true := by
  rcases q with q | q | q
  · exact q
  · have := q.1; subst this; omega
  · rcases q.1 with e | e <;> subst e <;> omega
theorem z_wd_set {κ : z_Q} {loc : Nat → Nat → Nat} {h' : z_H} {L : List Nat} {f : Nat → va_E} {p i k0 : Nat} {e' : va_E} {H1 : Heap} (hL : loc p i ∈ L) (hD : va_D (z_fr κ) (va_pl L f)) (hk : (va_pl L f)[k0]? = some (loc p i, f (loc p i)))
    (hP1 : va_P (zD κ) z_cls ((va_pl L f).set k0 (loc p i, e')) H1) (hD1 : va_D (z_fr κ) ((va_pl L f).set k0 (loc p i, e'))) (hE : e' = z_en (za κ) loc h' p i) (hA' : z_at κ loc h' L (va_up f (loc p i) (z_en (za κ) loc h' p i))) (hz : zz κ ≤ H1.size) : z_wd κ loc h' H1 := by
  have e1 : (va_pl L f).set k0 (loc p i, e') = va_pl L (va_up f (loc p i) e') := va_pl_set (X := []) hD hL hk
  rw [e1, hE] at hP1 hD1
  exact ⟨L, _, hP1, hD1, hA', hz⟩
theorem z_pl_get {L : List Nat} {f : Nat → va_E} {a : Nat} (h : a ∈ L) : ∃ k : Nat, (va_pl L f)[k]? = some (a, f a) := va_pl_get (X := []) h
theorem z_en_obj {aC : Nat → ClassId} {loc : Nat → Nat → Nat} {h : z_H} {p i : Nat} (hp : p % 10 = 0) : z_en aC loc h p i = .inr (p / 10 % 100, (List.range (p / 1000)).map (z_fv loc h p i)) := by
  unfold z_en
  simp only [z_kd, hp]
theorem z_en_int {aC : Nat → ClassId} {loc : Nat → Nat → Nat} {h : z_H} {p i k : Nat} (hp : p % 10 = k) (hk : k = 1 ∨ k = 2 ∨ k = 3) : z_en aC loc h p i = .inl (aC k, p / 1000, .inl (gI h p i)) := by
  unfold z_en
  rcases hk with rfl | rfl | rfl <;> simp only [z_kd, hp]
theorem z_en_long {aC : Nat → ClassId} {loc : Nat → Nat → Nat} {h : z_H} {p i : Nat} (hp : p % 10 = 4) : z_en aC loc h p i = .inl (aC 4, p / 1000, .inr (.inl (gJ h p i))) := by
  unfold z_en
  simp only [z_kd, hp]
theorem z_en_ref {aC : Nat → ClassId} {loc : Nat → Nat → Nat} {h : z_H} {p i : Nat} (hp : p % 10 = 5) : z_en aC loc h p i = .inl (aC (10 + z_ep p / 10 % 100), p / 1000, .inr (.inr (.inr (.inr (z_rr loc h p i))))) := by
  unfold z_en
  simp only [z_kd, hp]
theorem z_size {κ : z_Q} {s : State} {H1 : Heap} {locs : List Loc} (hz : zz κ ≤ s.heap.size) (hS : va_S (z_fr κ) s.heap H1 locs) : zz κ ≤ H1.size := Nat.le_trans hz hS.1
section
variable {κ : z_Q} {y d : Nat} {h0 : z_H} {loc0 : Nat → Nat → Nat} {p : Program} {la : Launch} {ev : Env} {R : Room} {s : State} {m : MethodId} {args : Array Value} {below : List Frame} {meth : Method} {c : Code} {Q : State → Prop} {K : z_K} {res : z_A} {pc : Nat} {l st : List z_V} {h : z_H} {loc : Nat → Nat → Nat} {H : Heap} {locs : List Loc} {ls : Array Slot} {cells slots : Nat}
theorem z_getf (F : z_fx κ y d p R s m args meth c) (r : z_rel κ s h0 loc0 (z_ml y) l st h loc H locs ls cells slots) {p1 i k b : Nat} {rest : List Value} (hV : gV h p1 i = true) (ha : p1 % 10 = 0) (hf : (z_oc y, k, p1 / 10 % 100, b) ∈ z_FT.map (fun q => q.1)) (hbl : b < p1 / 1000) (hd : decode (z_by y) pc = .ok (.getfield k, 3))
    (kk : W p la ev R s m args below meth c H locs cells slots Q (F0 m (pc + 3) ls (z_fv loc h p1 i b :: rest))) : W p la ev R s m args below meth c H locs cells slots Q (F0 m pc ls (.ref (loc p1 i) :: rest)) := by
  obtain ⟨hx, hb, hml, hown, hts, hlk, hrt, hnm, hcx, hz, hRf, hRl⟩ := F
  obtain ⟨wd, hS, lo, lvs, ex, le, ec, es⟩ := r
  obtain ⟨L, f, hP, hD, hA, hzz⟩ := wd
  obtain ⟨b1, b2, b3⟩ := hA.1 p1 i hV
  obtain ⟨k0, hk0⟩ := z_pl_get (f := f) b2
  have ho := z_pool_obj p1 b1 ha
  rw [b3, z_en_obj ha] at hk0
  have hlink := hts _ (z_FT_ok _ hf)
  exact va_get (D := zD κ) (cl := z_cls) (tys := z_tys (za κ)) (ci := p1 / 10 % 100) (C := (z_C (p1 / 10 % 100)).1) (T := (z_C (p1 / 10 % 100)).2.1) (N := (z_C (p1 / 10 % 100)).2.2) hx hb hts (z_layok _ ho.1) hown hcx.1 hP k0 hk0 (z_clsok _ ho.1) b (by rw [ho.2]; exact hbl) hlink (fun _ h9 => h9) (by simp [hbl]) hd kk
theorem w_gf (F : z_fx κ y d p R s m args meth c) (G : z_go κ h0 loc0 (z_ml y) p la ev R s m args below meth c Q K res) (r : z_rel κ s h0 loc0 (z_ml y) l st h loc H locs ls cells slots) {k a b cc ee : Nat} (hap : a ∈ z_pools) (ha : a % 10 = 0) (hf : (z_oc y, k, a / 10 % 100, b) ∈ z_FT.map (fun q => q.1)) (hbl : b < a / 1000) (hm : (ee = 0 ∧ z_ft a b ≤ 1) ∨ (1 ≤ ee ∧ z_ft a b = cc ∧ 1 < cc)) (hd : decode (z_by y) pc = .ok (.getfield k, 3)) (e : o_gf K (pc + 3) l st h a b cc ee = some res) : W p la ev R s m args below meth c H locs cells slots Q (F0 m pc ls (st.map (z_rv loc))) := by
  unfold o_gf at e
  split at e
  · next p1 i st' =>
    cases hb2 : Nat.beq p1 a with
    | false => rw [hb2] at e; cases e
    | true =>
      rw [hb2] at e
      have hpa : p1 = a := Nat.eq_of_beq_eq_true hb2
      subst hpa
      have hV : gV h p1 i = true := z_lv_pool hap (z_all_head r.2.2.2.1)
      refine z_getf F r hV ha hf hbl hd ?_
      match ee, hm, e with
      | 0, hm, e =>
        have h1 : z_ft p1 b ≤ 1 := by omega
        have h2 : z_fv loc h p1 i b = Value.int (gI h p1 i b) := by unfold z_fv; rw [if_pos h1]
        rw [h2]
        exact G _ _ _ _ _ _ _ _ _ _ e (z_rel_st r (z_all_cons trivial (z_all_tail r.2.2.2.1)))
      | 1, hm, e =>
        have h1 : ¬ z_ft p1 b ≤ 1 := by omega
        have h4 : z_ft p1 b = cc := by omega
        by_cases h3 : gR h p1 i b = 0
        · have h2 : z_fv loc h p1 i b = Value.null := by unfold z_fv; rw [if_neg h1, if_pos h3]
          rw [h2]
          have e : (if gR h p1 i b = 0 then K (pc + 3) l (z_N :: st') h else K (pc + 3) l (z_R cc (gR h p1 i b - 1) :: st') h) = some res := e
          rw [if_pos h3] at e
          exact G _ _ _ _ _ _ _ _ _ _ e (z_rel_st r (z_all_cons trivial (z_all_tail r.2.2.2.1)))
        · have h2 : z_fv loc h p1 i b = Value.ref (loc cc (gR h p1 i b - 1)) := by unfold z_fv; rw [if_neg h1, if_neg h3, h4]
          rw [h2]
          have e : (if gR h p1 i b = 0 then K (pc + 3) l (z_N :: st') h else K (pc + 3) l (z_R cc (gR h p1 i b - 1) :: st') h) = some res := e
          rw [if_neg h3] at e
          have h5 : gV h cc (gR h p1 i b - 1) = true := by
            obtain ⟨L, f, hP, hD, hA, hzz⟩ := r.1
            have := hA.2.2.1 p1 i b hV h3
            unfold z_rp at this
            rw [if_pos ha, h4] at this
            exact this
          exact G _ _ _ _ _ _ _ _ _ _ e (z_rel_st r (z_all_cons (Or.inl h5) (z_all_tail r.2.2.2.1)))
      | n + 2, hm, e =>
        have h1 : ¬ z_ft p1 b ≤ 1 := by omega
        have h4 : z_ft p1 b = cc := by omega
        have e : (if gR h p1 i b = i + n + 1 then K (pc + 3) l (z_R cc (i + n) :: st') h else none) = some res := e
        by_cases h3 : gR h p1 i b = i + n + 1
        · rw [if_pos h3] at e
          have h6 : gR h p1 i b ≠ 0 := by omega
          have h2 : z_fv loc h p1 i b = Value.ref (loc cc (i + n)) := by unfold z_fv; rw [if_neg h1, if_neg h6, h4, h3]; rfl
          rw [h2]
          have h5 : gV h cc (i + n) = true := by
            obtain ⟨L, f, hP, hD, hA, hzz⟩ := r.1
            have := hA.2.2.1 p1 i b hV h6
            unfold z_rp at this
            rw [if_pos ha, h4, h3] at this
            exact this
          exact G _ _ _ _ _ _ _ _ _ _ e (z_rel_st r (z_all_cons (Or.inl h5) (z_all_tail r.2.2.2.1)))
        · rw [if_neg h3] at e
          cases e
  · cases e
theorem z_putf (F : z_fx κ y d p R s m args meth c) (r : z_rel κ s h0 loc0 (z_ml y) l st h loc H locs ls cells slots) {p1 i k b : Nat} {rest : List z_V} {v : Value} {h' : z_H} (hV : gV h p1 i = true) (ha : p1 % 10 = 0) (hf : (z_oc y, k, p1 / 10 % 100, b) ∈ z_FT.map (fun q => q.1)) (hbl : b < p1 / 1000)
    (hn : narrow (z_tt (p1 / 10 % 100) b) v = v) (hfit : fits (z_tt (p1 / 10 % 100) b) v = true)
    (hfin : ((z_C (p1 / 10 % 100)).2.1 b).2.2.2 = false ∨ (((z_C (p1 / 10 % 100)).2.1 b).2.2.2 = true ∧ (z_mn y).name = "<init>" ∧ ((z_C (p1 / 10 % 100)).2.1 b).1 = z_on (z_oc y)))
    (hE : (List.range (p1 / 1000)).map (fun j => if j = b then v else z_fv loc h p1 i j) = (List.range (p1 / 1000)).map (z_fv loc h' p1 i))
    (hVe : ∀ q j, gV h' q j = gV h q j) (hI : ∀ q j, ¬ (q = p1 ∧ j = i) → ∀ k, gI h' q j k = gI h q j k) (hJ : ∀ q j, ¬ (q = p1 ∧ j = i) → ∀ k, gJ h' q j k = gJ h q j k) (hRe : ∀ q j, ¬ (q = p1 ∧ j = i) → ∀ k, gR h' q j k = gR h q j k)
    (hR : ∀ k, gR h' p1 i k ≠ 0 → gV h (z_rp p1 k) (gR h' p1 i k - 1) = true) (hN : gN h' 7 = gN h 7) (hC : gC h' = gC h) (hSs : gS h' = gS h) (hrest : ∀ w ∈ rest, z_lv h w) (hd : decode (z_by y) pc = .ok (.putfield k, 3))
    (kk : ∀ (H1 : Heap) (locs1 : List Loc), z_rel κ s h0 loc0 (z_ml y) l rest h' loc H1 locs1 ls cells slots → W p la ev R s m args below meth c H1 locs1 cells slots Q (F0 m (pc + 3) ls (rest.map (z_rv loc)))) : W p la ev R s m args below meth c H locs cells slots Q (F0 m pc ls (v :: .ref (loc p1 i) :: rest.map (z_rv loc))) := by
  obtain ⟨hx, hb, hml, hown, hts, hlk, hrt, hnm, hcx, hz, hRf, hRl⟩ := F
  obtain ⟨wd, hS, lo, lvs, ex, le, ec, es⟩ := r
  obtain ⟨L, f, hP, hD, hA, hzz⟩ := wd
  obtain ⟨b1, b2, b3⟩ := hA.1 p1 i hV
  obtain ⟨k0, hk0⟩ := z_pl_get (f := f) b2
  have ho := z_pool_obj p1 b1 ha
  have hk1 := hk0
  rw [b3, z_en_obj ha] at hk1
  have hlink := hts _ (z_FT_ok _ hf)
  have hle : z_le h h' := ⟨by rw [hC]; exact Nat.le_refl _, by rw [hSs]; exact Nat.le_refl _, fun q j w => (hVe q j).trans w⟩
  have fin : ∀ (H1 : Heap) (locs1 : List Loc), va_P (zD κ) z_cls ((va_pl L f).set k0 (loc p1 i, .inr (p1 / 10 % 100, ((List.range (p1 / 1000)).map (z_fv loc h p1 i)).set b v))) H1 → va_D (z_fr κ) ((va_pl L f).set k0 (loc p1 i, .inr (p1 / 10 % 100, ((List.range (p1 / 1000)).map (z_fv loc h p1 i)).set b v))) → va_S (z_fr κ) s.heap H1 locs1 → W p la ev R s m args below meth c H1 locs1 cells slots Q (F0 m (pc + 3) ls (rest.map (z_rv loc))) := by
    intro H1 locs1 hP1 hD1 hS1
    refine kk H1 locs1 ⟨z_wd_set b2 hD hk0 hP1 hD1 ?_ (z_at_upd hA hV hVe hI hJ hRe hR hN) (z_size hz hS1), hS1, z_lo_mono lo (z_ex_rfl h loc) hle, fun w hw => z_lv_mono hle (hrest w hw), ex, z_le_trans le hle, by rw [hC]; exact ec, by rw [hSs]; exact es⟩
    rw [z_en_obj ha, z_set_map, hE]
  rcases hfin with hfin | ⟨hfin, hfi, hfo⟩
  · exact va_put (D := zD κ) (cl := z_cls) (tys := z_tys (za κ)) (ci := p1 / 10 % 100) (C := (z_C (p1 / 10 % 100)).1) (T := (z_C (p1 / 10 % 100)).2.1) (N := (z_C (p1 / 10 % 100)).2.2) hx hb hts (z_layok _ ho.1) (z_tt (p1 / 10 % 100)) (z_tyok _ ho.1) (z_nmok _ ho.1) hown hcx.1 hP hD hS k0 hk1 (z_clsok _ ho.1) b (by rw [ho.2]; exact hbl) hlink (fun _ h9 => h9) hfin (z_tyok _ ho.1 b (by rw [ho.2]; exact hbl)) hn hfit (by simp [hbl]) hd fin
  · exact va_putF (D := zD κ) (cl := z_cls) (tys := z_tys (za κ)) (ci := p1 / 10 % 100) (C := (z_C (p1 / 10 % 100)).1) (T := (z_C (p1 / 10 % 100)).2.1) (N := (z_C (p1 / 10 % 100)).2.2) hx hb hts (z_layok _ ho.1) (z_tt (p1 / 10 % 100)) (z_tyok _ ho.1) (z_nmok _ ho.1) hown hcx.1 hP hD hS k0 hk1 (z_clsok _ ho.1) b (by rw [ho.2]; exact hbl) hlink (fun _ h9 => h9) hfin (hnm hfi) hfo (z_tyok _ ho.1 b (by rw [ho.2]; exact hbl)) hn hfit (by simp [hbl]) hd fin
theorem z_narrow_ref (ty : FieldType) (a : Nat) : narrow ty (.ref a) = .ref a := by cases ty <;> rfl
/-- a type of references -/
def z_isR (t : FieldType) : Bool := match t with
  | .object _ => true
  | .array _ => true
  | _ => false
theorem z_fits_ref {ty : FieldType} (h : z_isR ty = true) (a : Nat) : fits ty (.ref a) = true := by cases ty <;> first | rfl | cases h
theorem w_pf (F : z_fx κ y d p R s m args meth c) (G : z_go κ h0 loc0 (z_ml y) p la ev R s m args below meth c Q K res) (r : z_rel κ s h0 loc0 (z_ml y) l st h loc H locs ls cells slots) {k a b cc : Nat} (hap : a ∈ z_pools) (ha : a % 10 = 0) (hf : (z_oc y, k, a / 10 % 100, b) ∈ z_FT.map (fun q => q.1)) (hbl : b < a / 1000) (hc : z_ft a b = cc)
    (hfin : ((z_C (a / 10 % 100)).2.1 b).2.2.2 = false ∨ (((z_C (a / 10 % 100)).2.1 b).2.2.2 = true ∧ (z_mn y).name = "<init>" ∧ ((z_C (a / 10 % 100)).2.1 b).1 = z_on (z_oc y)))
    (hty : (cc = 0 ∧ z_tt (a / 10 % 100) b = .int) ∨ (cc = 1 ∧ z_tt (a / 10 % 100) b = .boolean) ∨ (1 < cc ∧ z_isR (z_tt (a / 10 % 100) b) = true)) (hd : decode (z_by y) pc = .ok (.putfield k, 3)) (e : o_pf K (pc + 3) l st h a b cc = some res) : W p la ev R s m args below meth c H locs cells slots Q (F0 m pc ls (st.map (z_rv loc))) := by
  have key : ∀ (p1 i : Nat) (x : Int32) (st' : List z_V), st = Sum.inl x :: Sum.inr (Sum.inr (Sum.inl (p1, i))) :: st' → p1 = a → cc ≤ 1 → narrow (z_tt (a / 10 % 100) b) (.int x) = .int x → fits (z_tt (a / 10 % 100) b) (.int x) = true → K (pc + 3) l st' (pI h p1 i b x) = some res → W p la ev R s m args below meth c H locs cells slots Q (F0 m pc ls (st.map (z_rv loc))) := by
    rintro p1 i x st' rfl rfl hc1 hn hfit e
    have hV : gV h p1 i = true := z_lv_pool hap (z_all_head (z_all_tail r.2.2.2.1))
    obtain ⟨L, f, hP, hD, hA, hzz⟩ := r.1
    refine z_putf (h' := pI h p1 i b x) (v := .int x) F r hV ha hf hbl hn hfit hfin ?_ (fun _ _ => rfl) (fun q j hq k => by rw [gI_pI, if_neg (fun z => hq ⟨z.1, z.2.1⟩)]) (fun _ _ _ _ => rfl) (fun _ _ _ _ => rfl) (fun k hr => hA.2.2.1 p1 i k hV hr) rfl rfl rfl (z_all_tail (z_all_tail r.2.2.2.1)) hd (fun H1 locs1 r1 => G _ _ _ _ _ _ _ _ _ _ e r1)
    apply List.map_congr_left
    intro j _
    unfold z_fv
    by_cases hj : j = b
    · subst hj
      have e1 : gI (pI h p1 i j x) p1 i j = x := by rw [gI_pI, if_pos ⟨rfl, rfl, rfl⟩]
      rw [if_pos rfl, e1, if_pos (by omega)]
    · have e1 : gI (pI h p1 i b x) p1 i j = gI h p1 i j := by rw [gI_pI, if_neg (fun z => hj z.2.2)]
      rw [if_neg hj, e1, gR_pI]
  unfold o_pf at e
  split at e
  · next x p1 i st' =>
    cases hb2 : Nat.beq p1 a with
    | false => rw [hb2] at e; cases e
    | true =>
      rw [hb2] at e
      have hpa : p1 = a := Nat.eq_of_beq_eq_true hb2
      match cc, hc, hty, e with
      | 0, hc, hty, e =>
        have h1 : z_tt (a / 10 % 100) b = .int := by
          rcases hty with ⟨-, q⟩ | ⟨q, -⟩ | ⟨q, -⟩
          · exact q
          · omega
          · omega
        exact key p1 i x st' rfl hpa (by omega) (by rw [h1]; rfl) (by rw [h1]; rfl) e
      | 1, hc, hty, e =>
        have h1 : z_tt (a / 10 % 100) b = .boolean := by
          rcases hty with ⟨q, -⟩ | ⟨-, q⟩ | ⟨q, -⟩
          · omega
          · exact q
          · omega
        have e : (if z_bz x then K (pc + 3) l st' (pI h p1 i b x) else none) = some res := e
        by_cases h3 : z_bz x
        · rw [if_pos h3] at e
          exact key p1 i x st' rfl hpa (by omega) (by rw [h1]; show Value.int (x &&& 1) = _; rw [z_nar_b h3]) (by rw [h1]; exact h3) e
        · rw [if_neg h3] at e
          cases e
      | n + 2, hc, hty, e => cases e
  · next p2 j p1 i st' =>
    cases hb2 : (Nat.beq p1 a && Nat.beq p2 cc && Nat.blt 1 cc) with
    | false => rw [hb2] at e; cases e
    | true =>
      rw [hb2] at e
      simp only [Bool.and_eq_true] at hb2
      have hpa : p1 = a := Nat.eq_of_beq_eq_true hb2.1.1
      have hpc : p2 = cc := Nat.eq_of_beq_eq_true hb2.1.2
      have hlt : 1 < cc := Nat.le_of_ble_eq_true hb2.2
      subst hpa
      subst hpc
      have h1 : z_isR (z_tt (p1 / 10 % 100) b) = true := by
        rcases hty with ⟨q, -⟩ | ⟨q, -⟩ | ⟨-, q⟩
        · omega
        · omega
        · exact q
      have hV : gV h p1 i = true := z_lv_pool hap (z_all_head (z_all_tail r.2.2.2.1))
      obtain ⟨L, f, hP, hD, hA, hzz⟩ := r.1
      have hVj : gV h p2 j = true := by
        refine z_lv_pool ?_ (z_all_head r.2.2.2.1)
        rw [← hc]
        exact z_ftp p1 hap b (Nat.lt_of_lt_of_le hbl (z_pool_49 p1 hap ha)) ha (by omega)
      refine z_putf (h' := pR h p1 i b (j + 1)) (v := .ref (loc p2 j)) F r hV ha hf hbl (z_narrow_ref _ _) (z_fits_ref h1 _) hfin ?_ (fun _ _ => rfl) (fun _ _ _ _ => rfl) (fun _ _ _ _ => rfl) (fun q j' hq k => by rw [gR_pR, if_neg (fun z => hq ⟨z.1, z.2.1⟩)]) (fun k hr => ?_) rfl rfl rfl (z_all_tail (z_all_tail r.2.2.2.1)) hd (fun H1 locs1 r1 => G _ _ _ _ _ _ _ _ _ _ e r1)
      · apply List.map_congr_left
        intro j' _
        unfold z_fv
        by_cases hj : j' = b
        · subst hj
          have e1 : gR (pR h p1 i j' (j + 1)) p1 i j' = j + 1 := by rw [gR_pR, if_pos ⟨rfl, rfl, rfl⟩]
          rw [if_pos rfl, e1, hc, if_neg (show ¬ p2 ≤ 1 by omega), if_neg (show ¬ j + 1 = 0 by omega)]
          rfl
        · have e1 : gR (pR h p1 i b (j + 1)) p1 i j' = gR h p1 i j' := by rw [gR_pR, if_neg (fun z => hj z.2.2)]
          rw [if_neg hj, e1, gI_pR]
      · rw [gR_pR] at hr ⊢
        by_cases hj : k = b
        · subst hj
          rw [if_pos ⟨rfl, rfl, rfl⟩]
          unfold z_rp
          rw [if_pos ha, hc]
          exact hVj
        · rw [if_neg (fun z => hj z.2.2)] at hr ⊢
          exact hA.2.2.1 p1 i k hV hr
  · cases e
end
