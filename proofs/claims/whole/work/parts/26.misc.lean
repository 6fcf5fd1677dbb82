/-! ===== clone, casts, arraycopy, switches, Object ===== -/
/-- a switch: its keys and targets are those of the instruction -/
def z_swok (pc : Nat) (k : Int) (offs : List Int) (ts : List (Int32 × Nat)) : Bool := match offs, ts with
  | [], [] => true
  | of :: os, t :: r => decide (t.1.toInt = k) && decide ((pc : Int) + of = (t.2 : Int)) && z_swok pc (k + 1) os r
  | _, _ => false
theorem z_sw_spec {pc : Nat} {x : Int32} {d : Option z_A} {k : Nat → Option z_A} {v : Option z_A} : ∀ (ts : List (Int32 × Nat)) (offs : List Int) (lo : Int), z_swok pc lo offs ts = true → z_sw x d ts k = v →
    ((x.toInt < lo ∨ lo + offs.length ≤ x.toInt) ∧ d = v) ∨ (∃ off t, ¬ x.toInt < lo ∧ x.toInt < lo + offs.length ∧ offs[(x.toInt - lo).toNat]? = some off ∧ (pc : Int) + off = ((t : Nat) : Int) ∧ k t = v) := by
  intro ts
  induction ts with
  | nil =>
    intro offs lo h e
    match offs, h with
    | [], _ =>
      refine Or.inl ⟨?_, e⟩
      simp only [List.length_nil]
      omega
  | cons t r ih =>
    intro offs lo h e
    match offs, h with
    | of :: os, h =>
      simp only [z_swok, Bool.and_eq_true, decide_eq_true_eq] at h
      obtain ⟨⟨h1, h2⟩, h3⟩ := h
      have e : (if x = t.1 then k t.2 else z_sw x d r k) = v := e
      by_cases hx : x = t.1
      · rw [if_pos hx] at e
        have hq : x.toInt = lo := by rw [hx]; exact h1
        refine Or.inr ⟨of, t.2, by omega, by simp only [List.length_cons]; omega, ?_, h2, e⟩
        rw [hq, Int.sub_self]
        rfl
      · rw [if_neg hx] at e
        have hq : x.toInt ≠ lo := fun z => hx (Int32.toInt_inj.mp (z.trans h1.symm))
        rcases ih os (lo + 1) h3 e with ⟨c1, c2⟩ | ⟨off, t', c1, c2, c3, c4, c5⟩
        · refine Or.inl ⟨?_, c2⟩
          simp only [List.length_cons]
          omega
        · refine Or.inr ⟨off, t', by omega, by simp only [List.length_cons]; omega, ?_, c4, c5⟩
          have : (x.toInt - lo).toNat = (x.toInt - (lo + 1)).toNat + 1 := by omega
          rw [this, List.getElem?_cons_succ]
          exact c3
section
variable {κ : z_Q} {y d : Nat} {h0 : z_H} {loc0 : Nat → Nat → Nat} {p : Program} {la : Launch} {ev : Env} {R : Room} {s : State} {m : MethodId} {args : Array Value} {below : List Frame} {meth : Method} {c : Code} {Q : State → Prop} {K : z_K} {res : z_A} {pc : Nat} {l st : List z_V} {h : z_H} {loc : Nat → Nat → Nat} {H : Heap} {locs : List Loc} {ls : Array Slot} {cells slots : Nat}
theorem w_sw (F : z_fx κ y d p R s m args meth c) (G : z_go κ h0 loc0 (z_ml y) p la ev R s m args below meth c Q K res) (r : z_rel κ s h0 loc0 (z_ml y) l st h loc H locs ls cells slots) {df lo hi : Int} {offs : Array Int} {n a : Nat} {ts : List (Int32 × Nat)} (hn : hi + 1 = lo + (offs.toList.length : Int)) (ht : (pc : Int) + df = (a : Int)) (hs : z_swok pc lo offs.toList ts = true) (hd : decode (z_by y) pc = .ok (.tableswitch df lo hi offs, n)) (e : o_sw K l st h a ts = some res) : W p la ev R s m args below meth c H locs cells slots Q (F0 m pc ls (st.map (z_rv loc))) := by
  obtain ⟨hx, hb, hml, hown, hts, hlk, hrt, hnm, hcx, hz, hRf, hRl⟩ := F
  unfold o_sw at e
  split at e
  · next x st' =>
    rcases z_sw_spec ts offs.toList lo hs e with ⟨c1, e⟩ | ⟨off, t, c1, c2, c3, c4, e⟩
    · refine lv_tableOut (tgt := a) hx hb hd (by omega) ht ?_
      exact G _ _ _ _ _ _ _ _ _ _ e (z_rel_st r (z_all_tail r.2.2.2.1))
    · refine lv_tableIn (tgt := t) hx hb hd c1 (by omega) (by rw [Array.getElem?_toList] at c3; exact c3) c4 ?_
      exact G _ _ _ _ _ _ _ _ _ _ e (z_rel_st r (z_all_tail r.2.2.2.1))
  · cases e
theorem w_oin (F : z_fx κ y d p R s m args meth c) (G : z_go κ h0 loc0 (z_ml y) p la ev R s m args below meth c Q K res) (r : z_rel κ s h0 loc0 (z_ml y) l st h loc H locs ls cells slots) {k : Nat} (ho : (z_oc y, k) ∈ z_OT) (hd : decode (z_by y) pc = .ok (.invokespecial k, 3)) (e : o_oin K (pc + 3) l st h = some res) : W p la ev R s m args below meth c H locs cells slots Q (F0 m pc ls (st.map (z_rv loc))) := by
  obtain ⟨hx, hb, hml, hown, hts, hlk, hrt, hnm, hcx, hz, hRf, hRl⟩ := F
  unfold o_oin at e
  split at e
  · next q st' =>
    cases hb2 : Nat.ble (z_cs st') 8 with
    | false => rw [hb2] at e; cases e
    | true =>
      rw [hb2] at e
      have h8 : z_cs st' ≤ 8 := Nat.le_of_ble_eq_true hb2
      obtain ⟨p1, j⟩ := q
      refine W.objInit (a := loc p1 j) (rest := st'.map (z_rv loc)) hx hb hown (hts _ (z_OT_ok _ ho)) (hts _ zw_oi) (hts _ zw_oc) rfl (by rw [hml]; exact r.2.2.1.2.1) rfl hd (by omega) ?_ ?_
      · show 2 * 0 + ((st'.map (z_rv loc)).map fun v => v.category).sum + 12 ≤ R.locals
        rw [z_cs_rv]
        omega
      · exact G _ _ _ _ _ _ _ _ _ _ e (z_rel_st r (z_all_tail r.2.2.2.1))
  · cases e
theorem w_cst (F : z_fx κ y d p R s m args meth c) (G : z_go κ h0 loc0 (z_ml y) p la ev R s m args below meth c Q K res) (r : z_rel κ s h0 loc0 (z_ml y) l st h loc H locs ls cells slots) {k : Nat} (ho : z_oc y = 4) (hk : k = 14) (hd : decode (z_by y) pc = .ok (.checkcast k, 3)) (e : o_cst K (pc + 3) l st h = some res) : W p la ev R s m args below meth c H locs cells slots Q (F0 m pc ls (st.map (z_rv loc))) := by
  have r0 := r
  obtain ⟨hx, hb, hml, hown, hts, hlk, hrt, hnm, hcx, hz, hRf, hRl⟩ := F
  obtain ⟨wd, hS, lo, lvs, ex, le, ec, es⟩ := r
  obtain ⟨L, f, hP, hD, hA, hzz⟩ := wd
  unfold o_cst at e
  split at e
  · next p1 j st' =>
    cases hb2 : Nat.beq (z_kd p1) 1 with
    | false => rw [hb2] at e; cases e
    | true =>
      rw [hb2] at e
      have hk1 : p1 % 10 = 1 := Nat.eq_of_beq_eq_true hb2
      have hV : gV h p1 j = true := z_lv_kd hk1 (by omega) (z_all_head lvs)
      obtain ⟨b1, b2, b3⟩ := hA.1 p1 j hV
      obtain ⟨k0, hk0⟩ := z_pl_get (f := f) b2
      rw [b3, z_en_int hk1 (by omega)] at hk0
      have hnm1 : s.vm.findClass "[I" = some (za κ 1) := va_nm_int (hcx.1.2 0 _ rfl).2
      have hw : z_on (z_oc y) = "DaughterTongues$Law" := by rw [ho]; rfl
      subst hk
      rw [hw] at hown
      refine va_castA hx hb hown (hts _ zw_cc) hP k0 hk0 hnm1 hd ?_
      exact G _ _ _ _ _ _ _ _ _ _ e r0
  · cases e
theorem w_cln (F : z_fx κ y d p R s m args meth c) (G : z_go κ h0 loc0 (z_ml y) p la ev R s m args below meth c Q K res) (r : z_rel κ s h0 loc0 (z_ml y) l st h loc H locs ls cells slots) (hmo : ∀ pc l st h, K pc l st h = some res → z_le h res.2) (hro : gC res.2 - gC h0 ≤ R.cells ∧ gS res.2 - gS h0 ≤ R.slots) {k a b cc : Nat} (ho : z_oc y = 4) (hk : k = 13) (hap : a ∈ z_pools) (ha : a % 10 = 1) (hbt : b ≠ 7) (hd : decode (z_by y) pc = .ok (.invokevirtual k, 3)) (e : o_cln K (pc + 3) l st h a b cc = some res) : W p la ev R s m args below meth c H locs cells slots Q (F0 m pc ls (st.map (z_rv loc))) := by
  have r0 := r
  obtain ⟨hx, hb, hml, hown, hts, hlk, hrt, hnm, hcx, hz, hRf, hRl⟩ := F
  obtain ⟨wd, hS, lo, lvs, ex, le, ec, es⟩ := r
  obtain ⟨L, f, hP, hD, hA, hzz⟩ := wd
  unfold o_cln at e
  split at e
  · next p1 j st' =>
    cases hb2 : (Nat.beq (z_kd p1) 1 && Nat.beq (z_ln p1) (z_ln a) && Nat.ble (z_cs st') 8) with
    | false => rw [hb2] at e; cases e
    | true =>
      rw [hb2] at e
      simp only [Bool.and_eq_true] at hb2
      have hk1 : p1 % 10 = 1 := Nat.eq_of_beq_eq_true hb2.1.1
      have hln : p1 / 1000 = a / 1000 := Nat.eq_of_beq_eq_true hb2.1.2
      have hV : gV h p1 j = true := z_lv_kd hk1 (by omega) (z_all_head lvs)
      obtain ⟨b1, b2, b3⟩ := hA.1 p1 j hV
      obtain ⟨k0, hk0⟩ := z_pl_get (f := f) b2
      rw [b3, z_en_int hk1 (by omega)] at hk0
      have hnm1 : s.vm.findClass "[I" = some (za κ 1) := va_nm_int (hcx.1.2 0 _ rfl).2
      have hw : z_on (z_oc y) = "DaughterTongues$Law" := by rw [ho]; rfl
      subst hk
      rw [hw] at hown
      have e : (if gV h a (cc + gN h b) then none else K (pc + 3) l (z_R a (cc + gN h b) :: st') (pA (nw h a (cc + gN h b) (z_ln a) b) a (cc + gN h b) (fun k => gI h p1 j k))) = some res := e
      by_cases hv : gV h a (cc + gN h b) = true
      · rw [if_pos hv] at e
        cases e
      · rw [if_neg hv] at e
        have hv : gV h a (cc + gN h b) = false := by simpa using hv
        have hm := hmo _ _ _ _ e
        have hC : gC (pA (nw h a (cc + gN h b) (z_ln a) b) a (cc + gN h b) (fun k => gI h p1 j k)) = gC h + 1 := rfl
        have hS2 : gS (pA (nw h a (cc + gN h b) (z_ln a) b) a (cc + gN h b) (fun k => gI h p1 j k)) = gS h + a / 1000 := rfl
        have hm1 := hm.1
        have hm2 := hm.2.1
        have hl1 := le.1
        have hl2 := le.2.1
        rw [hC] at hm1
        rw [hS2] at hm2
        have h8 : z_cs st' ≤ 8 := Nat.le_of_ble_eq_true hb2.2
        refine va_clone (D := zD κ) (cl := z_cls) (tys := z_tys (za κ)) (x := (p1 / 1000, .inl (gI h p1 j))) hx hb (by rw [hml]; exact lo.2.1.symm) hown (hts _ zw_cl1) (hts _ zw_cl2) (hts _ zw_cl3) (hts _ zw_cl4) (hts _ zw_cl5) hcx.2.2.2.1 hcx.1 hP hD hS (fun q hq => Nat.le_trans hz hq) k0 0 hk0 rfl hnm1 (va_fit (fun _ _ => rfl)) (by omega) (by rw [z_cs_rv]; omega) (by omega) (by show slots + p1 / 1000 ≤ R.slots; omega) hd (fun q H1 hK1 hP1 hD1 hS1 => ?_)
        show W p la ev R s m args below meth c H1 locs (cells + 1) (slots + p1 / 1000) Q (F0 m (pc + 3) ls (.ref q :: st'.map (z_rv loc)))
        rw [hln]
        rw [hln] at hP1 hD1
        -- the new row as a making and a writing
        have hq := z_fresh hD1
        have hat := z_at_new (n := z_ln a) (s := b) hA hap hv hbt hq
        have hVn : gV (nw h a (cc + gN h b) (z_ln a) b) a (cc + gN h b) = true := by rw [gV_nw, if_pos ⟨rfl, rfl⟩]
        have hat2 := z_at_upd (h' := pA (nw h a (cc + gN h b) (z_ln a) b) a (cc + gN h b) (fun k => gI h p1 j k)) hat hVn (fun _ _ => rfl) (fun q' j' hq' k => by rw [gI_pA, if_neg hq']) (fun _ _ _ _ => rfl) (fun _ _ _ _ => rfl) (fun k hr => by
          have : gR (pA (nw h a (cc + gN h b) (z_ln a) b) a (cc + gN h b) (fun k => gI h p1 j k)) a (cc + gN h b) k = 0 := by
            show gR (nw h a (cc + gN h b) (z_ln a) b) a (cc + gN h b) k = 0
            rw [gR_nw, if_pos ⟨rfl, rfl⟩]
          exact absurd this hr) rfl
        have hE : (Sum.inl (za κ 1, a / 1000, Sum.inl (gI h p1 j)) : va_E) = z_en (za κ) (fun q' j => if q' = a ∧ j = cc + gN h b then q else loc q' j) (pA (nw h a (cc + gN h b) (z_ln a) b) a (cc + gN h b) (fun k => gI h p1 j k)) a (cc + gN h b) := by
          have hfe : gI (pA (nw h a (cc + gN h b) (z_ln a) b) a (cc + gN h b) (fun k => gI h p1 j k)) a (cc + gN h b) = gI h p1 j := by
            funext k
            rw [gI_pA, if_pos ⟨rfl, rfl⟩]
          rw [z_en_int ha (by omega), hfe]
        have hwd : z_wd κ (fun q' j => if q' = a ∧ j = cc + gN h b then q else loc q' j) (pA (nw h a (cc + gN h b) (z_ln a) b) a (cc + gN h b) (fun k => gI h p1 j k)) H1 := by
          have hup : va_pl (L ++ [q]) (va_up f q (Sum.inl (za κ 1, a / 1000, Sum.inl (gI h p1 j)))) = va_pl (L ++ [q]) (va_up (va_up f q (z_en (za κ) (fun q' j => if q' = a ∧ j = cc + gN h b then q else loc q' j) (nw h a (cc + gN h b) (z_ln a) b) a (cc + gN h b))) ((fun q' j => if q' = a ∧ j = cc + gN h b then q else loc q' j) a (cc + gN h b)) (z_en (za κ) (fun q' j => if q' = a ∧ j = cc + gN h b then q else loc q' j) (pA (nw h a (cc + gN h b) (z_ln a) b) a (cc + gN h b) (fun k => gI h p1 j k)) a (cc + gN h b))) := by
            apply va_pl_congr
            intro x
            have hl : ((fun q' j => if q' = a ∧ j = cc + gN h b then q else loc q' j) a (cc + gN h b)) = q := if_pos ⟨rfl, rfl⟩
            rw [hl, ← hE]
            unfold va_up
            by_cases hxq : x = q
            · rw [if_pos hxq, if_pos hxq]
            · rw [if_neg hxq, if_neg hxq, if_neg hxq]
          rw [va_pl_push hq, hup] at hP1 hD1
          exact ⟨_, _, hP1, hD1, hat2, z_size hz hS1⟩
        have hx1 : z_ex h loc (fun q' j => if q' = a ∧ j = cc + gN h b then q else loc q' j) := z_ex_new hap hv
        have hle : z_le h (pA (nw h a (cc + gN h b) (z_ln a) b) a (cc + gN h b) (fun k => gI h p1 j k)) := z_le_trans (z_le_nw h _ _ _ _) (z_le_pA _ _ _ _)
        have w := G _ _ _ _ _ _ _ _ _ _ e ⟨hwd, hS1, z_lo_mono lo hx1 hle, z_all_cons (Or.inl hVn) (fun w hw => z_lv_mono hle (z_all_tail lvs w hw)), z_ex_trans le ex hx1, z_le_trans le hle, (show cells + 1 = _ by rw [hC]; omega), (show slots + a / 1000 = _ by rw [hS2]; omega)⟩
        rw [z_st_new hap hv (z_all_tail lvs)] at w
        exact w
  · cases e
theorem w_cpy (F : z_fx κ y d p R s m args meth c) (G : z_go κ h0 loc0 (z_ml y) p la ev R s m args below meth c Q K res) (r : z_rel κ s h0 loc0 (z_ml y) l st h loc H locs ls cells slots) {k : Nat} (ho : z_oc y = 9) (hk : k = 307) (hd : decode (z_by y) pc = .ok (.invokestatic k, 3)) (e : o_cpy K (pc + 3) l st h = some res) : W p la ev R s m args below meth c H locs cells slots Q (F0 m pc ls (st.map (z_rv loc))) := by
  have r0 := r
  obtain ⟨hx, hb, hml, hown, hts, hlk, hrt, hnm, hcx, hz, hRf, hRl⟩ := F
  obtain ⟨wd, hS, lo, lvs, ex, le, ec, es⟩ := r
  obtain ⟨L, f, hP, hD, hA, hzz⟩ := wd
  unfold o_cpy at e
  split at e
  · next n dp q j sp p1 i st' =>
    cases hb2 : (Nat.beq (z_kd p1) 1 && Nat.beq (z_kd q) 1 && Nat.ble (z_cs st') 8) with
    | false => rw [hb2] at e; cases e
    | true =>
      rw [hb2] at e
      simp only [Bool.and_eq_true] at hb2
      have hk1 : p1 % 10 = 1 := Nat.eq_of_beq_eq_true hb2.1.1
      have hk2 : q % 10 = 1 := Nat.eq_of_beq_eq_true hb2.1.2
      have h8 : z_cs st' ≤ 8 := Nat.le_of_ble_eq_true hb2.2
      have e : (if ¬ n < 0 ∧ ¬ dp < 0 ∧ ¬ sp < 0 ∧ sp.toNatClampNeg + n.toNatClampNeg ≤ z_ln p1 ∧ dp.toNatClampNeg + n.toNatClampNeg ≤ z_ln q then K (pc + 3) l st' (pA h q j (va_cpy (fun k => gI h p1 i k) (fun k => gI h q j k) sp.toNatClampNeg dp.toNatClampNeg n.toNatClampNeg)) else none) = some res := e
      by_cases hc : ¬ n < 0 ∧ ¬ dp < 0 ∧ ¬ sp < 0 ∧ sp.toNatClampNeg + n.toNatClampNeg ≤ z_ln p1 ∧ dp.toNatClampNeg + n.toNatClampNeg ≤ z_ln q
      · rw [if_pos hc] at e
        obtain ⟨c1, c2, c3, c4, c5⟩ := hc
        have hV1 : gV h p1 i = true := z_lv_kd hk1 (by omega) (z_all_head (z_all_tail (z_all_tail (z_all_tail (z_all_tail lvs)))))
        have hV2 : gV h q j = true := z_lv_kd hk2 (by omega) (z_all_head (z_all_tail (z_all_tail lvs)))
        obtain ⟨b1, b2, b3⟩ := hA.1 p1 i hV1
        obtain ⟨k1, hk1'⟩ := z_pl_get (f := f) b2
        rw [b3, z_en_int hk1 (by omega)] at hk1'
        obtain ⟨d1, d2, d3⟩ := hA.1 q j hV2
        obtain ⟨k2, hk2'⟩ := z_pl_get (f := f) d2
        have hk3 := hk2'
        rw [d3, z_en_int hk2 (by omega)] at hk3
        have hw : z_on (z_oc y) = "DaughterTongues" := by rw [ho]; rfl
        subst hk
        rw [hw] at hown
        have hnf : nativeFrameWords "java/lang/System" "arraycopy" 5 ≤ 10 := by decide +kernel
        refine va_copyi (ty := .int) hx hb (by rw [hml]; exact lo.2.1.symm) hown (hts _ zw_ac1) (hts _ zw_ac2) (hts _ zw_ac3) (hts _ zw_ac4) hcx.1 hP hD hS k1 k2 0 0 hk1' hk3 rfl rfl rfl c3 c2 c1 c4 c5 (fun _ _ => rfl) (by omega) (by rw [z_cs_rv]; omega) hd (fun H1 locs1 hP1 hD1 hS1 => ?_)
        refine G _ _ _ _ _ _ _ _ _ _ e ⟨z_wd_set d2 hD hk2' hP1 hD1 ?_ (z_at_upd hA hV2 (fun _ _ => rfl) (fun q' j' hq' k => by rw [gI_pA, if_neg hq']) (fun _ _ _ _ => rfl) (fun _ _ _ _ => rfl) (fun k hr => hA.2.2.1 q j k hV2 hr) rfl) (z_size hz hS1), hS1, z_lo_mono lo (z_ex_rfl h loc) (z_le_pA h _ _ _), z_all_tail (z_all_tail (z_all_tail (z_all_tail (z_all_tail lvs)))), ex, z_le_trans le (z_le_pA h _ _ _), ec, es⟩
        have hfe : gI (pA h q j (va_cpy (fun k => gI h p1 i k) (fun k => gI h q j k) sp.toNatClampNeg dp.toNatClampNeg n.toNatClampNeg)) q j = va_cpy (gI h p1 i) (gI h q j) sp.toNatClampNeg dp.toNatClampNeg n.toNatClampNeg := by
          funext k
          rw [gI_pA, if_pos ⟨rfl, rfl⟩]
        rw [z_en_int hk2 (by omega), hfe]
      · rw [if_neg hc] at e
        cases e
  · cases e
theorem w_tf (F : z_fx κ y d p R s m args meth c) (G : z_go κ h0 loc0 (z_ml y) p la ev R s m args below meth c Q K res) (r : z_rel κ s h0 loc0 (z_ml y) l st h loc H locs ls cells slots) {k b : Nat} (hk : (k = 9 ∧ b = 0) ∨ (k = 15 ∧ b = 1)) (ho : z_oc y = 16) (hd : decode (z_by y) pc = .ok (.getfield k, 3)) (e : o_tf K (pc + 3) l st h b = some res) : W p la ev R s m args below meth c H locs cells slots Q (F0 m pc ls (st.map (z_rv loc))) := by
  have r0 := r
  obtain ⟨hx, hb, hml, hown, hts, hlk, hrt, hnm, hcx, hz, hRf, hRl⟩ := F
  obtain ⟨wd, hS, lo, lvs, ex, le, ec, es⟩ := r
  obtain ⟨L, f, hP, hD, hA, hzz⟩ := wd
  unfold o_tf at e
  split at e
  · next p1 i st' =>
    cases hb2 : (Nat.beq p1 8 && Nat.blt i 8) with
    | false => rw [hb2] at e; cases e
    | true =>
      rw [hb2] at e
      simp only [Bool.and_eq_true] at hb2
      have h8 : p1 = 8 := Nat.eq_of_beq_eq_true hb2.1
      have hi : i < 8 := Nat.le_of_ble_eq_true hb2.2
      subst h8
      have q8 := (hA.2.2.2.2.1 i hi).1
      have q9 := (hA.2.2.2.2.1 i hi).2
      have hT := hcx.2.2.2.2.2.1.1.1 i hi
      have hw : z_on (z_oc y) = "java/lang/String" := by rw [ho]; rfl
      rw [hw] at hown
      show W p la ev R s m args below meth c H locs cells slots Q (F0 m pc ls (.ref (loc 8 i) :: st'.map (z_rv loc)))
      rw [q8]
      rcases hk with ⟨rfl, rfl⟩ | ⟨rfl, rfl⟩
      · refine vk_getf hx hb hT.2.2.1 hS hown (hts _ zw_sf1) (fun _ h9 => h9) hd ?_
        rw [← q9]
        exact G _ _ _ _ _ _ _ _ _ _ e (z_rel_st r0 (z_all_cons (Or.inr (Or.inr ⟨Or.inr rfl, hi⟩)) (z_all_tail lvs)))
      · refine vk_getf hx hb hT.2.1 hS hown (hts _ zw_sf2) (fun _ h9 => h9) hd ?_
        exact G _ _ _ _ _ _ _ _ _ _ e (z_rel_st r0 (z_all_cons trivial (z_all_tail lvs)))
  · cases e
theorem w_gs (F : z_fx κ y d p R s m args meth c) (G : z_go κ h0 loc0 (z_ml y) p la ev R s m args below meth c Q K res) (r : z_rel κ s h0 loc0 (z_ml y) l st h loc H locs ls cells slots) {k : Nat} (hk : k = 38) (ho : z_oc y = 16) (hd : decode (z_by y) pc = .ok (.getstatic k, 3)) (e : K (pc + 3) l (z_I 1 :: st) h = some res) : W p la ev R s m args below meth c H locs cells slots Q (F0 m pc ls (st.map (z_rv loc))) := by
  have r0 := r
  obtain ⟨hx, hb, hml, hown, hts, hlk, hrt, hnm, hcx, hz, hRf, hRl⟩ := F
  obtain ⟨wd, hS, lo, lvs, ex, le, ec, es⟩ := r
  obtain ⟨L, f, hP, hD, hA, hzz⟩ := wd
  have hw : z_on (z_oc y) = "java/lang/String" := by rw [ho]; rfl
  rw [hw] at hown
  subst hk
  refine va_gets hx hb hcx.2.2.2.2.2.2.2 hS hown (hts _ zw_sf3) (fun _ h9 => h9) hd ?_
  exact G _ _ _ _ _ _ _ _ _ _ e (z_rel_st r0 (z_all_cons trivial lvs))
end
