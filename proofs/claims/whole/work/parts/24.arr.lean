/-! ===== arrays ===== -/
theorem z_tys1 (aC : Nat → ClassId) {k : Nat} (hk : k = 1 ∨ k = 2 ∨ k = 3 ∨ k = 4) : (z_tys aC)[k - 1]? = some (aC k, if k = 1 then .int else if k = 2 then .char else if k = 3 then .boolean else .long) := by
  rcases hk with rfl | rfl | rfl | rfl <;> rfl
theorem z_upd_pI {h : z_H} {p i : Nat} {x : Int32} {k : Nat} : upd (gI h p i) k x = gI (pI h p i k x) p i := by
  funext j
  rw [gI_pI]
  unfold upd
  by_cases hj : j = k
  · rw [if_pos hj, if_pos ⟨rfl, rfl, hj⟩]
  · rw [if_neg hj, if_neg (fun z => hj z.2.2)]
theorem z_upd_pJ {h : z_H} {p i : Nat} {x : Int64} {k : Nat} : vp_updL (gJ h p i) k x = gJ (pJ h p i k x) p i := by
  funext j
  rw [gJ_pJ]
  unfold vp_updL
  by_cases hj : j = k
  · rw [if_pos hj, if_pos ⟨rfl, rfl, hj⟩]
  · rw [if_neg hj, if_neg (fun z => hj z.2.2)]
section
variable {κ : z_Q} {y d : Nat} {h0 : z_H} {loc0 : Nat → Nat → Nat} {p : Program} {la : Launch} {ev : Env} {R : Room} {s : State} {m : MethodId} {args : Array Value} {below : List Frame} {meth : Method} {c : Code} {Q : State → Prop} {K : z_K} {res : z_A} {pc : Nat} {l st : List z_V} {h : z_H} {loc : Nat → Nat → Nat} {H : Heap} {locs : List Loc} {ls : Array Slot} {cells slots : Nat}
theorem w_iald (F : z_fx κ y d p R s m args meth c) (G : z_go κ h0 loc0 (z_ml y) p la ev R s m args below meth c Q K res) (r : z_rel κ s h0 loc0 (z_ml y) l st h loc H locs ls cells slots) (hd : decode (z_by y) pc = .ok (.iaload, 1)) (e : o_ia K (pc + 1) l st h 1 = some res) : W p la ev R s m args below meth c H locs cells slots Q (F0 m pc ls (st.map (z_rv loc))) := by
  obtain ⟨hx, hb, hml, hown, hts, hlk, hrt, hnm, hcx, hz, hRf, hRl⟩ := F
  obtain ⟨wd, hS, lo, lvs, ex, le, ec, es⟩ := r
  obtain ⟨L, f, hP, hD, hA, hzz⟩ := wd
  unfold o_ia at e
  split at e
  · next i p1 j st' =>
    cases hb2 : Nat.beq (z_kd p1) 1 with
    | false =>
      rw [hb2] at e
      have e : (bif Nat.beq p1 7 && Nat.beq 1 1 then (if z_in i (gN h 7) then K (pc + 1) l (z_I (gI h 7 0 i.toNatClampNeg) :: st') h else none) else bif Nat.beq p1 9 && Nat.beq 1 3 then (if z_in i (z_tn j) then K (pc + 1) l (z_I (z_tc j i.toNatClampNeg) :: st') h else none) else none) = some res := e
      cases hb3 : (Nat.beq p1 7 && Nat.beq 1 1) with
      | false =>
        rw [hb3] at e
        have e : (bif Nat.beq p1 9 && Nat.beq 1 3 then (if z_in i (z_tn j) then K (pc + 1) l (z_I (z_tc j i.toNatClampNeg) :: st') h else none) else none) = some res := e
        rw [show (Nat.beq p1 9 && Nat.beq 1 3) = false from Bool.and_false _] at e
        cases e
      | true =>
        rw [hb3] at e
        simp only [Bool.and_eq_true] at hb3
        have h7 : p1 = 7 := Nat.eq_of_beq_eq_true hb3.1
        subst h7
        have e2 : (if z_in i (gN h 7) then K (pc + 1) l (z_I (gI h 7 0 i.toNatClampNeg) :: st') h else none) = some res := e
        by_cases hin : z_in i (gN h 7)
        · rw [if_pos hin] at e2
          have hj : j = 0 := by
            rcases z_all_head (z_all_tail lvs) with q | q | q
            · exact absurd rfl (z_pool_7 7 (hA.1 7 j q).1).1
            · exact q.2
            · omega
          subst hj
          obtain ⟨q1, q2, q3, q4⟩ := hA.2.2.2
          obtain ⟨x1, x2⟩ := hcx.2.2.2.2.1
          show W p la ev R s m args below meth c H locs cells slots Q (F0 m pc ls (.int i :: .ref (loc 7 0) :: st'.map (z_rv loc)))
          rw [q1]
          refine va_sld hx hb x1 (by omega) (show ¬ z_fr κ (zb κ) from fun z => by have z : zz κ ≤ zb κ := z; omega) hS (by rw [← q3]; exact z_in_vp hin) hd ?_
          rw [← q4]
          exact G _ _ _ _ _ _ _ _ _ _ e2 ⟨⟨L, f, hP, hD, hA, hzz⟩, hS, lo, z_all_cons trivial (z_all_tail (z_all_tail lvs)), ex, le, ec, es⟩
        · rw [if_neg hin] at e2
          cases e2
    | true =>
      rw [hb2] at e
      have hk : p1 % 10 = 1 := Nat.eq_of_beq_eq_true hb2
      have e : (if z_in i (z_ln p1) then K (pc + 1) l (z_I (gI h p1 j i.toNatClampNeg) :: st') h else none) = some res := e
      by_cases hin : z_in i (z_ln p1)
      · rw [if_pos hin] at e
        have hV : gV h p1 j = true := z_lv_kd hk (by omega) (z_all_head (z_all_tail lvs))
        obtain ⟨b1, b2, b3⟩ := hA.1 p1 j hV
        obtain ⟨k0, hk0⟩ := z_pl_get (f := f) b2
        rw [b3, z_en_int hk (by omega)] at hk0
        refine va_iald hx hb hcx.1 hP k0 (1 - 1) hk0 (z_tys1 (za κ) (by omega)) (z_in_vp hin) hd ?_
        exact G _ _ _ _ _ _ _ _ _ _ e ⟨⟨L, f, hP, hD, hA, hzz⟩, hS, lo, z_all_cons trivial (z_all_tail (z_all_tail lvs)), ex, le, ec, es⟩
      · rw [if_neg hin] at e
        cases e
  · cases e
theorem w_cald (F : z_fx κ y d p R s m args meth c) (G : z_go κ h0 loc0 (z_ml y) p la ev R s m args below meth c Q K res) (r : z_rel κ s h0 loc0 (z_ml y) l st h loc H locs ls cells slots) (hd : decode (z_by y) pc = .ok (.caload, 1)) (e : o_ia K (pc + 1) l st h 2 = some res) : W p la ev R s m args below meth c H locs cells slots Q (F0 m pc ls (st.map (z_rv loc))) := by
  obtain ⟨hx, hb, hml, hown, hts, hlk, hrt, hnm, hcx, hz, hRf, hRl⟩ := F
  obtain ⟨wd, hS, lo, lvs, ex, le, ec, es⟩ := r
  obtain ⟨L, f, hP, hD, hA, hzz⟩ := wd
  unfold o_ia at e
  split at e
  · next i p1 j st' =>
    cases hb2 : Nat.beq (z_kd p1) 2 with
    | false =>
      rw [hb2] at e
      have e : (bif Nat.beq p1 7 && Nat.beq 2 1 then (if z_in i (gN h 7) then K (pc + 1) l (z_I (gI h 7 0 i.toNatClampNeg) :: st') h else none) else bif Nat.beq p1 9 && Nat.beq 2 3 then (if z_in i (z_tn j) then K (pc + 1) l (z_I (z_tc j i.toNatClampNeg) :: st') h else none) else none) = some res := e
      rw [show (Nat.beq p1 7 && Nat.beq 2 1) = false from Bool.and_false _] at e
      have e : (bif Nat.beq p1 9 && Nat.beq 2 3 then (if z_in i (z_tn j) then K (pc + 1) l (z_I (z_tc j i.toNatClampNeg) :: st') h else none) else none) = some res := e
      rw [show (Nat.beq p1 9 && Nat.beq 2 3) = false from Bool.and_false _] at e
      cases e
    | true =>
      rw [hb2] at e
      have hk : p1 % 10 = 2 := Nat.eq_of_beq_eq_true hb2
      have e : (if z_in i (z_ln p1) then K (pc + 1) l (z_I (gI h p1 j i.toNatClampNeg) :: st') h else none) = some res := e
      by_cases hin : z_in i (z_ln p1)
      · rw [if_pos hin] at e
        have hV : gV h p1 j = true := z_lv_kd hk (by omega) (z_all_head (z_all_tail lvs))
        obtain ⟨b1, b2, b3⟩ := hA.1 p1 j hV
        obtain ⟨k0, hk0⟩ := z_pl_get (f := f) b2
        rw [b3, z_en_int hk (by omega)] at hk0
        refine va_cald hx hb hcx.1 hP k0 (2 - 1) hk0 (z_tys1 (za κ) (by omega)) (z_in_vp hin) hd ?_
        exact G _ _ _ _ _ _ _ _ _ _ e ⟨⟨L, f, hP, hD, hA, hzz⟩, hS, lo, z_all_cons trivial (z_all_tail (z_all_tail lvs)), ex, le, ec, es⟩
      · rw [if_neg hin] at e
        cases e
  · cases e
theorem w_zald (F : z_fx κ y d p R s m args meth c) (G : z_go κ h0 loc0 (z_ml y) p la ev R s m args below meth c Q K res) (r : z_rel κ s h0 loc0 (z_ml y) l st h loc H locs ls cells slots) (hd : decode (z_by y) pc = .ok (.baload, 1)) (e : o_ia K (pc + 1) l st h 3 = some res) : W p la ev R s m args below meth c H locs cells slots Q (F0 m pc ls (st.map (z_rv loc))) := by
  obtain ⟨hx, hb, hml, hown, hts, hlk, hrt, hnm, hcx, hz, hRf, hRl⟩ := F
  obtain ⟨wd, hS, lo, lvs, ex, le, ec, es⟩ := r
  obtain ⟨L, f, hP, hD, hA, hzz⟩ := wd
  unfold o_ia at e
  split at e
  · next i p1 j st' =>
    cases hb2 : Nat.beq (z_kd p1) 3 with
    | false =>
      rw [hb2] at e
      have e : (bif Nat.beq p1 7 && Nat.beq 3 1 then (if z_in i (gN h 7) then K (pc + 1) l (z_I (gI h 7 0 i.toNatClampNeg) :: st') h else none) else bif Nat.beq p1 9 && Nat.beq 3 3 then (if z_in i (z_tn j) then K (pc + 1) l (z_I (z_tc j i.toNatClampNeg) :: st') h else none) else none) = some res := e
      rw [show (Nat.beq p1 7 && Nat.beq 3 1) = false from Bool.and_false _] at e
      have e : (bif Nat.beq p1 9 && Nat.beq 3 3 then (if z_in i (z_tn j) then K (pc + 1) l (z_I (z_tc j i.toNatClampNeg) :: st') h else none) else none) = some res := e
      cases hb3 : (Nat.beq p1 9 && Nat.beq 3 3) with
      | false => rw [hb3] at e; cases e
      | true =>
        rw [hb3] at e
        simp only [Bool.and_eq_true] at hb3
        have h9 : p1 = 9 := Nat.eq_of_beq_eq_true hb3.1
        subst h9
        have e2 : (if z_in i (z_tn j) then K (pc + 1) l (z_I (z_tc j i.toNatClampNeg) :: st') h else none) = some res := e
        by_cases hin : z_in i (z_tn j)
        · rw [if_pos hin] at e2
          have hj : j < 8 := by
            rcases z_all_head (z_all_tail lvs) with q | q | q
            · exact absurd rfl (z_pool_7 9 (hA.1 9 j q).1).2.2
            · omega
            · exact q.2
          have q2 := (hA.2.2.2.2.1 j hj).2
          have hT := (hcx.2.2.2.2.2.1.1.1 j hj).2.2.2
          show W p la ev R s m args below meth c H locs cells slots Q (F0 m pc ls (.int i :: .ref (loc 9 j) :: st'.map (z_rv loc)))
          rw [q2]
          refine va_tb hx hb hT hS (z_in_vp hin) rfl hd ?_
          exact G _ _ _ _ _ _ _ _ _ _ e2 ⟨⟨L, f, hP, hD, hA, hzz⟩, hS, lo, z_all_cons trivial (z_all_tail (z_all_tail lvs)), ex, le, ec, es⟩
        · rw [if_neg hin] at e2
          cases e2
    | true =>
      rw [hb2] at e
      have hk : p1 % 10 = 3 := Nat.eq_of_beq_eq_true hb2
      have e : (if z_in i (z_ln p1) then K (pc + 1) l (z_I (gI h p1 j i.toNatClampNeg) :: st') h else none) = some res := e
      by_cases hin : z_in i (z_ln p1)
      · rw [if_pos hin] at e
        have hV : gV h p1 j = true := z_lv_kd hk (by omega) (z_all_head (z_all_tail lvs))
        obtain ⟨b1, b2, b3⟩ := hA.1 p1 j hV
        obtain ⟨k0, hk0⟩ := z_pl_get (f := f) b2
        rw [b3, z_en_int hk (by omega)] at hk0
        refine va_zald hx hb hcx.1 hP k0 (3 - 1) hk0 (z_tys1 (za κ) (by omega)) (z_in_vp hin) hd ?_
        exact G _ _ _ _ _ _ _ _ _ _ e ⟨⟨L, f, hP, hD, hA, hzz⟩, hS, lo, z_all_cons trivial (z_all_tail (z_all_tail lvs)), ex, le, ec, es⟩
      · rw [if_neg hin] at e
        cases e
  · cases e
theorem w_iast (F : z_fx κ y d p R s m args meth c) (G : z_go κ h0 loc0 (z_ml y) p la ev R s m args below meth c Q K res) (r : z_rel κ s h0 loc0 (z_ml y) l st h loc H locs ls cells slots) (hd : decode (z_by y) pc = .ok (.iastore, 1)) (e : o_ist K (pc + 1) l st h 1 (fun _ => true) = some res) : W p la ev R s m args below meth c H locs cells slots Q (F0 m pc ls (st.map (z_rv loc))) := by
  obtain ⟨hx, hb, hml, hown, hts, hlk, hrt, hnm, hcx, hz, hRf, hRl⟩ := F
  obtain ⟨wd, hS, lo, lvs, ex, le, ec, es⟩ := r
  obtain ⟨L, f, hP, hD, hA, hzz⟩ := wd
  unfold o_ist at e
  split at e
  · next x i p1 j st' =>
    cases hb2 : Nat.beq (z_kd p1) 1 with
    | false => rw [hb2] at e; cases e
    | true =>
      rw [hb2] at e
      have hk : p1 % 10 = 1 := Nat.eq_of_beq_eq_true hb2
      have e : (if (z_in i (z_ln p1) && (fun _ => true) x) = true then K (pc + 1) l st' (pI h p1 j i.toNatClampNeg x) else none) = some res := e
      by_cases hin : (z_in i (z_ln p1) && (fun _ => true) x) = true
      · rw [if_pos hin] at e
        simp only [Bool.and_eq_true] at hin
        have hV : gV h p1 j = true := z_lv_kd hk (by omega) (z_all_head (z_all_tail (z_all_tail lvs)))
        obtain ⟨b1, b2, b3⟩ := hA.1 p1 j hV
        obtain ⟨k0, hk0⟩ := z_pl_get (f := f) b2
        have hk1 := hk0
        rw [b3, z_en_int hk (by omega)] at hk1
        refine va_iast hx hb hcx.1 hP hD hS k0 (1 - 1) hk1 (z_tys1 (za κ) (by omega)) (z_in_vp hin.1) hd (fun H1 locs1 hP1 hD1 hS1 => ?_)
        refine G _ _ _ _ _ _ _ _ _ _ e ⟨z_wd_set b2 hD hk0 hP1 hD1 ?_ (z_at_upd hA hV (fun _ _ => rfl) (fun q j' hq k => by rw [gI_pI, if_neg (fun z => hq ⟨z.1, z.2.1⟩)]) (fun _ _ _ _ => rfl) (fun _ _ _ _ => rfl) (fun k hr => hA.2.2.1 p1 j k hV hr) rfl) (z_size hz hS1), hS1, z_lo_mono lo (z_ex_rfl h loc) (z_le_pI h _ _ _ _), z_all_tail (z_all_tail (z_all_tail lvs)), ex, z_le_trans le (z_le_pI h _ _ _ _), ec, es⟩
        rw [z_en_int hk (by omega), z_upd_pI]
      · rw [if_neg hin] at e
        cases e
  · cases e
theorem w_cast (F : z_fx κ y d p R s m args meth c) (G : z_go κ h0 loc0 (z_ml y) p la ev R s m args below meth c Q K res) (r : z_rel κ s h0 loc0 (z_ml y) l st h loc H locs ls cells slots) (hd : decode (z_by y) pc = .ok (.castore, 1)) (e : o_ist K (pc + 1) l st h 2 (fun x => z_in x 65536) = some res) : W p la ev R s m args below meth c H locs cells slots Q (F0 m pc ls (st.map (z_rv loc))) := by
  obtain ⟨hx, hb, hml, hown, hts, hlk, hrt, hnm, hcx, hz, hRf, hRl⟩ := F
  obtain ⟨wd, hS, lo, lvs, ex, le, ec, es⟩ := r
  obtain ⟨L, f, hP, hD, hA, hzz⟩ := wd
  unfold o_ist at e
  split at e
  · next x i p1 j st' =>
    cases hb2 : Nat.beq (z_kd p1) 2 with
    | false => rw [hb2] at e; cases e
    | true =>
      rw [hb2] at e
      have hk : p1 % 10 = 2 := Nat.eq_of_beq_eq_true hb2
      have e : (if (z_in i (z_ln p1) && (fun x => z_in x 65536) x) = true then K (pc + 1) l st' (pI h p1 j i.toNatClampNeg x) else none) = some res := e
      by_cases hin : (z_in i (z_ln p1) && (fun x => z_in x 65536) x) = true
      · rw [if_pos hin] at e
        simp only [Bool.and_eq_true] at hin
        have hV : gV h p1 j = true := z_lv_kd hk (by omega) (z_all_head (z_all_tail (z_all_tail lvs)))
        obtain ⟨b1, b2, b3⟩ := hA.1 p1 j hV
        obtain ⟨k0, hk0⟩ := z_pl_get (f := f) b2
        have hk1 := hk0
        rw [b3, z_en_int hk (by omega)] at hk1
        have hnar : vp_nar .char x = x := z_nar_c hin.2
        refine va_cast hx hb hcx.1 hP hD hS k0 (2 - 1) hk1 (z_tys1 (za κ) (by omega)) (z_in_vp hin.1) hd (fun H1 locs1 hP1 hD1 hS1 => ?_)
        rw [hnar] at hP1 hD1
        refine G _ _ _ _ _ _ _ _ _ _ e ⟨z_wd_set b2 hD hk0 hP1 hD1 ?_ (z_at_upd hA hV (fun _ _ => rfl) (fun q j' hq k => by rw [gI_pI, if_neg (fun z => hq ⟨z.1, z.2.1⟩)]) (fun _ _ _ _ => rfl) (fun _ _ _ _ => rfl) (fun k hr => hA.2.2.1 p1 j k hV hr) rfl) (z_size hz hS1), hS1, z_lo_mono lo (z_ex_rfl h loc) (z_le_pI h _ _ _ _), z_all_tail (z_all_tail (z_all_tail lvs)), ex, z_le_trans le (z_le_pI h _ _ _ _), ec, es⟩
        rw [z_en_int hk (by omega), z_upd_pI]
      · rw [if_neg hin] at e
        cases e
  · cases e
theorem w_zast (F : z_fx κ y d p R s m args meth c) (G : z_go κ h0 loc0 (z_ml y) p la ev R s m args below meth c Q K res) (r : z_rel κ s h0 loc0 (z_ml y) l st h loc H locs ls cells slots) (hd : decode (z_by y) pc = .ok (.bastore, 1)) (e : o_ist K (pc + 1) l st h 3 z_bz = some res) : W p la ev R s m args below meth c H locs cells slots Q (F0 m pc ls (st.map (z_rv loc))) := by
  obtain ⟨hx, hb, hml, hown, hts, hlk, hrt, hnm, hcx, hz, hRf, hRl⟩ := F
  obtain ⟨wd, hS, lo, lvs, ex, le, ec, es⟩ := r
  obtain ⟨L, f, hP, hD, hA, hzz⟩ := wd
  unfold o_ist at e
  split at e
  · next x i p1 j st' =>
    cases hb2 : Nat.beq (z_kd p1) 3 with
    | false => rw [hb2] at e; cases e
    | true =>
      rw [hb2] at e
      have hk : p1 % 10 = 3 := Nat.eq_of_beq_eq_true hb2
      have e : (if (z_in i (z_ln p1) && z_bz x) = true then K (pc + 1) l st' (pI h p1 j i.toNatClampNeg x) else none) = some res := e
      by_cases hin : (z_in i (z_ln p1) && z_bz x) = true
      · rw [if_pos hin] at e
        simp only [Bool.and_eq_true] at hin
        have hV : gV h p1 j = true := z_lv_kd hk (by omega) (z_all_head (z_all_tail (z_all_tail lvs)))
        obtain ⟨b1, b2, b3⟩ := hA.1 p1 j hV
        obtain ⟨k0, hk0⟩ := z_pl_get (f := f) b2
        have hk1 := hk0
        rw [b3, z_en_int hk (by omega)] at hk1
        have hnar : vp_nar .boolean x = x := z_nar_b hin.2
        refine va_zast hx hb hcx.1 hP hD hS k0 (3 - 1) hk1 (z_tys1 (za κ) (by omega)) (z_in_vp hin.1) hd (fun H1 locs1 hP1 hD1 hS1 => ?_)
        rw [hnar] at hP1 hD1
        refine G _ _ _ _ _ _ _ _ _ _ e ⟨z_wd_set b2 hD hk0 hP1 hD1 ?_ (z_at_upd hA hV (fun _ _ => rfl) (fun q j' hq k => by rw [gI_pI, if_neg (fun z => hq ⟨z.1, z.2.1⟩)]) (fun _ _ _ _ => rfl) (fun _ _ _ _ => rfl) (fun k hr => hA.2.2.1 p1 j k hV hr) rfl) (z_size hz hS1), hS1, z_lo_mono lo (z_ex_rfl h loc) (z_le_pI h _ _ _ _), z_all_tail (z_all_tail (z_all_tail lvs)), ex, z_le_trans le (z_le_pI h _ _ _ _), ec, es⟩
        rw [z_en_int hk (by omega), z_upd_pI]
      · rw [if_neg hin] at e
        cases e
  · cases e
theorem w_lald (F : z_fx κ y d p R s m args meth c) (G : z_go κ h0 loc0 (z_ml y) p la ev R s m args below meth c Q K res) (r : z_rel κ s h0 loc0 (z_ml y) l st h loc H locs ls cells slots) (hd : decode (z_by y) pc = .ok (.laload, 1)) (e : o_ja K (pc + 1) l st h = some res) : W p la ev R s m args below meth c H locs cells slots Q (F0 m pc ls (st.map (z_rv loc))) := by
  obtain ⟨hx, hb, hml, hown, hts, hlk, hrt, hnm, hcx, hz, hRf, hRl⟩ := F
  obtain ⟨wd, hS, lo, lvs, ex, le, ec, es⟩ := r
  obtain ⟨L, f, hP, hD, hA, hzz⟩ := wd
  unfold o_ja at e
  split at e
  · next i p1 j st' =>
    cases hb2 : Nat.beq (z_kd p1) 4 with
    | false => rw [hb2] at e; cases e
    | true =>
      rw [hb2] at e
      have hk : p1 % 10 = 4 := Nat.eq_of_beq_eq_true hb2
      have e : (if z_in i (z_ln p1) then K (pc + 1) l (z_L (gJ h p1 j i.toNatClampNeg) :: st') h else none) = some res := e
      by_cases hin : z_in i (z_ln p1)
      · rw [if_pos hin] at e
        have hV : gV h p1 j = true := z_lv_kd hk (by omega) (z_all_head (z_all_tail lvs))
        obtain ⟨b1, b2, b3⟩ := hA.1 p1 j hV
        obtain ⟨k0, hk0⟩ := z_pl_get (f := f) b2
        rw [b3, z_en_long hk] at hk0
        refine va_lald hx hb hcx.1 hP k0 (4 - 1) hk0 (z_tys1 (za κ) (by omega)) (z_in_vp hin) hd ?_
        exact G _ _ _ _ _ _ _ _ _ _ e ⟨⟨L, f, hP, hD, hA, hzz⟩, hS, lo, z_all_cons trivial (z_all_tail (z_all_tail lvs)), ex, le, ec, es⟩
      · rw [if_neg hin] at e
        cases e
  · cases e
theorem w_last (F : z_fx κ y d p R s m args meth c) (G : z_go κ h0 loc0 (z_ml y) p la ev R s m args below meth c Q K res) (r : z_rel κ s h0 loc0 (z_ml y) l st h loc H locs ls cells slots) (hd : decode (z_by y) pc = .ok (.lastore, 1)) (e : o_jst K (pc + 1) l st h = some res) : W p la ev R s m args below meth c H locs cells slots Q (F0 m pc ls (st.map (z_rv loc))) := by
  obtain ⟨hx, hb, hml, hown, hts, hlk, hrt, hnm, hcx, hz, hRf, hRl⟩ := F
  obtain ⟨wd, hS, lo, lvs, ex, le, ec, es⟩ := r
  obtain ⟨L, f, hP, hD, hA, hzz⟩ := wd
  unfold o_jst at e
  split at e
  · next x i p1 j st' =>
    cases hb2 : Nat.beq (z_kd p1) 4 with
    | false => rw [hb2] at e; cases e
    | true =>
      rw [hb2] at e
      have hk : p1 % 10 = 4 := Nat.eq_of_beq_eq_true hb2
      have e : (if z_in i (z_ln p1) then K (pc + 1) l st' (pJ h p1 j i.toNatClampNeg x) else none) = some res := e
      by_cases hin : z_in i (z_ln p1)
      · rw [if_pos hin] at e
        have hV : gV h p1 j = true := z_lv_kd hk (by omega) (z_all_head (z_all_tail (z_all_tail lvs)))
        obtain ⟨b1, b2, b3⟩ := hA.1 p1 j hV
        obtain ⟨k0, hk0⟩ := z_pl_get (f := f) b2
        have hk1 := hk0
        rw [b3, z_en_long hk] at hk1
        refine va_last hx hb hcx.1 hP hD hS k0 (4 - 1) hk1 (z_tys1 (za κ) (by omega)) (z_in_vp hin) hd (fun H1 locs1 hP1 hD1 hS1 => ?_)
        refine G _ _ _ _ _ _ _ _ _ _ e ⟨z_wd_set b2 hD hk0 hP1 hD1 ?_ (z_at_upd hA hV (fun _ _ => rfl) (fun _ _ _ _ => rfl) (fun q j' hq k => by rw [gJ_pJ, if_neg (fun z => hq ⟨z.1, z.2.1⟩)]) (fun _ _ _ _ => rfl) (fun k hr => hA.2.2.1 p1 j k hV hr) rfl) (z_size hz hS1), hS1, z_lo_mono lo (z_ex_rfl h loc) (z_le_pJ h _ _ _ _), z_all_tail (z_all_tail (z_all_tail lvs)), ex, z_le_trans le (z_le_pJ h _ _ _ _), ec, es⟩
        rw [z_en_long hk, z_upd_pJ]
      · rw [if_neg hin] at e
        cases e
  · cases e
/-- where the class of a row of references stands in the list -/
def z_ti (p : Nat) : Nat := if z_ep p / 10 % 100 = 0 then 4 else if z_ep p / 10 % 100 = 4 then 5 else if z_ep p / 10 % 100 = 6 then 6 else 7
theorem z_tys5 (aC : Nat → ClassId) {p : Nat} (hp : p ∈ z_pools) (hk : p % 10 = 5) : (z_tys aC)[z_ti p]? = some (aC (10 + z_ep p / 10 % 100), .object (z_C (z_ep p / 10 % 100)).1) := by
  have h := (z_pool_ref p hp hk).2.2
  have hc : z_ep p / 10 % 100 = 0 ∨ z_ep p / 10 % 100 = 4 ∨ z_ep p / 10 % 100 = 6 ∨ z_ep p / 10 % 100 = 8 := by
    unfold z_ep
    repeat' split
    all_goals decide
  unfold z_ti
  rcases hc with h1 | h1 | h1 | h1 <;> rw [h1] <;> rfl
theorem w_aald (F : z_fx κ y d p R s m args meth c) (G : z_go κ h0 loc0 (z_ml y) p la ev R s m args below meth c Q K res) (r : z_rel κ s h0 loc0 (z_ml y) l st h loc H locs ls cells slots) {a cc ee : Nat} (hap : a ∈ z_pools) (ha : a % 10 = 5) (hc : z_ep a = cc) (hd : decode (z_by y) pc = .ok (.aaload, 1)) (e : o_aa K (pc + 1) l st h a cc ee = some res) : W p la ev R s m args below meth c H locs cells slots Q (F0 m pc ls (st.map (z_rv loc))) := by
  obtain ⟨hx, hb, hml, hown, hts, hlk, hrt, hnm, hcx, hz, hRf, hRl⟩ := F
  obtain ⟨wd, hS, lo, lvs, ex, le, ec, es⟩ := r
  obtain ⟨L, f, hP, hD, hA, hzz⟩ := wd
  unfold o_aa at e
  split at e
  · next i p1 j st' =>
    cases hb2 : Nat.beq p1 a with
    | false => rw [hb2] at e; cases e
    | true =>
      rw [hb2] at e
      have hpa : p1 = a := Nat.eq_of_beq_eq_true hb2
      subst hpa
      have hV : gV h p1 j = true := z_lv_pool hap (z_all_head (z_all_tail lvs))
      obtain ⟨b1, b2, b3⟩ := hA.1 p1 j hV
      obtain ⟨k0, hk0⟩ := z_pl_get (f := f) b2
      rw [b3, z_en_ref ha] at hk0
      by_cases hin : z_in i (z_ln p1)
      · simp only [cond_true, if_pos hin] at e
        refine va_aldq hx hb hcx.1 hP k0 (z_ti p1) hk0 (z_tys5 (za κ) hap ha) (z_in_vp hin) hd ?_
        have hlive : gR h p1 j i.toNatClampNeg ≠ 0 → gV h cc (gR h p1 j i.toNatClampNeg - 1) = true := by
          intro h3
          have := hA.2.2.1 p1 j i.toNatClampNeg hV h3
          unfold z_rp at this
          rw [if_neg (show ¬ p1 % 10 = 0 by omega), hc] at this
          exact this
        unfold z_rr
        split at e
        · by_cases h3 : gR h p1 j i.toNatClampNeg = 0
          · rw [if_pos h3] at e
            rw [if_pos h3]
            exact G _ _ _ _ _ _ _ _ _ _ e ⟨⟨L, f, hP, hD, hA, hzz⟩, hS, lo, z_all_cons trivial (z_all_tail (z_all_tail lvs)), ex, le, ec, es⟩
          · rw [if_neg h3] at e
            rw [if_neg h3, hc]
            exact G _ _ _ _ _ _ _ _ _ _ e ⟨⟨L, f, hP, hD, hA, hzz⟩, hS, lo, z_all_cons (Or.inl (hlive h3)) (z_all_tail (z_all_tail lvs)), ex, le, ec, es⟩
        · by_cases h3 : gR h p1 j i.toNatClampNeg = i.toNatClampNeg + 1
          · rw [if_pos h3] at e
            have h4 : gR h p1 j i.toNatClampNeg ≠ 0 := by omega
            have h5 := hlive h4
            rw [if_neg h4, hc, h3]
            rw [h3] at h5
            exact G _ _ _ _ _ _ _ _ _ _ e ⟨⟨L, f, hP, hD, hA, hzz⟩, hS, lo, z_all_cons (Or.inl h5) (z_all_tail (z_all_tail lvs)), ex, le, ec, es⟩
          · rw [if_neg h3] at e
            cases e
        · cases e
      · simp only [cond_true, if_neg hin] at e
        cases e
  · cases e
theorem w_aast (F : z_fx κ y d p R s m args meth c) (G : z_go κ h0 loc0 (z_ml y) p la ev R s m args below meth c Q K res) (r : z_rel κ s h0 loc0 (z_ml y) l st h loc H locs ls cells slots) {a cc : Nat} (hap : a ∈ z_pools) (ha : a % 10 = 5) (hc : z_ep a = cc) (hd : decode (z_by y) pc = .ok (.aastore, 1)) (e : o_ast K (pc + 1) l st h a cc = some res) : W p la ev R s m args below meth c H locs cells slots Q (F0 m pc ls (st.map (z_rv loc))) := by
  obtain ⟨hx, hb, hml, hown, hts, hlk, hrt, hnm, hcx, hz, hRf, hRl⟩ := F
  obtain ⟨wd, hS, lo, lvs, ex, le, ec, es⟩ := r
  obtain ⟨L, f, hP, hD, hA, hzz⟩ := wd
  unfold o_ast at e
  split at e
  · next p2 k i p1 j st' =>
    cases hb2 : (Nat.beq p1 a && Nat.beq p2 cc) with
    | false => rw [hb2] at e; cases e
    | true =>
      rw [hb2] at e
      simp only [Bool.and_eq_true] at hb2
      have hpa : p1 = a := Nat.eq_of_beq_eq_true hb2.1
      have hpc : p2 = cc := Nat.eq_of_beq_eq_true hb2.2
      subst hpa
      subst hpc
      have e : (if z_in i (z_ln p1) then K (pc + 1) l st' (pR h p1 j i.toNatClampNeg (k + 1)) else none) = some res := e
      by_cases hin : z_in i (z_ln p1)
      · rw [if_pos hin] at e
        have hr := z_pool_ref p1 hap ha
        rw [hc] at hr
        have hV : gV h p1 j = true := z_lv_pool hap (z_all_head (z_all_tail (z_all_tail lvs)))
        have hVk : gV h p2 k = true := z_lv_pool hr.1 (z_all_head lvs)
        obtain ⟨b1, b2, b3⟩ := hA.1 p1 j hV
        obtain ⟨k0, hk0⟩ := z_pl_get (f := f) b2
        have hk1 := hk0
        rw [b3, z_en_ref ha] at hk1
        obtain ⟨c1, c2, c3⟩ := hA.1 p2 k hVk
        obtain ⟨k2, hk2⟩ := z_pl_get (f := f) c2
        rw [c3, z_en_obj hr.2.1] at hk2
        have ho := z_pool_obj p2 hr.1 hr.2.1
        have hty := z_tys5 (za κ) hap ha
        rw [hc] at hty
        rw [hc] at hk1
        refine va_astq (r := z_C (p2 / 10 % 100)) hx hb hcx.1 hP hD hS k0 (z_ti p1) k2 (p2 / 10 % 100) hk1 hty hk2 (z_clsok _ ho.1) (z_in_vp hin) hd (fun H1 locs1 hP1 hD1 hS1 => ?_)
        refine G _ _ _ _ _ _ _ _ _ _ e ⟨z_wd_set b2 hD hk0 hP1 hD1 ?_ (z_at_upd hA hV (fun _ _ => rfl) (fun _ _ _ _ => rfl) (fun _ _ _ _ => rfl) (fun q j' hq k' => by rw [gR_pR, if_neg (fun z => hq ⟨z.1, z.2.1⟩)]) (fun k' hr' => ?_) rfl) (z_size hz hS1), hS1, z_lo_mono lo (z_ex_rfl h loc) (z_le_pR h _ _ _ _), z_all_tail (z_all_tail (z_all_tail lvs)), ex, z_le_trans le (z_le_pR h _ _ _ _), ec, es⟩
        · have hfe : va_up (z_rr loc h p1 j) i.toNatClampNeg (some (loc p2 k)) = z_rr loc (pR h p1 j i.toNatClampNeg (k + 1)) p1 j := by
            funext j'
            unfold va_up z_rr
            by_cases hj : j' = i.toNatClampNeg
            · have e1 : gR (pR h p1 j i.toNatClampNeg (k + 1)) p1 j j' = k + 1 := by rw [gR_pR, if_pos ⟨rfl, rfl, hj⟩]
              rw [if_pos hj, e1, if_neg (show ¬ k + 1 = 0 by omega), hc]
              rfl
            · have e1 : gR (pR h p1 j i.toNatClampNeg (k + 1)) p1 j j' = gR h p1 j j' := by rw [gR_pR, if_neg (fun z => hj z.2.2)]
              rw [if_neg hj, e1]
          rw [z_en_ref ha, hc, hfe]
        · rw [gR_pR] at hr' ⊢
          by_cases hj : k' = i.toNatClampNeg
          · rw [if_pos ⟨rfl, rfl, hj⟩]
            unfold z_rp
            rw [if_neg (show ¬ p1 % 10 = 0 by omega), hc]
            exact hVk
          · rw [if_neg (fun z => hj z.2.2)] at hr' ⊢
            exact hA.2.2.1 p1 j k' hV hr'
      · rw [if_neg hin] at e
        cases e
  · cases e
theorem w_alen (F : z_fx κ y d p R s m args meth c) (G : z_go κ h0 loc0 (z_ml y) p la ev R s m args below meth c Q K res) (r : z_rel κ s h0 loc0 (z_ml y) l st h loc H locs ls cells slots) (hd : decode (z_by y) pc = .ok (.arraylength, 1)) (e : o_len K (pc + 1) l st h = some res) : W p la ev R s m args below meth c H locs cells slots Q (F0 m pc ls (st.map (z_rv loc))) := by
  obtain ⟨hx, hb, hml, hown, hts, hlk, hrt, hnm, hcx, hz, hRf, hRl⟩ := F
  obtain ⟨wd, hS, lo, lvs, ex, le, ec, es⟩ := r
  obtain ⟨L, f, hP, hD, hA, hzz⟩ := wd
  unfold o_len at e
  split at e
  · next p1 j st' =>
    cases hb2 : Nat.beq (z_kd p1) 1 with
    | false =>
      rw [hb2] at e
      have e : (bif Nat.beq p1 7 then K (pc + 1) l (z_I (Int32.ofNat (gN h 7)) :: st') h else bif Nat.beq p1 9 then K (pc + 1) l (z_I (Int32.ofNat (z_tn j)) :: st') h else none) = some res := e
      cases hb3 : Nat.beq p1 7 with
      | false =>
        rw [hb3] at e
        have e : (bif Nat.beq p1 9 then K (pc + 1) l (z_I (Int32.ofNat (z_tn j)) :: st') h else none) = some res := e
        cases hb4 : Nat.beq p1 9 with
        | false => rw [hb4] at e; cases e
        | true =>
          rw [hb4] at e
          have h9 : p1 = 9 := Nat.eq_of_beq_eq_true hb4
          subst h9
          have hj : j < 8 := by
            rcases z_all_head lvs with q | q | q
            · exact absurd rfl (z_pool_7 9 (hA.1 9 j q).1).2.2
            · omega
            · exact q.2
          have q2 := (hA.2.2.2.2.1 j hj).2
          have hT := (hcx.2.2.2.2.2.1.1.1 j hj).2.2.2
          show W p la ev R s m args below meth c H locs cells slots Q (F0 m pc ls (.ref (loc 9 j) :: st'.map (z_rv loc)))
          rw [q2]
          refine va_tlen hx hb hT hS rfl hd ?_
          exact G _ _ _ _ _ _ _ _ _ _ e ⟨⟨L, f, hP, hD, hA, hzz⟩, hS, lo, z_all_cons trivial (z_all_tail lvs), ex, le, ec, es⟩
      | true =>
        rw [hb3] at e
        have h7 : p1 = 7 := Nat.eq_of_beq_eq_true hb3
        subst h7
        have hj : j = 0 := by
          rcases z_all_head lvs with q | q | q
          · exact absurd rfl (z_pool_7 7 (hA.1 7 j q).1).1
          · exact q.2
          · omega
        subst hj
        obtain ⟨q1, q2, q3, q4⟩ := hA.2.2.2
        obtain ⟨x1, x2⟩ := hcx.2.2.2.2.1
        show W p la ev R s m args below meth c H locs cells slots Q (F0 m pc ls (.ref (loc 7 0) :: st'.map (z_rv loc)))
        rw [q1]
        refine va_slen hx hb x1 (by omega) (show ¬ z_fr κ (zb κ) from fun z => by have z : zz κ ≤ zb κ := z; omega) hS hd ?_
        rw [← q3]
        exact G _ _ _ _ _ _ _ _ _ _ e ⟨⟨L, f, hP, hD, hA, hzz⟩, hS, lo, z_all_cons trivial (z_all_tail lvs), ex, le, ec, es⟩
    | true =>
      rw [hb2] at e
      have hk : p1 % 10 = 1 := Nat.eq_of_beq_eq_true hb2
      have hV : gV h p1 j = true := z_lv_kd hk (by omega) (z_all_head lvs)
      obtain ⟨b1, b2, b3⟩ := hA.1 p1 j hV
      obtain ⟨k0, hk0⟩ := z_pl_get (f := f) b2
      rw [b3, z_en_int hk (by omega)] at hk0
      refine va_alen hx hb hcx.1 hP k0 (1 - 1) hk0 (z_tys1 (za κ) (by omega)) rfl hd ?_
      exact G _ _ _ _ _ _ _ _ _ _ e ⟨⟨L, f, hP, hD, hA, hzz⟩, hS, lo, z_all_cons trivial (z_all_tail lvs), ex, le, ec, es⟩
  · cases e
end
