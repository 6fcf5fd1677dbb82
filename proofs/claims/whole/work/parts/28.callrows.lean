/-! ===== rows of calls ===== -/
theorem z_split {st : List z_V} {n : Nat} (h : n + 1 ≤ st.length) : ∃ (i : List z_V) (w : z_V), st.take (n + 1) = i ++ [w] ∧ i.length = n ∧ st = i ++ w :: st.drop (n + 1) := by
  have hn : n < st.length := by omega
  refine ⟨st.take n, st[n], ?_, by simp; omega, ?_⟩
  · rw [List.take_append_getElem hn]
  · rw [List.getElem_cons_drop hn, List.take_append_drop]
section
variable {κ : z_Q} {y d : Nat} {h0 : z_H} {loc0 : Nat → Nat → Nat} {p : Program} {la : Launch} {ev : Env} {R : Room} {s : State} {m : MethodId} {args : Array Value} {below : List Frame} {meth : Method} {c : Code} {Q : State → Prop} {K : z_K} {res : z_A} {pc : Nat} {l st : List z_V} {h : z_H} {loc : Nat → Nat → Nat} {H : Heap} {locs : List Loc} {ls : Array Slot} {cells slots : Nat}
theorem z_after {rest : List z_V} {v : Option z_V} {h1 : z_H} {a : Array Value} {stk : List Value} (G : z_go κ h0 loc0 (z_ml y) p la ev R s m args below meth c Q K res) (r : z_rel κ s h0 loc0 (z_ml y) l st h loc H locs ls cells slots)
    (hr : va_Run p la ev R s m args below meth c H locs cells slots (gC h1 - gC h) (gS h1 - gS h) (F0 m pc ls stk) (rest.map (z_rv loc)) (z_Qc κ loc h v h1 a) (z_fr κ)) (hle : z_le h h1) (hrest : ∀ w ∈ rest, z_lv h w) (e : K (pc + 3) l (z_ps v rest) h1 = some res) :
    W p la ev R s m args below meth c H locs cells slots Q (F0 m pc ls stk) := by
  obtain ⟨wd, hS, lo, lvs, ex, le, ec, es⟩ := r
  intro T hT X
  obtain ⟨vv, st₀, t, T', L, h0', X', hL, e1, e2, ⟨loc', q1, q2, q3, q4, q5⟩, hst⟩ := hr T hT X
  have q2 : vv = v.map (z_rv loc') := by cases q2; rfl
  subst q2
  have hS' : va_S (z_fr κ) s.heap T'.heap (locs ++ L) := by
    refine ⟨Nat.le_trans hS.1 (by rw [e1, ← h0']; exact q5.1), fun q h1 h2 => ?_, fun q hq => ?_⟩
    · rw [e1, q5.2 q (by rw [h0']; exact Nat.lt_of_lt_of_le h1 hS.1) h2, h0']
      exact hS.2.1 q h1 h2
    · rcases List.mem_append.mp hq with hq | hq
      · exact hS.2.2 q hq
      · exact hL q hq
  have hst2 : ∀ w ∈ z_ps v rest, z_lv h1 w := by
    intro w hw
    cases v with
    | none => exact z_lv_mono hle (hrest w hw)
    | some x =>
      rcases List.mem_cons.mp hw with rfl | hw
      · exact q3 _ rfl
      · exact z_lv_mono hle (hrest w hw)
  have hg1 := le.1
  have hg2 := le.2.1
  have hg3 := hle.1
  have hg4 := hle.2.1
  have w := G _ _ _ _ loc' T'.heap (locs ++ L) ls (cells + (gC h1 - gC h)) (slots + (gS h1 - gS h)) e ⟨by rw [e1]; exact q4, hS', z_lo_mono lo q1 hle, hst2, z_ex_trans le ex q1, z_le_trans le hle, by omega, by omega⟩
  obtain ⟨t2, a1, b1⟩ := w T' rfl X'
  refine ⟨t2, hst t2 ?_, b1⟩
  have hq : (z_ps v rest).map (z_rv loc') = (v.map (z_rv loc')).toList ++ rest.map (z_rv loc) := by
    cases v with
    | none => exact z_st_ex q1 hrest
    | some x =>
      show z_rv loc' x :: rest.map (z_rv loc') = z_rv loc' x :: rest.map (z_rv loc)
      rw [z_st_ex q1 hrest]
  rw [hq] at a1
  exact a1
theorem w_calls (F : z_fx κ y d p R s m args meth c) (G : z_go κ h0 loc0 (z_ml y) p la ev R s m args below meth c Q K res) (r : z_rel κ s h0 loc0 (z_ml y) l st h loc H locs ls cells slots) (Sd : z_snd la d) (hmo : ∀ pc l st h, K pc l st h = some res → z_le h res.2) (hro : gC res.2 - gC h0 ≤ R.cells ∧ gS res.2 - gS h0 ≤ R.slots) {k b n : Nat} (hbl : b < 250) (hl : (z_oc y, k, b) ∈ z_MT.map (fun q => q.1)) (hs : (b, 0) ∈ z_M3.map (fun q => q.1)) (hn : n = z_na b) (hd : decode (z_by y) pc = .ok (.invokestatic k, 3)) (e : o_call K (pc + 3) l st h (Rn d) b n 0 = some res) : W p la ev R s m args below meth c H locs cells slots Q (F0 m pc ls (st.map (z_rv loc))) := by
  obtain ⟨hx, hb, hml, hown, hts, hlk, hrt, hnm, hcx, hz, hRf, hRl⟩ := F
  unfold o_call at e
  cases hb2 : (Nat.ble n st.length && Nat.ble (z_cs (st.drop n)) 8 && (Nat.beq 0 0 || z_rc ((st.take n).getLastD z_U) 0)) with
  | false => rw [hb2] at e; cases e
  | true =>
    rw [hb2] at e
    simp only [Bool.and_eq_true] at hb2
    have hlen : n ≤ st.length := Nat.le_of_ble_eq_true hb2.1.1
    have h8 : z_cs (st.drop n) ≤ 8 := Nat.le_of_ble_eq_true hb2.1.2
    have e : z_cl (Rn d b (st.take n).reverse h) (fun v h' => K (pc + 3) l (z_ps v (st.drop n)) h') = some res := e
    cases hR : Rn d b (st.take n).reverse h with
    | none => rw [hR] at e; cases e
    | some vh =>
      obtain ⟨v, h1⟩ := vh
      rw [hR] at e
      have e : K (pc + 3) l (z_ps v (st.drop n)) h1 = some res := e
      have hle : z_le h h1 := Rn_gr d _ _ _ _ _ hR
      have hm := hmo _ _ _ _ e
      have hM := Sd κ b _ _ _ _ loc hbl hR
      have hdrop : ∀ w ∈ st.drop n, z_lv h w := fun w hw => r.2.2.2.1 w (List.mem_of_mem_drop hw)
      have hW8 : 2 * (F0 m pc ls (st.map (z_rv loc))).monitorRoom + (((st.drop n).map (z_rv loc)).map fun v => v.category).sum ≤ 8 := lv_room (by rw [z_cs_rv]; exact h8)
      have hfit : cells + (gC h1 - gC h) ≤ R.cells ∧ slots + (gS h1 - gS h) ≤ R.slots := by
        obtain ⟨wd, hS, lo, lvs, ex, le, ec, es⟩ := r
        have g1 := le.1
        have g2 := le.2.1
        have g3 := hle.1
        have g4 := hle.2.1
        have g5 := hm.1
        have g6 := hm.2.1
        constructor <;> omega
      have hroom : (z_rm d (gC h1 - gC h) (gS h1 - gS h)).frames + 1 ≤ R.frames ∧ 8 + (z_ml b + 11) + (z_rm d (gC h1 - gC h) (gS h1 - gS h)).locals ≤ R.locals := by
        have hml2 := z_mf2 b hbl
        refine ⟨hRf, ?_⟩
        show 8 + (z_ml b + 11) + 64 * d ≤ R.locals
        omega
      have hmf := z_mf4 b hbl
      have hpre : ∀ (A : Array Value) (U : State), A = (((st.take n).reverse).map (z_rv loc)).toArray → U.heap = H → s.WarmedH U.vm → z_Pc κ loc h (st.take n).reverse A U := by
        intro A U hA hU hWm
        refine ⟨hA, fun w hw => r.2.2.2.1 w (List.mem_of_mem_take (List.mem_reverse.mp hw)), by rw [hU]; exact r.1, z_cx_move hcx hz r.2.1 hU hWm⟩

      have hG : GoodIn z_ws (va_wsS (z_on (z_oc y)) k (z_mn b) (z_wsy b)) := by
        intro w hw
        unfold va_wsS at hw
        rcases List.mem_append.mp hw with hw | hw
        · have hw2 : w ∈ z_ws := by
            simp only [List.mem_cons, List.not_mem_nil, or_false] at hw
            rcases hw with rfl | rfl | rfl
            · exact z_MT_ok _ hl
            · exact z_M3_ok _ hs
            · exact z_M2_ok _ (z_m2 b hbl)
          exact z_good w hw2
        · exact z_goody hbl w hw
      have hrun := va_runS (g := F0 m pc ls (st.map (z_rv loc))) (As := ((st.take n).reverse).map (z_rv loc)) (rest := (st.drop n).map (z_rv loc)) (nL := z_ml y) (cells := cells) (slots := slots) (H := H) (locs := locs) (e := ev) (below := below) (meth := meth) (R := R) (Ts := z_ws) ⟨hx, hb, hml, hown, hts⟩ hM (va_cwS (z_na b) hts hG rfl rfl rfl ⟨hmf.1, hmf.2, z_mf3 b hbl⟩ hroom) ⟨z_blind κ loc h _, fun U hU hWm => hpre _ U rfl hU hWm⟩ rfl (by simp [hn]; omega) r.2.2.1.2.1 (by rw [← List.map_reverse, List.reverse_reverse, ← List.map_append, List.take_append_drop]) hW8 hd hfit
      exact z_after G r hrun hle hdrop e
theorem w_callv (F : z_fx κ y d p R s m args meth c) (G : z_go κ h0 loc0 (z_ml y) p la ev R s m args below meth c Q K res) (r : z_rel κ s h0 loc0 (z_ml y) l st h loc H locs ls cells slots) (Sd : z_snd la d) (hmo : ∀ pc l st h, K pc l st h = some res → z_le h res.2) (hro : gC res.2 - gC h0 ≤ R.cells ∧ gS res.2 - gS h0 ≤ R.slots) {k b n q : Nat} (hbl : b < 250) (hl : (z_oc y, k, b) ∈ z_MT.map (fun q => q.1)) (hi : (b, 0) ∈ z_M4.map (fun q => q.1)) (hse : (b, 0) ∈ z_M5.map (fun q => q.1)) (hn : n = z_na b + 1) (hq0 : q ≠ 0) (hq : (q = 8 ∧ (z_mn b).cls = "java/lang/String") ∨ (q ∈ z_pools ∧ q % 10 = 0 ∧ (z_mn b).cls = (z_C (q / 10 % 100)).1)) (hd : decode (z_by y) pc = .ok (.invokevirtual k, 3)) (e : o_call K (pc + 3) l st h (Rn d) b n q = some res) : W p la ev R s m args below meth c H locs cells slots Q (F0 m pc ls (st.map (z_rv loc))) := by
  obtain ⟨hx, hb, hml, hown, hts, hlk, hrt, hnm, hcx, hz, hRf, hRl⟩ := F
  unfold o_call at e
  cases hb2 : (Nat.ble n st.length && Nat.ble (z_cs (st.drop n)) 8 && (Nat.beq q 0 || z_rc ((st.take n).getLastD z_U) q)) with
  | false => rw [hb2] at e; cases e
  | true =>
    rw [hb2] at e
    simp only [Bool.and_eq_true] at hb2
    have hlen : n ≤ st.length := Nat.le_of_ble_eq_true hb2.1.1
    have h8 : z_cs (st.drop n) ≤ 8 := Nat.le_of_ble_eq_true hb2.1.2
    have e : z_cl (Rn d b (st.take n).reverse h) (fun v h' => K (pc + 3) l (z_ps v (st.drop n)) h') = some res := e
    cases hR : Rn d b (st.take n).reverse h with
    | none => rw [hR] at e; cases e
    | some vh =>
      obtain ⟨v, h1⟩ := vh
      rw [hR] at e
      have e : K (pc + 3) l (z_ps v (st.drop n)) h1 = some res := e
      have hle : z_le h h1 := Rn_gr d _ _ _ _ _ hR
      have hm := hmo _ _ _ _ e
      have hM := Sd κ b _ _ _ _ loc hbl hR
      have hdrop : ∀ w ∈ st.drop n, z_lv h w := fun w hw => r.2.2.2.1 w (List.mem_of_mem_drop hw)
      have hW8 : 2 * (F0 m pc ls (st.map (z_rv loc))).monitorRoom + (((st.drop n).map (z_rv loc)).map fun v => v.category).sum ≤ 8 := lv_room (by rw [z_cs_rv]; exact h8)
      have hfit : cells + (gC h1 - gC h) ≤ R.cells ∧ slots + (gS h1 - gS h) ≤ R.slots := by
        obtain ⟨wd, hS, lo, lvs, ex, le, ec, es⟩ := r
        have g1 := le.1
        have g2 := le.2.1
        have g3 := hle.1
        have g4 := hle.2.1
        have g5 := hm.1
        have g6 := hm.2.1
        constructor <;> omega
      have hroom : (z_rm d (gC h1 - gC h) (gS h1 - gS h)).frames + 1 ≤ R.frames ∧ 8 + (z_ml b + 11) + (z_rm d (gC h1 - gC h) (gS h1 - gS h)).locals ≤ R.locals := by
        have hml2 := z_mf2 b hbl
        refine ⟨hRf, ?_⟩
        show 8 + (z_ml b + 11) + 64 * d ≤ R.locals
        omega
      have hmf := z_mf4 b hbl
      have hpre : ∀ (A : Array Value) (U : State), A = (((st.take n).reverse).map (z_rv loc)).toArray → U.heap = H → s.WarmedH U.vm → z_Pc κ loc h (st.take n).reverse A U := by
        intro A U hA hU hWm
        refine ⟨hA, fun w hw => r.2.2.2.1 w (List.mem_of_mem_take (List.mem_reverse.mp hw)), by rw [hU]; exact r.1, z_cx_move hcx hz r.2.1 hU hWm⟩
      obtain ⟨ini, wl, g1, g2, g3⟩ := z_split (n := z_na b) (st := st) (by omega)
      rw [← hn] at g1 g3
      have hrev : (st.take n).reverse = wl :: ini.reverse := by rw [g1, List.reverse_append]; rfl
      have hlast : (st.take n).getLastD z_U = wl := by rw [g1]; simp
      have hwl : wl ∈ st := by rw [g3]; simp
      have hlw := r.2.2.2.1 wl hwl
      have hrc : z_rc wl q = true := by
        have := hb2.2
        rw [hlast] at this
        simp only [Bool.or_eq_true] at this
        rcases this with this | this
        · exact absurd (Nat.eq_of_beq_eq_true this) hq0
        · exact this
      have hstk : st.map (z_rv loc) = (ini.reverse.map (z_rv loc)).reverse ++ z_rv loc wl :: (st.drop n).map (z_rv loc) := by
        conv => lhs; rw [g3]
        rw [← List.map_reverse, List.reverse_reverse, List.map_append, List.map_cons]
      obtain ⟨i0, hwl2⟩ : ∃ i0, wl = z_R q i0 := by
        rcases wl with x | x | ⟨p9, i9⟩ | b9
        · cases hrc
        · cases hrc
        · exact ⟨i9, by rw [Nat.eq_of_beq_eq_true hrc]⟩
        · cases hrc
      subst hwl2
      rw [hrev] at hpre hM

      have hG : GoodIn z_ws (wsV (z_on (z_oc y)) k (z_mn b).cls (z_mn b) (z_wsy b)) := by
        intro w hw
        unfold wsV at hw
        rcases List.mem_append.mp hw with hw | hw
        · have hw2 : w ∈ z_ws := by
            simp only [List.mem_cons, List.not_mem_nil, or_false] at hw
            rcases hw with rfl | rfl | rfl | rfl
            · exact z_MT_ok _ hl
            · exact z_M4_ok _ hi
            · exact z_M5_ok _ hse
            · exact z_M2_ok _ (z_m2 b hbl)
          exact z_good w hw2
        · exact z_goody hbl w hw
      have hrecv : ∃ cellB : Cell, H[loc q i0]? = some cellB ∧ cellB.vm.isStatics = false ∧ s.vm.findClass (z_mn b).cls = some cellB.cls := by
        obtain ⟨wd, hS, lo, lvs, ex, le, ec, es⟩ := r
        obtain ⟨L, f, hP, hD, hA, hzz⟩ := wd
        rcases hq with ⟨rfl, hcl⟩ | ⟨hqp, hq1, hcl⟩
        · have hi8 : i0 < 8 := by
            rcases hlw with z | z | z
            · exact absurd rfl (z_pool_7 8 (hA.1 8 i0 z).1).2.1
            · omega
            · exact z.2
          rw [(hA.2.2.2.2.1 i0 hi8).1, hcl]
          exact vk_recv hcx.2.2.2.2.2.1.1 hi8 hS
        · have hV := z_lv_pool hqp hlw
          obtain ⟨b1, b2, b3⟩ := hA.1 q i0 hV
          obtain ⟨k0, hk0⟩ := z_pl_get (f := f) b2
          have ho := z_pool_obj q b1 hq1
          rw [b3, z_en_obj hq1] at hk0
          rw [hcl]
          exact va_recv hcx.1 hP (z_clsok _ ho.1) hk0
      have hrun := va_runV (g := F0 m pc ls (st.map (z_rv loc))) (b := loc q i0) (C := (z_mn b).cls) (As := (ini.reverse).map (z_rv loc)) (rest := (st.drop n).map (z_rv loc)) (nL := z_ml y) (cells := cells) (slots := slots) (H := H) (locs := locs) (e := ev) (below := below) (meth := meth) (R := R) (Ts := z_ws) ⟨hx, hb, hml, hown, hts⟩ hM (cwV (z_na b) hts hG rfl rfl rfl ⟨rfl, hmf.1, hmf.2, z_mf3 b hbl⟩ hroom) ⟨z_blind κ loc h _, hrecv, fun U hU hWm => hpre _ U rfl hU hWm⟩ rfl (by simp [g2]) r.2.2.1.2.1 hstk hW8 hd hfit
      exact z_after G r hrun hle hdrop e
theorem w_calli (F : z_fx κ y d p R s m args meth c) (G : z_go κ h0 loc0 (z_ml y) p la ev R s m args below meth c Q K res) (r : z_rel κ s h0 loc0 (z_ml y) l st h loc H locs ls cells slots) (Sd : z_snd la d) (hmo : ∀ pc l st h, K pc l st h = some res → z_le h res.2) (hro : gC res.2 - gC h0 ≤ R.cells ∧ gS res.2 - gS h0 ≤ R.slots) {k b n q : Nat} (hbl : b < 250) (hl : (z_oc y, k, b) ∈ z_MT.map (fun q => q.1)) (hi : (b, 0) ∈ z_M4.map (fun q => q.1)) (hna : (z_mn b).name = "<init>") (hrt0 : z_rt b = none) (hn : n = z_na b + 1) (hq0 : q ≠ 0) (hd : decode (z_by y) pc = .ok (.invokespecial k, 3)) (e : o_call K (pc + 3) l st h (Rn d) b n q = some res) : W p la ev R s m args below meth c H locs cells slots Q (F0 m pc ls (st.map (z_rv loc))) := by
  obtain ⟨hx, hb, hml, hown, hts, hlk, hrt, hnm, hcx, hz, hRf, hRl⟩ := F
  unfold o_call at e
  cases hb2 : (Nat.ble n st.length && Nat.ble (z_cs (st.drop n)) 8 && (Nat.beq q 0 || z_rc ((st.take n).getLastD z_U) q)) with
  | false => rw [hb2] at e; cases e
  | true =>
    rw [hb2] at e
    simp only [Bool.and_eq_true] at hb2
    have hlen : n ≤ st.length := Nat.le_of_ble_eq_true hb2.1.1
    have h8 : z_cs (st.drop n) ≤ 8 := Nat.le_of_ble_eq_true hb2.1.2
    have e : z_cl (Rn d b (st.take n).reverse h) (fun v h' => K (pc + 3) l (z_ps v (st.drop n)) h') = some res := e
    cases hR : Rn d b (st.take n).reverse h with
    | none => rw [hR] at e; cases e
    | some vh =>
      obtain ⟨v, h1⟩ := vh
      rw [hR] at e
      have e : K (pc + 3) l (z_ps v (st.drop n)) h1 = some res := e
      have hle : z_le h h1 := Rn_gr d _ _ _ _ _ hR
      have hm := hmo _ _ _ _ e
      have hM := Sd κ b _ _ _ _ loc hbl hR
      have hdrop : ∀ w ∈ st.drop n, z_lv h w := fun w hw => r.2.2.2.1 w (List.mem_of_mem_drop hw)
      have hW8 : 2 * (F0 m pc ls (st.map (z_rv loc))).monitorRoom + (((st.drop n).map (z_rv loc)).map fun v => v.category).sum ≤ 8 := lv_room (by rw [z_cs_rv]; exact h8)
      have hfit : cells + (gC h1 - gC h) ≤ R.cells ∧ slots + (gS h1 - gS h) ≤ R.slots := by
        obtain ⟨wd, hS, lo, lvs, ex, le, ec, es⟩ := r
        have g1 := le.1
        have g2 := le.2.1
        have g3 := hle.1
        have g4 := hle.2.1
        have g5 := hm.1
        have g6 := hm.2.1
        constructor <;> omega
      have hroom : (z_rm d (gC h1 - gC h) (gS h1 - gS h)).frames + 1 ≤ R.frames ∧ 8 + (z_ml b + 11) + (z_rm d (gC h1 - gC h) (gS h1 - gS h)).locals ≤ R.locals := by
        have hml2 := z_mf2 b hbl
        refine ⟨hRf, ?_⟩
        show 8 + (z_ml b + 11) + 64 * d ≤ R.locals
        omega
      have hmf := z_mf4 b hbl
      have hpre : ∀ (A : Array Value) (U : State), A = (((st.take n).reverse).map (z_rv loc)).toArray → U.heap = H → s.WarmedH U.vm → z_Pc κ loc h (st.take n).reverse A U := by
        intro A U hA hU hWm
        refine ⟨hA, fun w hw => r.2.2.2.1 w (List.mem_of_mem_take (List.mem_reverse.mp hw)), by rw [hU]; exact r.1, z_cx_move hcx hz r.2.1 hU hWm⟩
      obtain ⟨ini, wl, g1, g2, g3⟩ := z_split (n := z_na b) (st := st) (by omega)
      rw [← hn] at g1 g3
      have hrev : (st.take n).reverse = wl :: ini.reverse := by rw [g1, List.reverse_append]; rfl
      have hlast : (st.take n).getLastD z_U = wl := by rw [g1]; simp
      have hwl : wl ∈ st := by rw [g3]; simp
      have hlw := r.2.2.2.1 wl hwl
      have hrc : z_rc wl q = true := by
        have := hb2.2
        rw [hlast] at this
        simp only [Bool.or_eq_true] at this
        rcases this with this | this
        · exact absurd (Nat.eq_of_beq_eq_true this) hq0
        · exact this
      have hstk : st.map (z_rv loc) = (ini.reverse.map (z_rv loc)).reverse ++ z_rv loc wl :: (st.drop n).map (z_rv loc) := by
        conv => lhs; rw [g3]
        rw [← List.map_reverse, List.reverse_reverse, List.map_append, List.map_cons]
      obtain ⟨i0, hwl2⟩ : ∃ i0, wl = z_R q i0 := by
        rcases wl with x | x | ⟨p9, i9⟩ | b9
        · cases hrc
        · cases hrc
        · exact ⟨i9, by rw [Nat.eq_of_beq_eq_true hrc]⟩
        · cases hrc
      subst hwl2
      rw [hrev] at hpre hM

      have hrun := va_runI (g := F0 m pc ls (st.map (z_rv loc))) (b := loc q i0) (As := (ini.reverse).map (z_rv loc)) (rest := (st.drop n).map (z_rv loc)) (nL := z_ml y) (cells := cells) (slots := slots) (H := H) (locs := locs) (e := ev) (below := below) (meth := meth) (R := R) (Ts := z_ws) ⟨hx, hb, hml, hown, hts⟩ hM (cwI (bytes := z_by b) (maxL := z_ml b) (ws' := z_ws) (z_na b) hts (z_goody hbl) (by rw [z_wsy, hrt0]) rfl rfl (hts _ (z_M2_ok _ (z_m2 b hbl))) (hts _ (z_MT_ok _ hl)) (hts _ (z_M4_ok _ hi)) hna ⟨hmf.1, hmf.2, z_mf3 b hbl⟩ hroom) ⟨z_blind κ loc h _, fun U hU hWm => hpre _ U rfl hU hWm⟩ rfl (by simp [g2]) r.2.2.1.2.1 hstk hW8 hd hfit
      exact z_after G r hrun hle hdrop e
theorem w_calln (F : z_fx κ y d p R s m args meth c) (G : z_go κ h0 loc0 (z_ml y) p la ev R s m args below meth c Q K res) (r : z_rel κ s h0 loc0 (z_ml y) l st h loc H locs ls cells slots) (Sd : z_snd la d) (hmo : ∀ pc l st h, K pc l st h = some res → z_le h res.2) (hro : gC res.2 - gC h0 ≤ R.cells ∧ gS res.2 - gS h0 ≤ R.slots) {k b n q : Nat} (hbl : b < 250) (hl : (z_oc y, k, b) ∈ z_NT) (hi : (b, 0) ∈ z_M4.map (fun q => q.1)) (hna : (z_mn b).name = "<init>") (hrt0 : z_rt b = none) (hn : n = z_na b + 1) (hq0 : q ≠ 0) (hd : decode (z_by y) pc = .ok (.invokespecial k, 3)) (e : o_call K (pc + 3) l st h (Rn d) b n q = some res) : W p la ev R s m args below meth c H locs cells slots Q (F0 m pc ls (st.map (z_rv loc))) := by
  obtain ⟨hx, hb, hml, hown, hts, hlk, hrt, hnm, hcx, hz, hRf, hRl⟩ := F
  unfold o_call at e
  cases hb2 : (Nat.ble n st.length && Nat.ble (z_cs (st.drop n)) 8 && (Nat.beq q 0 || z_rc ((st.take n).getLastD z_U) q)) with
  | false => rw [hb2] at e; cases e
  | true =>
    rw [hb2] at e
    simp only [Bool.and_eq_true] at hb2
    have hlen : n ≤ st.length := Nat.le_of_ble_eq_true hb2.1.1
    have h8 : z_cs (st.drop n) ≤ 8 := Nat.le_of_ble_eq_true hb2.1.2
    have e : z_cl (Rn d b (st.take n).reverse h) (fun v h' => K (pc + 3) l (z_ps v (st.drop n)) h') = some res := e
    cases hR : Rn d b (st.take n).reverse h with
    | none => rw [hR] at e; cases e
    | some vh =>
      obtain ⟨v, h1⟩ := vh
      rw [hR] at e
      have e : K (pc + 3) l (z_ps v (st.drop n)) h1 = some res := e
      have hle : z_le h h1 := Rn_gr d _ _ _ _ _ hR
      have hm := hmo _ _ _ _ e
      have hM := Sd κ b _ _ _ _ loc hbl hR
      have hdrop : ∀ w ∈ st.drop n, z_lv h w := fun w hw => r.2.2.2.1 w (List.mem_of_mem_drop hw)
      have hW8 : 2 * (F0 m pc ls (st.map (z_rv loc))).monitorRoom + (((st.drop n).map (z_rv loc)).map fun v => v.category).sum ≤ 8 := lv_room (by rw [z_cs_rv]; exact h8)
      have hfit : cells + (gC h1 - gC h) ≤ R.cells ∧ slots + (gS h1 - gS h) ≤ R.slots := by
        obtain ⟨wd, hS, lo, lvs, ex, le, ec, es⟩ := r
        have g1 := le.1
        have g2 := le.2.1
        have g3 := hle.1
        have g4 := hle.2.1
        have g5 := hm.1
        have g6 := hm.2.1
        constructor <;> omega
      have hroom : (z_rm d (gC h1 - gC h) (gS h1 - gS h)).frames + 1 ≤ R.frames ∧ 8 + (z_ml b + 11) + (z_rm d (gC h1 - gC h) (gS h1 - gS h)).locals ≤ R.locals := by
        have hml2 := z_mf2 b hbl
        refine ⟨hRf, ?_⟩
        show 8 + (z_ml b + 11) + 64 * d ≤ R.locals
        omega
      have hmf := z_mf4 b hbl
      have hpre : ∀ (A : Array Value) (U : State), A = (((st.take n).reverse).map (z_rv loc)).toArray → U.heap = H → s.WarmedH U.vm → z_Pc κ loc h (st.take n).reverse A U := by
        intro A U hA hU hWm
        refine ⟨hA, fun w hw => r.2.2.2.1 w (List.mem_of_mem_take (List.mem_reverse.mp hw)), by rw [hU]; exact r.1, z_cx_move hcx hz r.2.1 hU hWm⟩
      obtain ⟨ini, wl, g1, g2, g3⟩ := z_split (n := z_na b) (st := st) (by omega)
      rw [← hn] at g1 g3
      have hrev : (st.take n).reverse = wl :: ini.reverse := by rw [g1, List.reverse_append]; rfl
      have hlast : (st.take n).getLastD z_U = wl := by rw [g1]; simp
      have hwl : wl ∈ st := by rw [g3]; simp
      have hlw := r.2.2.2.1 wl hwl
      have hrc : z_rc wl q = true := by
        have := hb2.2
        rw [hlast] at this
        simp only [Bool.or_eq_true] at this
        rcases this with this | this
        · exact absurd (Nat.eq_of_beq_eq_true this) hq0
        · exact this
      have hstk : st.map (z_rv loc) = (ini.reverse.map (z_rv loc)).reverse ++ z_rv loc wl :: (st.drop n).map (z_rv loc) := by
        conv => lhs; rw [g3]
        rw [← List.map_reverse, List.reverse_reverse, List.map_append, List.map_cons]
      obtain ⟨i0, hwl2⟩ : ∃ i0, wl = z_R q i0 := by
        rcases wl with x | x | ⟨p9, i9⟩ | b9
        · cases hrc
        · cases hrc
        · exact ⟨i9, by rw [Nat.eq_of_beq_eq_true hrc]⟩
        · cases hrc
      subst hwl2
      rw [hrev] at hpre hM

      have hNw : va_Nw (.methodLinkNest (z_on (z_oc y)) k (z_mn b) "DaughterTongues") s := by
        obtain ⟨c1, c2, c3, c4⟩ := hcx
        exact c3 (z_oc y, k, b) hl
      have hcn := va_cnB (own := z_on (z_oc y)) (host := "DaughterTongues") (index := k) (y := z_mn b) (bytes := z_by b) (maxL := z_ml b) (ret := none) (ws := z_wsy b) (ws' := z_ws) (rm := z_rm d (gC h1 - gC h) (gS h1 - gS h)) (mc := gC h1 - gC h) (ms := gS h1 - gS h) (R := R) (z_na b) hts (z_goody hbl) (by rw [z_wsy, hrt0]) rfl rfl hNw (hts _ (z_M2_ok _ (z_m2 b hbl))) ⟨hmf.1, hmf.2, z_mf3 b hbl⟩ hroom
      have hrun := va_runIN (host := "DaughterTongues") (g := F0 m pc ls (st.map (z_rv loc))) (b := loc q i0) (As := (ini.reverse).map (z_rv loc)) (rest := (st.drop n).map (z_rv loc)) (nL := z_ml y) (cells := cells) (slots := slots) (H := H) (locs := locs) (e := ev) (below := below) (meth := meth) (R := R) (Ts := z_ws) ⟨hx, hb, hml, hown, hts⟩ hM ⟨hcn, hna, hts _ (z_M4_ok _ hi)⟩ ⟨z_blind κ loc h _, fun U hU hWm => hpre _ U rfl hU hWm⟩ rfl (by simp [g2]) r.2.2.1.2.1 hstk hW8 hd hfit
      exact z_after G r hrun hle hdrop e
end
