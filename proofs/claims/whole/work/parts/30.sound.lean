/-! ===== every method: what it answers in the machine, it answers in the JVM ===== -/
theorem z_sp_len (loc : Nat → Nat → Nat) (a : List z_V) : (lg_sl (a.map (z_rv loc))).length = (z_sp a).length := by
  induction a with
  | nil => rfl
  | cons v r ih =>
    rw [List.map_cons]
    unfold lg_sl at ih ⊢
    rw [List.flatMap_cons, List.length_append, ih]
    rcases v with x | x | ⟨p, i⟩ | b
    · show 1 + _ = (z_sp r).length + 1; omega
    · show 2 + _ = (z_sp r).length + 1 + 1; omega
    · show 1 + _ = (z_sp r).length + 1; omega
    · show 1 + _ = (z_sp r).length + 1; omega
theorem z_sp_get (loc : Nat → Nat → Nat) : ∀ (a : List z_V) (i : Nat) (v : z_V), (z_sp a)[i]? = some v → v ≠ z_U → (lg_sl (a.map (z_rv loc)))[i]? = some (Slot.val (z_rv loc v)) ∧ v ∈ a := by
  intro a
  induction a with
  | nil => intro i v h; simp [z_sp] at h
  | cons w r ih =>
    intro i v h hv
    have hc : ∀ (hw : z_cat w = 1) (hs : z_sp (w :: r) = w :: z_sp r), (lg_sl ((w :: r).map (z_rv loc)))[i]? = some (Slot.val (z_rv loc v)) ∧ v ∈ w :: r := by
      intro hw hs
      rw [hs] at h
      have e1 : lg_sl ((w :: r).map (z_rv loc)) = Slot.val (z_rv loc w) :: lg_sl (r.map (z_rv loc)) := by
        rw [List.map_cons]
        unfold lg_sl
        rw [List.flatMap_cons, if_neg (by rw [z_cat_rv, hw]; decide)]
        rfl
      rw [e1]
      cases i with
      | zero =>
        rw [List.getElem?_cons_zero] at h ⊢
        cases h
        exact ⟨rfl, List.mem_cons_self⟩
      | succ i =>
        rw [List.getElem?_cons_succ] at h ⊢
        obtain ⟨q1, q2⟩ := ih i v h hv
        exact ⟨q1, List.mem_cons_of_mem _ q2⟩
    rcases w with x | x | ⟨p, j⟩ | b
    · exact hc rfl rfl
    · have e1 : lg_sl ((Sum.inr (Sum.inl x) :: r).map (z_rv loc)) = Slot.val (.long x) :: Slot.second :: lg_sl (r.map (z_rv loc)) := by
        rw [List.map_cons]
        unfold lg_sl
        rw [List.flatMap_cons]
        rfl
      have e2 : z_sp (Sum.inr (Sum.inl x) :: r) = z_L x :: z_U :: z_sp r := rfl
      rw [e2] at h
      rw [e1]
      match i, h with
      | 0, h =>
        rw [List.getElem?_cons_zero] at h ⊢
        cases h
        exact ⟨rfl, List.mem_cons_self⟩
      | 1, h =>
        rw [List.getElem?_cons_succ, List.getElem?_cons_zero] at h
        cases h
        exact absurd rfl hv
      | i + 2, h =>
        rw [List.getElem?_cons_succ, List.getElem?_cons_succ] at h ⊢
        obtain ⟨q1, q2⟩ := ih i v h hv
        exact ⟨q1, List.mem_cons_of_mem _ q2⟩
    · exact hc rfl rfl
    · exact hc rfl rfl
theorem z_lo_ent {loc : Nat → Nat → Nat} {h : z_H} {a : List z_V} {n : Nat} (hn : (z_sp a).length ≤ n) (ha : ∀ w ∈ a, z_lv h w) : z_lo loc h (z_ent n a) n ((lg_sl (a.map (z_rv loc)) ++ List.replicate (n - (lg_sl (a.map (z_rv loc))).length) Slot.unset).toArray) := by
  have hl := lv_entry (a.map (z_rv loc)) (n := n) (by rw [z_sp_len]; exact hn)
  refine ⟨by unfold z_ent; simp; omega, hl.1, hl.2.1, fun i v hi hv => ?_⟩
  unfold z_ent at hi
  by_cases hc : i < (z_sp a).length
  · rw [List.getElem?_append_left hc] at hi
    obtain ⟨q1, q2⟩ := z_sp_get loc a i v hi hv
    refine ⟨ha v q2, ?_⟩
    rw [List.getElem?_toArray, List.getElem?_append_left (by rw [z_sp_len]; exact hc)]
    exact q1
  · rw [List.getElem?_append_right (by omega)] at hi
    have := List.mem_of_getElem? hi
    rw [List.mem_replicate] at this
    exact absurd this.2 hv
theorem z_onk : ∀ y, y < 250 → z_on (z_oc y) = (z_mn y).cls := by decide +kernel
theorem z_fin_met {κ : z_Q} {h0 : z_H} {loc0 : Nat → Nat → Nat} {y d : Nat} {p : Program} {la : Launch} {ev : Env} {R : Room} {s : State} {m : MethodId} {args : Array Value} {below : List Frame} {meth : Method} {c : Code} {r : Option z_V} {h' : z_H} (F : z_fx κ y d p R s m args meth c) :
    z_fin κ h0 loc0 y p la ev R s m args below meth c (MQ below (z_Qc κ loc0 h0 r h') args s (gC h' - gC h0) (gS h' - gS h0) (z_fr κ)) (r, h') := by
  obtain ⟨hx, hb, hml, hown, hts, hlk, hrt, hnm, hcx, hz, hRf, hRl⟩ := F
  intro pc l st h loc H locs ls cells slots v hv hres rl
  obtain ⟨rfl, rfl⟩ : r = v ∧ h' = h := ⟨congrArg Prod.fst hres, congrArg Prod.snd hres⟩
  obtain ⟨wd, hS, lo, lvs, ex, le, ec, es⟩ := rl
  subst ec
  subst es
  rcases hv with ⟨x, rfl, rfl, hd, hty⟩ | ⟨p1, i, rfl, rfl, hd, hty⟩ | ⟨rfl, rfl, hd, hty⟩
  · have hq : ∀ t : State, t.heap = H → s.WarmedH t.vm → z_Qc κ loc0 h0 (some (z_I x)) h' args s (.returned (some (.int x))) t := fun t ht _ => ⟨loc, ex, rfl, fun w hw => by cases hw; trivial, by rw [ht]; exact wd, hS.F ht⟩
    rcases hty with hty | ⟨hbz, hty | hty⟩
    · exact W.iret (v := x) hx hb (hrt.trans hty) hq hS.2.2 hd hlk
    · exact W.zret (v := x) hx hb (hrt.trans hty) (by show Value.int (x &&& 1) = _; rw [z_nar_b hbz]) hq hS.2.2 hd hlk
    · refine W.zret (v := x) hx hb (hrt.trans hty) ?_ hq hS.2.2 hd hlk
      simp only [z_bz, Bool.or_eq_true, beq_iff_eq] at hbz
      rcases hbz with rfl | rfl <;> rfl
  · exact W.aret (v := .ref (loc p1 i)) hx hb (hrt.trans hty) (Or.inl ⟨_, rfl⟩) (Or.inr ⟨_, rfl⟩) (fun t ht _ => ⟨loc, ex, rfl, fun w hw => by cases hw; exact lvs _ List.mem_cons_self, by rw [ht]; exact wd, hS.F ht⟩) hS.2.2 hd hlk
  · exact W.vret hx hb (hrt.trans hty) (fun t ht _ => ⟨loc, ex, rfl, fun w hw => (by cases hw), by rw [ht]; exact wd, hS.F ht⟩) hS.2.2 hd hlk
/-- all codes are as their items say -/
def z_allok : Prop := ∀ y, y < 251 → ∀ pc it, z_code y pc = some it → z_okI y pc it = true
theorem z_sound (hall : z_allok) (la : Launch) : ∀ d, z_snd la d := by
  intro d
  induction d with
  | zero => intro κ y a h r h' loc hy e; cases e
  | succ d ih =>
    intro κ y a h r h' loc hy e
    rw [Rn_eq] at e
    cases hbl : Nat.ble (z_sp a).length (z_ml y) with
    | false => rw [hbl] at e; cases e
    | true =>
      rw [hbl] at e
      have hlen : (z_sp a).length ≤ z_ml y := Nat.le_of_ble_eq_true hbl
      obtain ⟨n, e⟩ := (z_lim_some (Rn_gr d)).mp (show z_lim (Rn d) y 0 (z_ent (z_ml y) a) [] h = some (r, h') from e)
      refine va_MetF (cc := z_by y) (maxL := z_ml y) (ret := z_rt y) (z_mf1 y hy) rfl ?_
      intro p ev s m args below meth c s₁ B hml hv
      obtain ⟨rfl, ha, hwd, hcx⟩ := hv
      have hts := atoms_spec (ws := z_wsy y) B.pre
      have hown : s.vm.findClass (z_mn y).cls = some m.cls := findClass_of_methodNamed B.named
      have hz : zz κ ≤ s.heap.size := by
        obtain ⟨L, f, hP, hD, hA, hzz⟩ := hwd
        exact hzz
      have F : z_fx κ y d p (headSpec (z_wsy y) (z_rm (d + 1) (gC h' - gC h) (gS h' - gS h))).room s m (a.map (z_rv loc)).toArray meth c :=
        ⟨B.exec, B.bytes, hml, by rw [z_onk y hy]; exact hown, fun w hw => hts w (List.mem_cons_of_mem _ hw), B.notSynchronized, B.returns, fun hn => (name_of_methodNamed B.named B.method).1.trans hn, hcx, hz, Nat.le_refl _, Nat.le_refl _⟩
      rw [lg_entry_eq]
      have hg := z_main (Q := MQ below (z_Qc κ loc h r h') (a.map (z_rv loc)).toArray s (gC h' - gC h) (gS h' - gS h) (z_fr κ)) (ev := ev) (below := below) (res := (r, h')) F ih ⟨Nat.le_refl _, Nat.le_refl _⟩ (z_fin_met F) (hall y (by omega)) n
      exact hg 0 (z_ent (z_ml y) a) [] h loc s.heap [] _ 0 0 e ⟨hwd, va_S.rf, z_lo_ent hlen ha, fun w hw => (by cases hw), z_ex_rfl h loc, z_le_rfl h, (by omega), (by omega)⟩
