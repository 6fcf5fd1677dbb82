/-! ===== calls ===== -/
abbrev z_wsy (y : Nat) : List Jvm.Cond := Jvm.Cond.code (z_mn y) (z_by y) (z_ml y) (z_rt y) :: z_ws
abbrev z_rm (d mc ms : Nat) : Room := { frames := d, cells := mc, slots := ms, locals := 64 * d }
def z_Pc (κ : z_Q) (loc : Nat → Nat → Nat) (h : z_H) (a : List z_V) : Array Value → State → Prop := fun v U => v = (a.map (z_rv loc)).toArray ∧ (∀ w ∈ a, z_lv h w) ∧ z_wd κ loc h U.heap ∧ z_cx κ U U.heap
def z_Qc (κ : z_Q) (loc : Nat → Nat → Nat) (h : z_H) (r : Option z_V) (h' : z_H) : Array Value → State → Outcome → State → Prop := fun _ st o t => ∃ loc', z_ex h loc loc' ∧ o = .returned (r.map (z_rv loc')) ∧ (∀ v, r = some v → z_lv h' v) ∧ z_wd κ loc' h' t.heap ∧ va_F (z_fr κ) st t
/-- what a method's answer in the machine says of it in the JVM -/
def z_snd (la : Launch) (d : Nat) : Prop := ∀ (κ : z_Q) (y : Nat) (a : List z_V) (h : z_H) (r : Option z_V) (h' : z_H) (loc : Nat → Nat → Nat), y < 250 → Rn d y a h = some (r, h') →
  Met la (z_mn y) (z_wsy y) (z_rm d (gC h' - gC h) (gS h' - gS h)) (z_Pc κ loc h a) (z_Qc κ loc h r h') (gC h' - gC h) (gS h' - gS h) (z_fr κ)
theorem z_cx_move {κ : z_Q} {s U : State} {H : Heap} {locs : List Loc} (h : z_cx κ s s.heap) (hz : zz κ ≤ s.heap.size) (hS : va_S (z_fr κ) s.heap H locs) (hU : U.heap = H) (hW : s.WarmedH U.vm) : z_cx κ U U.heap := by
  obtain ⟨c1, ⟨o1, o2, o3, o4⟩, c3, c4, ⟨x1, x2⟩, ⟨k1, k2⟩, c7, c8⟩ := h
  subst hU
  refine ⟨va_K.moved hW.alike c1, ⟨va_AO.moved hW.alike o1, va_AO.moved hW.alike o2, va_AO.moved hW.alike o3, va_AO.moved hW.alike o4⟩, fun e he => va_Nw.warmM hW (c3 e he), va_Nw.warmC hW c4, ⟨(va_X.moved hW.alike x1).kept (hS.2.1 _ (by omega) (show ¬ zz κ ≤ zb κ by omega)), x2⟩, ⟨(vk_S.moved hW.alike k1).kept hS.2.1, k2⟩, fun e he => vk_R.warm hW (c7 e he), (va_Z.moved hW.alike c8).kept hS.2.1⟩
theorem z_cx_same {κ : z_Q} {s U : State} (h : z_cx κ s s.heap) (hv : U.vm = s.vm) (hH : U.heap = s.heap) : z_cx κ U U.heap := by
  obtain ⟨c1, ⟨o1, o2, o3, o4⟩, c3, c4, ⟨x1, x2⟩, ⟨k1, k2⟩, c7, c8⟩ := h
  have hA : s.vm.Alike U.vm := by rw [hv]; exact Vm.Alike.refl _
  rw [hH]
  exact ⟨va_K.moved hA c1, ⟨va_AO.moved hA o1, va_AO.moved hA o2, va_AO.moved hA o3, va_AO.moved hA o4⟩, fun e he => va_Nw.same rfl hv.symm (c3 e he), va_Nw.same rfl hv.symm c4, ⟨va_X.moved hA x1, x2⟩, ⟨vk_S.moved hA k1, k2⟩, fun e he => vk_R.same hv (c7 e he), va_Z.moved hA c8⟩
theorem z_blind (κ : z_Q) (loc : Nat → Nat → Nat) (h : z_H) (a : List z_V) : FrameBlind (z_Pc κ loc h a) := by
  rintro v U g mk ⟨q1, q2, q3, q4⟩
  exact ⟨q1, q2, q3, z_cx_same (U := U.calling g mk v) q4 rfl rfl⟩
theorem z_good : GoodIn z_ws z_ws := fun w h => ⟨h, z_ws_good w h⟩
theorem z_goody {y : Nat} (hy : y < 250) : GoodIn z_ws (z_wsy y) := by
  intro w hw
  rcases List.mem_cons.mp hw with rfl | hw
  · exact ⟨z_cdok y hy, z_ws_good _ (z_cdok y hy)⟩
  · exact z_good w hw
