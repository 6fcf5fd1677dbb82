/-! ===== all instructions; the whole of a method ===== -/
def z_okI (y pc : Nat) (it : z_It) : Bool :=
  match it with
  | (n, ins, a, b, c, e, v, w, ts) =>
    decide (decode (z_by y) pc = .ok (ins, n)) &&
    (match ins with
    | .iload_n _ | .lload_n _ | .aload_n _ | .istore_n _ | .lstore_n _ | .astore_n _ => decide (n = 1)
    | .iload _ | .aload _ | .istore _ | .astore _ => decide (n = 2)
    | .iinc _ k => decide (n = 3) && decide (Int32.ofInt k = v)
    | .iconst k => decide (n = 1) && decide (Int32.ofInt k = v)
    | .bipush k => decide (n = 2) && decide ((Int8.ofInt k).toInt32 = v)
    | .sipush k => decide (n = 3) && decide ((Int16.ofInt k).toInt32 = v)
    | .ldc k => decide (n = 2) && (match a with
      | 0 => decide ((z_oc y, k, v) ∈ z_KT.map (fun q => q.1))
      | _ => decide ((z_oc y, k, b) ∈ z_ST) && decide (b < 8))
    | .ldc_w k => decide (n = 3) && decide ((z_oc y, k, v) ∈ z_KT.map (fun q => q.1))
    | .ldc2_w k => decide (n = 3) && decide ((z_oc y, k, w) ∈ z_LT.map (fun q => q.1))
    | .aconst_null | .dup | .dup2 | .pop | .iadd | .isub | .imul | .iand | .ior | .ixor | .ishl | .ishr | .iushr | .idiv | .irem | .ladd | .land | .lor | .lshl | .lshr | .lushr | .lcmp | .i2l | .l2i | .i2b | .i2s | .i2c => decide (n = 1)
    | .iaload | .caload | .baload | .iastore | .castore | .bastore | .laload | .lastore | .arraylength => decide (n = 1)
    | .if_icmp _ k | .ifCond _ k | .ifnull k | .ifnonnull k | .goto k => decide (n = 3) && decide ((pc : Int) + k = (a : Int))
    | .tableswitch df lo hi offs => decide (hi + 1 = lo + (offs.toList.length : Int)) && decide ((pc : Int) + df = (a : Int)) && z_swok pc lo offs.toList ts
    | .getfield k => decide (n = 3) && (bif Nat.beq a 8 then decide ((k = 9 ∧ b = 0) ∨ (k = 15 ∧ b = 1)) && decide (z_oc y = 16)
        else decide (a ∈ z_pools) && decide (a % 10 = 0) && decide ((z_oc y, k, a / 10 % 100, b) ∈ z_FT.map (fun q => q.1)) && decide (b < a / 1000) && decide ((e = 0 ∧ z_ft a b ≤ 1) ∨ (1 ≤ e ∧ z_ft a b = c ∧ 1 < c)))
    | .getstatic k => decide (n = 3) && decide (k = 38) && decide (z_oc y = 16)
    | .putfield k => decide (n = 3) && decide (a ∈ z_pools) && decide (a % 10 = 0) && decide ((z_oc y, k, a / 10 % 100, b) ∈ z_FT.map (fun q => q.1)) && decide (b < a / 1000) && decide (z_ft a b = c) &&
        decide (((z_C (a / 10 % 100)).2.1 b).2.2.2 = false ∨ (((z_C (a / 10 % 100)).2.1 b).2.2.2 = true ∧ (z_mn y).name = "<init>" ∧ ((z_C (a / 10 % 100)).2.1 b).1 = z_on (z_oc y))) &&
        decide ((c = 0 ∧ z_tt (a / 10 % 100) b = .int) ∨ (c = 1 ∧ z_tt (a / 10 % 100) b = .boolean) ∨ (1 < c ∧ z_isR (z_tt (a / 10 % 100) b) = true))
    | .aaload | .aastore => decide (n = 1) && decide (a ∈ z_pools) && decide (a % 10 = 5) && decide (z_ep a = c)
    | .new k => decide (n = 3) && decide (a ∈ z_pools) && decide (a % 10 = 0) && decide ((z_oc y, k, a / 10 % 100) ∈ z_CT.map (fun q => q.1)) && decide (b ≠ 7)
    | .newarray t => decide (n = 2) && decide (a ∈ z_pools) && decide ((t = .int ∧ a % 10 = 1) ∨ (t = .char ∧ a % 10 = 2) ∨ (t = .boolean ∧ a % 10 = 3) ∨ (t = .long ∧ a % 10 = 4)) && decide (b ≠ 7)
    | .anewarray k => decide (n = 3) && decide (a ∈ z_pools) && decide (a % 10 = 5) && decide ((z_oc y, k, z_ep a / 10 % 100) ∈ z_CT.map (fun q => q.1)) && decide (b ≠ 7)
    | .checkcast k => decide (n = 3) && decide (z_oc y = 4) && decide (k = 14)
    | .invokestatic k => decide (n = 3) && (match a with
      | 0 => decide (b < 250) && decide ((z_oc y, k, b) ∈ z_MT.map (fun q => q.1)) && decide ((b, 0) ∈ z_M3.map (fun q => q.1)) && decide (c = z_na b)
      | _ => decide (z_oc y = 9) && decide (k = 307))
    | .invokevirtual k => decide (n = 3) && (match a with
      | 0 => decide (b < 250) && decide ((z_oc y, k, b) ∈ z_MT.map (fun q => q.1)) && decide ((b, 0) ∈ z_M4.map (fun q => q.1)) && decide ((b, 0) ∈ z_M5.map (fun q => q.1)) && decide (c = z_na b + 1) && decide (e ≠ 0) && decide ((e = 8 ∧ (z_mn b).cls = "java/lang/String") ∨ (e ∈ z_pools ∧ e % 10 = 0 ∧ (z_mn b).cls = (z_C (e / 10 % 100)).1))
      | _ => decide (z_oc y = 4) && decide (k = 13) && decide (b ∈ z_pools) && decide (b % 10 = 1) && decide (c ≠ 7))
    | .invokespecial k => decide (n = 3) && (match a with
      | 0 => decide (b < 250) && decide ((z_oc y, k, b) ∈ z_MT.map (fun q => q.1)) && decide ((b, 0) ∈ z_M4.map (fun q => q.1)) && decide ((z_mn b).name = "<init>") && decide (z_rt b = none) && decide (c = z_na b + 1) && decide (e ≠ 0)
      | 1 => decide (b < 250) && decide ((z_oc y, k, b) ∈ z_NT) && decide ((b, 0) ∈ z_M4.map (fun q => q.1)) && decide ((z_mn b).name = "<init>") && decide (z_rt b = none) && decide (c = z_na b + 1) && decide (e ≠ 0)
      | _ => decide ((z_oc y, k) ∈ z_OT))
    | .ireturn => decide (n = 1) && decide ((a = 0 ∧ z_rt y = some .int) ∨ (a ≠ 0 ∧ (z_rt y = some .boolean ∨ z_rt y = some .byte)))
    | .areturn => decide (n = 1) && decide (z_rt y = some (.object "DaughterTongues$Tongue"))
    | .return_ => decide (n = 1) && decide (z_rt y = none)
    | _ => false)
/-- what is asked of a method's ends -/
def z_fin (κ : z_Q) (h0 : z_H) (loc0 : Nat → Nat → Nat) (y : Nat) (p : Program) (la : Launch) (ev : Env) (R : Room) (s : State) (m : MethodId) (args : Array Value) (below : List Frame) (meth : Method) (c : Code) (Q : State → Prop) (res : z_A) : Prop :=
  ∀ (pc : Nat) (l st : List z_V) (h : z_H) (loc : Nat → Nat → Nat) (H : Heap) (locs : List Loc) (ls : Array Slot) (cells slots : Nat) (v : Option z_V),
    ((∃ x, st = [z_I x] ∧ v = some (z_I x) ∧ decode (z_by y) pc = .ok (.ireturn, 1) ∧ (z_rt y = some .int ∨ (z_bz x = true ∧ (z_rt y = some .boolean ∨ z_rt y = some .byte)))) ∨
     (∃ p1 i, st = [z_R p1 i] ∧ v = some (z_R p1 i) ∧ decode (z_by y) pc = .ok (.areturn, 1) ∧ z_rt y = some (.object "DaughterTongues$Tongue")) ∨
     (st = [] ∧ v = none ∧ decode (z_by y) pc = .ok (.return_, 1) ∧ z_rt y = none)) →
    res = (v, h) → z_rel κ s h0 loc0 (z_ml y) l st h loc H locs ls cells slots → W p la ev R s m args below meth c H locs cells slots Q (F0 m pc ls (st.map (z_rv loc)))
section
variable {κ : z_Q} {y d : Nat} {h0 : z_H} {loc0 : Nat → Nat → Nat} {p : Program} {la : Launch} {ev : Env} {R : Room} {s : State} {m : MethodId} {args : Array Value} {below : List Frame} {meth : Method} {c : Code} {Q : State → Prop} {K : z_K} {res : z_A} {pc : Nat} {l st : List z_V} {h : z_H} {loc : Nat → Nat → Nat} {H : Heap} {locs : List Loc} {ls : Array Slot} {cells slots : Nat}
set_option maxHeartbeats 8000000 in
theorem z_step (F : z_fx κ y d p R s m args meth c) (G : z_go κ h0 loc0 (z_ml y) p la ev R s m args below meth c Q K res) (r : z_rel κ s h0 loc0 (z_ml y) l st h loc H locs ls cells slots) (Sd : z_snd la d) (hmo : ∀ pc l st h, K pc l st h = some res → z_le h res.2) (hro : gC res.2 - gC h0 ≤ R.cells ∧ gS res.2 - gS h0 ≤ R.slots) (hfin : z_fin κ h0 loc0 y p la ev R s m args below meth c Q res) {it : z_It} (hok : z_okI y pc it = true) (e : st1 (Rn d) pc it l st h K = some res) : W p la ev R s m args below meth c H locs cells slots Q (F0 m pc ls (st.map (z_rv loc))) := by
  obtain ⟨n, ins, a, b, cc, ee, v, w, ts⟩ := it
  cases ins
  case iload_n k =>
    have hq : decode (z_by y) pc = .ok (.iload_n k, n) ∧ n = 1 := by simpa [z_okI, and_assoc] using hok
    obtain ⟨hd, rfl⟩ := hq
    exact w_iln F G r hd e
  case lload_n k =>
    have hq : decode (z_by y) pc = .ok (.lload_n k, n) ∧ n = 1 := by simpa [z_okI, and_assoc] using hok
    obtain ⟨hd, rfl⟩ := hq
    exact w_lln F G r hd e
  case aload_n k =>
    have hq : decode (z_by y) pc = .ok (.aload_n k, n) ∧ n = 1 := by simpa [z_okI, and_assoc] using hok
    obtain ⟨hd, rfl⟩ := hq
    exact w_aln F G r hd e
  case istore_n k =>
    have hq : decode (z_by y) pc = .ok (.istore_n k, n) ∧ n = 1 := by simpa [z_okI, and_assoc] using hok
    obtain ⟨hd, rfl⟩ := hq
    exact w_isn F G r hd e
  case lstore_n k =>
    have hq : decode (z_by y) pc = .ok (.lstore_n k, n) ∧ n = 1 := by simpa [z_okI, and_assoc] using hok
    obtain ⟨hd, rfl⟩ := hq
    exact w_lsn F G r hd e
  case astore_n k =>
    have hq : decode (z_by y) pc = .ok (.astore_n k, n) ∧ n = 1 := by simpa [z_okI, and_assoc] using hok
    obtain ⟨hd, rfl⟩ := hq
    exact w_asn F G r hd e
  case iload k =>
    have hq : decode (z_by y) pc = .ok (.iload k, n) ∧ n = 2 := by simpa [z_okI, and_assoc] using hok
    obtain ⟨hd, rfl⟩ := hq
    exact w_il F G r hd e
  case aload k =>
    have hq : decode (z_by y) pc = .ok (.aload k, n) ∧ n = 2 := by simpa [z_okI, and_assoc] using hok
    obtain ⟨hd, rfl⟩ := hq
    exact w_al F G r hd e
  case istore k =>
    have hq : decode (z_by y) pc = .ok (.istore k, n) ∧ n = 2 := by simpa [z_okI, and_assoc] using hok
    obtain ⟨hd, rfl⟩ := hq
    exact w_is F G r hd e
  case astore k =>
    have hq : decode (z_by y) pc = .ok (.astore k, n) ∧ n = 2 := by simpa [z_okI, and_assoc] using hok
    obtain ⟨hd, rfl⟩ := hq
    exact w_as F G r hd e
  case iinc i k =>
    have hq : decode (z_by y) pc = .ok (.iinc i k, n) ∧ n = 3 ∧ Int32.ofInt k = v := by simpa [z_okI, and_assoc] using hok
    obtain ⟨hd, rfl, hv⟩ := hq
    exact w_iinc F G r hv hd e
  case iconst k =>
    have hq : decode (z_by y) pc = .ok (.iconst k, n) ∧ n = 1 ∧ Int32.ofInt k = v := by simpa [z_okI, and_assoc] using hok
    obtain ⟨hd, rfl, hv⟩ := hq
    exact w_iconst F G r hv hd e
  case bipush k =>
    have hq : decode (z_by y) pc = .ok (.bipush k, n) ∧ n = 2 ∧ (Int8.ofInt k).toInt32 = v := by simpa [z_okI, and_assoc] using hok
    obtain ⟨hd, rfl, hv⟩ := hq
    exact w_bipush F G r hv hd e
  case sipush k =>
    have hq : decode (z_by y) pc = .ok (.sipush k, n) ∧ n = 3 ∧ (Int16.ofInt k).toInt32 = v := by simpa [z_okI, and_assoc] using hok
    obtain ⟨hd, rfl, hv⟩ := hq
    exact w_sipush F G r hv hd e
  case ldc k =>
    simp only [z_okI, Bool.and_eq_true, decide_eq_true_eq, and_assoc] at hok
    obtain ⟨hd, rfl, hok⟩ := hok
    match a, hok, e with
    | 0, hok, e =>
      simp only [decide_eq_true_eq] at hok
      exact w_ldc F G r hok hd e
    | a + 1, hok, e =>
      simp only [Bool.and_eq_true, decide_eq_true_eq] at hok
      exact w_ldcS F G r hok.1 hok.2 hd e
  case ldc_w k =>
    simp only [z_okI, Bool.and_eq_true, decide_eq_true_eq, and_assoc] at hok
    obtain ⟨hd, rfl, hv⟩ := hok
    exact w_ldcw F G r hv hd e
  case ldc2_w k =>
    simp only [z_okI, Bool.and_eq_true, decide_eq_true_eq, and_assoc] at hok
    obtain ⟨hd, rfl, hv⟩ := hok
    exact w_ldc2 F G r hv hd e
  case aconst_null =>
    have hq : decode (z_by y) pc = .ok (.aconst_null, n) ∧ n = 1 := by simpa [z_okI, and_assoc] using hok
    obtain ⟨hd, rfl⟩ := hq
    exact w_null F G r hd e
  case dup =>
    have hq : decode (z_by y) pc = .ok (.dup, n) ∧ n = 1 := by simpa [z_okI, and_assoc] using hok
    obtain ⟨hd, rfl⟩ := hq
    exact w_dup F G r hd e
  case dup2 =>
    have hq : decode (z_by y) pc = .ok (.dup2, n) ∧ n = 1 := by simpa [z_okI, and_assoc] using hok
    obtain ⟨hd, rfl⟩ := hq
    exact w_dup2 F G r hd e
  case pop =>
    have hq : decode (z_by y) pc = .ok (.pop, n) ∧ n = 1 := by simpa [z_okI, and_assoc] using hok
    obtain ⟨hd, rfl⟩ := hq
    exact w_pop F G r hd e
  case iadd =>
    have hq : decode (z_by y) pc = .ok (.iadd, n) ∧ n = 1 := by simpa [z_okI, and_assoc] using hok
    obtain ⟨hd, rfl⟩ := hq
    exact w_iadd F G r hd e
  case isub =>
    have hq : decode (z_by y) pc = .ok (.isub, n) ∧ n = 1 := by simpa [z_okI, and_assoc] using hok
    obtain ⟨hd, rfl⟩ := hq
    exact w_isub F G r hd e
  case imul =>
    have hq : decode (z_by y) pc = .ok (.imul, n) ∧ n = 1 := by simpa [z_okI, and_assoc] using hok
    obtain ⟨hd, rfl⟩ := hq
    exact w_imul F G r hd e
  case iand =>
    have hq : decode (z_by y) pc = .ok (.iand, n) ∧ n = 1 := by simpa [z_okI, and_assoc] using hok
    obtain ⟨hd, rfl⟩ := hq
    exact w_iand F G r hd e
  case ior =>
    have hq : decode (z_by y) pc = .ok (.ior, n) ∧ n = 1 := by simpa [z_okI, and_assoc] using hok
    obtain ⟨hd, rfl⟩ := hq
    exact w_ior F G r hd e
  case ixor =>
    have hq : decode (z_by y) pc = .ok (.ixor, n) ∧ n = 1 := by simpa [z_okI, and_assoc] using hok
    obtain ⟨hd, rfl⟩ := hq
    exact w_ixor F G r hd e
  case ishl =>
    have hq : decode (z_by y) pc = .ok (.ishl, n) ∧ n = 1 := by simpa [z_okI, and_assoc] using hok
    obtain ⟨hd, rfl⟩ := hq
    exact w_ishl F G r hd e
  case ishr =>
    have hq : decode (z_by y) pc = .ok (.ishr, n) ∧ n = 1 := by simpa [z_okI, and_assoc] using hok
    obtain ⟨hd, rfl⟩ := hq
    exact w_ishr F G r hd e
  case iushr =>
    have hq : decode (z_by y) pc = .ok (.iushr, n) ∧ n = 1 := by simpa [z_okI, and_assoc] using hok
    obtain ⟨hd, rfl⟩ := hq
    exact w_iushr F G r hd e
  case idiv =>
    have hq : decode (z_by y) pc = .ok (.idiv, n) ∧ n = 1 := by simpa [z_okI, and_assoc] using hok
    obtain ⟨hd, rfl⟩ := hq
    exact w_idiv F G r hd e
  case irem =>
    have hq : decode (z_by y) pc = .ok (.irem, n) ∧ n = 1 := by simpa [z_okI, and_assoc] using hok
    obtain ⟨hd, rfl⟩ := hq
    exact w_irem F G r hd e
  case ladd =>
    have hq : decode (z_by y) pc = .ok (.ladd, n) ∧ n = 1 := by simpa [z_okI, and_assoc] using hok
    obtain ⟨hd, rfl⟩ := hq
    exact w_ladd F G r hd e
  case land =>
    have hq : decode (z_by y) pc = .ok (.land, n) ∧ n = 1 := by simpa [z_okI, and_assoc] using hok
    obtain ⟨hd, rfl⟩ := hq
    exact w_land F G r hd e
  case lor =>
    have hq : decode (z_by y) pc = .ok (.lor, n) ∧ n = 1 := by simpa [z_okI, and_assoc] using hok
    obtain ⟨hd, rfl⟩ := hq
    exact w_lor F G r hd e
  case lshl =>
    have hq : decode (z_by y) pc = .ok (.lshl, n) ∧ n = 1 := by simpa [z_okI, and_assoc] using hok
    obtain ⟨hd, rfl⟩ := hq
    exact w_lshl F G r hd e
  case lshr =>
    have hq : decode (z_by y) pc = .ok (.lshr, n) ∧ n = 1 := by simpa [z_okI, and_assoc] using hok
    obtain ⟨hd, rfl⟩ := hq
    exact w_lshr F G r hd e
  case lushr =>
    have hq : decode (z_by y) pc = .ok (.lushr, n) ∧ n = 1 := by simpa [z_okI, and_assoc] using hok
    obtain ⟨hd, rfl⟩ := hq
    exact w_lushr F G r hd e
  case lcmp =>
    have hq : decode (z_by y) pc = .ok (.lcmp, n) ∧ n = 1 := by simpa [z_okI, and_assoc] using hok
    obtain ⟨hd, rfl⟩ := hq
    exact w_lcmp F G r hd e
  case i2l =>
    have hq : decode (z_by y) pc = .ok (.i2l, n) ∧ n = 1 := by simpa [z_okI, and_assoc] using hok
    obtain ⟨hd, rfl⟩ := hq
    exact w_i2l F G r hd e
  case l2i =>
    have hq : decode (z_by y) pc = .ok (.l2i, n) ∧ n = 1 := by simpa [z_okI, and_assoc] using hok
    obtain ⟨hd, rfl⟩ := hq
    exact w_l2i F G r hd e
  case i2b =>
    have hq : decode (z_by y) pc = .ok (.i2b, n) ∧ n = 1 := by simpa [z_okI, and_assoc] using hok
    obtain ⟨hd, rfl⟩ := hq
    exact w_i2b F G r hd e
  case i2s =>
    have hq : decode (z_by y) pc = .ok (.i2s, n) ∧ n = 1 := by simpa [z_okI, and_assoc] using hok
    obtain ⟨hd, rfl⟩ := hq
    exact w_i2s F G r hd e
  case i2c =>
    have hq : decode (z_by y) pc = .ok (.i2c, n) ∧ n = 1 := by simpa [z_okI, and_assoc] using hok
    obtain ⟨hd, rfl⟩ := hq
    exact w_i2c F G r hd e
  case iaload =>
    have hq : decode (z_by y) pc = .ok (.iaload, n) ∧ n = 1 := by simpa [z_okI, and_assoc] using hok
    obtain ⟨hd, rfl⟩ := hq
    exact w_iald F G r hd e
  case caload =>
    have hq : decode (z_by y) pc = .ok (.caload, n) ∧ n = 1 := by simpa [z_okI, and_assoc] using hok
    obtain ⟨hd, rfl⟩ := hq
    exact w_cald F G r hd e
  case baload =>
    have hq : decode (z_by y) pc = .ok (.baload, n) ∧ n = 1 := by simpa [z_okI, and_assoc] using hok
    obtain ⟨hd, rfl⟩ := hq
    exact w_zald F G r hd e
  case iastore =>
    have hq : decode (z_by y) pc = .ok (.iastore, n) ∧ n = 1 := by simpa [z_okI, and_assoc] using hok
    obtain ⟨hd, rfl⟩ := hq
    exact w_iast F G r hd e
  case castore =>
    have hq : decode (z_by y) pc = .ok (.castore, n) ∧ n = 1 := by simpa [z_okI, and_assoc] using hok
    obtain ⟨hd, rfl⟩ := hq
    exact w_cast F G r hd e
  case bastore =>
    have hq : decode (z_by y) pc = .ok (.bastore, n) ∧ n = 1 := by simpa [z_okI, and_assoc] using hok
    obtain ⟨hd, rfl⟩ := hq
    exact w_zast F G r hd e
  case laload =>
    have hq : decode (z_by y) pc = .ok (.laload, n) ∧ n = 1 := by simpa [z_okI, and_assoc] using hok
    obtain ⟨hd, rfl⟩ := hq
    exact w_lald F G r hd e
  case lastore =>
    have hq : decode (z_by y) pc = .ok (.lastore, n) ∧ n = 1 := by simpa [z_okI, and_assoc] using hok
    obtain ⟨hd, rfl⟩ := hq
    exact w_last F G r hd e
  case arraylength =>
    have hq : decode (z_by y) pc = .ok (.arraylength, n) ∧ n = 1 := by simpa [z_okI, and_assoc] using hok
    obtain ⟨hd, rfl⟩ := hq
    exact w_alen F G r hd e
  case if_icmp cd k =>
    simp only [z_okI, Bool.and_eq_true, decide_eq_true_eq, and_assoc] at hok
    obtain ⟨hd, rfl, ht⟩ := hok
    cases cd
    · exact w_icmp_eq F G r ht hd e
    · exact w_icmp_ne F G r ht hd e
    · exact w_icmp_lt F G r ht hd e
    · exact w_icmp_ge F G r ht hd e
    · exact w_icmp_gt F G r ht hd e
    · exact w_icmp_le F G r ht hd e
  case ifCond cd k =>
    simp only [z_okI, Bool.and_eq_true, decide_eq_true_eq, and_assoc] at hok
    obtain ⟨hd, rfl, ht⟩ := hok
    cases cd
    · exact w_if_eq F G r ht hd e
    · exact w_if_ne F G r ht hd e
    · exact w_if_lt F G r ht hd e
    · exact w_if_ge F G r ht hd e
    · exact w_if_gt F G r ht hd e
    · exact w_if_le F G r ht hd e
  case ifnull k =>
    simp only [z_okI, Bool.and_eq_true, decide_eq_true_eq, and_assoc] at hok
    obtain ⟨hd, rfl, ht⟩ := hok
    exact w_ifnull F G r ht hd e
  case ifnonnull k =>
    simp only [z_okI, Bool.and_eq_true, decide_eq_true_eq, and_assoc] at hok
    obtain ⟨hd, rfl, ht⟩ := hok
    exact w_ifnonnull F G r ht hd e
  case goto k =>
    simp only [z_okI, Bool.and_eq_true, decide_eq_true_eq, and_assoc] at hok
    obtain ⟨hd, rfl, ht⟩ := hok
    exact w_goto F G r ht hd e
  case tableswitch df lo hi offs =>
    simp only [z_okI, Bool.and_eq_true, decide_eq_true_eq, and_assoc] at hok
    obtain ⟨hd, h1, h2, h3⟩ := hok
    exact w_sw F G r h1 h2 h3 hd e
  case getfield k =>
    simp only [z_okI, Bool.and_eq_true, decide_eq_true_eq, and_assoc] at hok
    obtain ⟨hd, rfl, hok⟩ := hok
    cases ha : Nat.beq a 8 with
    | true =>
      rw [ha] at hok
      simp only [cond_true, Bool.and_eq_true, decide_eq_true_eq] at hok
      have e : (bif Nat.beq a 8 then o_tf K (pc + 3) l st h b else o_gf K (pc + 3) l st h a b cc ee) = some res := e
      rw [ha] at e
      exact w_tf F G r hok.1 hok.2 hd e
    | false =>
      rw [ha] at hok
      simp only [cond_false, Bool.and_eq_true, decide_eq_true_eq, and_assoc] at hok
      have e : (bif Nat.beq a 8 then o_tf K (pc + 3) l st h b else o_gf K (pc + 3) l st h a b cc ee) = some res := e
      rw [ha] at e
      obtain ⟨h1, h2, h3, h4, h5⟩ := hok
      exact w_gf F G r h1 h2 h3 h4 h5 hd e
  case getstatic k =>
    simp only [z_okI, Bool.and_eq_true, decide_eq_true_eq, and_assoc] at hok
    obtain ⟨hd, rfl, h1, h2⟩ := hok
    exact w_gs F G r h1 h2 hd e
  case putfield k =>
    simp only [z_okI, Bool.and_eq_true, decide_eq_true_eq, and_assoc] at hok
    obtain ⟨hd, rfl, h1, h2, h3, h4, h5, h6, h7⟩ := hok
    exact w_pf F G r h1 h2 h3 h4 h5 h6 h7 hd e
  case aaload =>
    simp only [z_okI, Bool.and_eq_true, decide_eq_true_eq, and_assoc] at hok
    obtain ⟨hd, rfl, h1, h2, h3⟩ := hok
    exact w_aald F G r h1 h2 h3 hd e
  case aastore =>
    simp only [z_okI, Bool.and_eq_true, decide_eq_true_eq, and_assoc] at hok
    obtain ⟨hd, rfl, h1, h2, h3⟩ := hok
    exact w_aast F G r h1 h2 h3 hd e
  case new k =>
    simp only [z_okI, Bool.and_eq_true, decide_eq_true_eq, and_assoc] at hok
    obtain ⟨hd, rfl, h1, h2, h3, h4⟩ := hok
    exact w_new F G r hmo hro h1 h2 h3 h4 hd e
  case newarray t =>
    simp only [z_okI, Bool.and_eq_true, decide_eq_true_eq, and_assoc] at hok
    obtain ⟨hd, rfl, h1, h2, h3⟩ := hok
    rcases h2 with ⟨rfl, h2⟩ | ⟨rfl, h2⟩ | ⟨rfl, h2⟩ | ⟨rfl, h2⟩
    · exact w_nai F G r hmo hro h1 h2 h3 hd e
    · exact w_nac F G r hmo hro h1 h2 h3 hd e
    · exact w_naz F G r hmo hro h1 h2 h3 hd e
    · exact w_naj F G r hmo hro h1 h2 h3 hd e
  case anewarray k =>
    simp only [z_okI, Bool.and_eq_true, decide_eq_true_eq, and_assoc] at hok
    obtain ⟨hd, rfl, h1, h2, h3, h4⟩ := hok
    exact w_anew F G r hmo hro h1 h2 h3 h4 hd e
  case checkcast k =>
    simp only [z_okI, Bool.and_eq_true, decide_eq_true_eq, and_assoc] at hok
    obtain ⟨hd, rfl, h1, h2⟩ := hok
    exact w_cst F G r h1 h2 hd e
  case invokestatic k =>
    simp only [z_okI, Bool.and_eq_true, decide_eq_true_eq, and_assoc] at hok
    obtain ⟨hd, rfl, hok⟩ := hok
    match a, hok, e with
    | 0, hok, e =>
      simp only [Bool.and_eq_true, decide_eq_true_eq, and_assoc] at hok
      obtain ⟨h1, h2, h3, h4⟩ := hok
      exact w_calls F G r Sd hmo hro h1 h2 h3 h4 hd e
    | a + 1, hok, e =>
      simp only [Bool.and_eq_true, decide_eq_true_eq] at hok
      exact w_cpy F G r hok.1 hok.2 hd e
  case invokevirtual k =>
    simp only [z_okI, Bool.and_eq_true, decide_eq_true_eq, and_assoc] at hok
    obtain ⟨hd, rfl, hok⟩ := hok
    match a, hok, e with
    | 0, hok, e =>
      simp only [Bool.and_eq_true, decide_eq_true_eq, and_assoc] at hok
      obtain ⟨h1, h2, h3, h4, h5, h6, h7⟩ := hok
      exact w_callv F G r Sd hmo hro h1 h2 h3 h4 h5 h6 h7 hd e
    | a + 1, hok, e =>
      simp only [Bool.and_eq_true, decide_eq_true_eq, and_assoc] at hok
      obtain ⟨h1, h2, h3, h4, h5⟩ := hok
      exact w_cln F G r hmo hro h1 h2 h3 h4 h5 hd e
  case invokespecial k =>
    simp only [z_okI, Bool.and_eq_true, decide_eq_true_eq, and_assoc] at hok
    obtain ⟨hd, rfl, hok⟩ := hok
    match a, hok, e with
    | 0, hok, e =>
      simp only [Bool.and_eq_true, decide_eq_true_eq, and_assoc] at hok
      obtain ⟨h1, h2, h3, h4, h5, h6, h7⟩ := hok
      exact w_calli F G r Sd hmo hro h1 h2 h3 h4 h5 h6 h7 hd e
    | 1, hok, e =>
      simp only [Bool.and_eq_true, decide_eq_true_eq, and_assoc] at hok
      obtain ⟨h1, h2, h3, h4, h5, h6, h7⟩ := hok
      exact w_calln F G r Sd hmo hro h1 h2 h3 h4 h5 h6 h7 hd e
    | a + 2, hok, e =>
      simp only [decide_eq_true_eq] at hok
      exact w_oin F G r hok hd e
  case ireturn =>
    simp only [z_okI, Bool.and_eq_true, decide_eq_true_eq, and_assoc] at hok
    obtain ⟨hd, rfl, hok⟩ := hok
    have e : o_ret st h a = some res := e
    unfold o_ret at e
    split at e
    · next x =>
      split at e
      · rcases hok with ⟨-, hok⟩ | ⟨h1, -⟩
        · cases e
          exact hfin pc l _ h loc H locs ls cells slots _ (Or.inl ⟨_, rfl, rfl, hd, Or.inl hok⟩) rfl r
        · exact absurd rfl h1
      · next hne =>
        split at e
        · next hbz =>
          rcases hok with ⟨h1, -⟩ | ⟨-, hok⟩
          · exact absurd h1 (fun z => by subst z; exact hne rfl)
          · cases e
            exact hfin pc l _ h loc H locs ls cells slots _ (Or.inl ⟨_, rfl, rfl, hd, Or.inr ⟨hbz, hok⟩⟩) rfl r
        · cases e
    · cases e
  case areturn =>
    simp only [z_okI, Bool.and_eq_true, decide_eq_true_eq, and_assoc] at hok
    obtain ⟨hd, rfl, hok⟩ := hok
    have e : o_art st h = some res := e
    unfold o_art at e
    split at e
    · next p1 i =>
      cases e
      exact hfin pc l _ h loc H locs ls cells slots _ (Or.inr (Or.inl ⟨_, _, rfl, rfl, hd, hok⟩)) rfl r
    · cases e
  case return_ =>
    simp only [z_okI, Bool.and_eq_true, decide_eq_true_eq, and_assoc] at hok
    obtain ⟨hd, rfl, hok⟩ := hok
    have e : o_vrt st h = some res := e
    unfold o_vrt at e
    split at e
    · cases e
      exact hfin pc l _ h loc H locs ls cells slots _ (Or.inr (Or.inr ⟨rfl, rfl, hd, hok⟩)) rfl r
    · cases e
  all_goals exact absurd (show (none : Option z_A) = some res from e) (by intro z; cases z)
theorem z_main (F : z_fx κ y d p R s m args meth c) (Sd : z_snd la d) (hro : gC res.2 - gC h0 ≤ R.cells ∧ gS res.2 - gS h0 ≤ R.slots) (hfin : z_fin κ h0 loc0 y p la ev R s m args below meth c Q res) (hok : ∀ pc it, z_code y pc = some it → z_okI y pc it = true) : ∀ n, z_go κ h0 loc0 (z_ml y) p la ev R s m args below meth c Q (exn (Rn d) y n) res := by
  intro n
  induction n with
  | zero => intro pc l st h loc H locs ls cells slots e; cases e
  | succ n ih =>
    intro pc l st h loc H locs ls cells slots e r
    rw [exn_succ] at e
    cases hz : z_code y pc with
    | none => rw [hz] at e; cases e
    | some it =>
      rw [hz] at e
      exact z_step F ih r Sd (fun pc l st h e => exn_le (Rn_gr d) n pc l st h res.1 res.2 e) hro hfin (hok pc it hz) e
end
