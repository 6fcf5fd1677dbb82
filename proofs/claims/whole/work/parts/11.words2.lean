/-! ===== more words: arrays, Object, clone, arraycopy ===== -/
theorem zw_arr_char : (.arrayClass .char : Jvm.Cond) ∈ z_ws := z_chk_ok (i := 124) (by decide +kernel)
theorem zw_arr_int : (.arrayClass .int : Jvm.Cond) ∈ z_ws := z_chk_ok (i := 125) (by decide +kernel)
theorem zw_arr_byte : (.arrayClass .byte : Jvm.Cond) ∈ z_ws := z_chk_ok (i := 538) (by decide +kernel)
theorem zw_arr_long : (.arrayClass .long : Jvm.Cond) ∈ z_ws := z_chk_ok (i := 705) (by decide +kernel)
theorem zw_arr_boolean : (.arrayClass .boolean : Jvm.Cond) ∈ z_ws := z_chk_ok (i := 1203) (by decide +kernel)
def z_OT : List (Nat × Nat) := [(0, 3), (1, 3), (2, 3), (3, 3), (4, 1), (5, 7), (6, 3), (7, 3), (8, 3), (9, 1), (10, 3)]
theorem z_OTc : (([((0, 3), 206), ((1, 3), 133), ((2, 3), 173), ((3, 3), 260), ((4, 1), 513), ((5, 7), 200), ((6, 3), 309), ((7, 3), 108), ((8, 3), 596), ((9, 1), 100), ((10, 3), 1054)] : List ((Nat × Nat) × Nat)).all (fun q => z_chk q.2 (.methodLink (z_on q.1.1) q.1.2 objectInit))) = true := by decide +kernel
theorem z_OT_ok (e : Nat × Nat) (h : e ∈ z_OT) : Jvm.Cond.methodLink (z_on e.1) e.2 objectInit ∈ z_ws := z_all_ok (F := fun q : Nat × Nat => .methodLink (z_on q.1) q.2 objectInit) z_OTc e h
theorem zw_oi : (.instanceMethod objectInit : Jvm.Cond) ∈ z_ws := z_chk_ok (i := 101) (by decide +kernel)
theorem zw_oc : (.code objectInit ⟨#[0xb1]⟩ 1 none : Jvm.Cond) ∈ z_ws := z_chk_ok (i := 102) (by decide +kernel)
theorem zw_cl1 : (.methodLink "DaughterTongues$Law" 13 ⟨"[I", "clone", "()Ljava/lang/Object;"⟩ : Jvm.Cond) ∈ z_ws := z_chk_ok (i := 514) (by decide +kernel)
theorem zw_cl2 : (.sameMethod "[I" "java/lang/Object" "clone" "()Ljava/lang/Object;" : Jvm.Cond) ∈ z_ws := z_chk_ok (i := 515) (by decide +kernel)
theorem zw_cl3 : (.native ⟨"java/lang/Object", "clone", "()Ljava/lang/Object;"⟩ : Jvm.Cond) ∈ z_ws := z_chk_ok (i := 516) (by decide +kernel)
theorem zw_cl4 : (.instanceMethod ⟨"java/lang/Object", "clone", "()Ljava/lang/Object;"⟩ : Jvm.Cond) ∈ z_ws := z_chk_ok (i := 517) (by decide +kernel)
theorem zw_cl5 : (.selects "[I" ⟨"[I", "clone", "()Ljava/lang/Object;"⟩ ⟨"java/lang/Object", "clone", "()Ljava/lang/Object;"⟩ : Jvm.Cond) ∈ z_ws := z_chk_ok (i := 518) (by decide +kernel)
theorem zw_cc : (.classLink "DaughterTongues$Law" 14 "[I" : Jvm.Cond) ∈ z_ws := z_chk_ok (i := 520) (by decide +kernel)
theorem zw_ac1 : (.methodLink "DaughterTongues" 307 arraycopyName : Jvm.Cond) ∈ z_ws := z_chk_ok (i := 1038) (by decide +kernel)
theorem zw_ac2 : (.native arraycopyName : Jvm.Cond) ∈ z_ws := z_chk_ok (i := 1040) (by decide +kernel)
theorem zw_ac3 : (.static arraycopyName : Jvm.Cond) ∈ z_ws := z_chk_ok (i := 1039) (by decide +kernel)
theorem zw_ac4 : (.initialized "java/lang/System" : Jvm.Cond) ∈ z_ws := z_chk_ok (i := 94) (by decide +kernel)
theorem zw_sf1 : (.fieldLink "java/lang/String" 9 "java/lang/String" "value" "[B" : Jvm.Cond) ∈ z_ws := z_chk_ok (i := 1612) (by decide +kernel)
theorem zw_sf2 : (.fieldLink "java/lang/String" 15 "java/lang/String" "coder" "B" : Jvm.Cond) ∈ z_ws := z_chk_ok (i := 1611) (by decide +kernel)
theorem zw_sf3 : (.fieldLink "java/lang/String" 38 "java/lang/String" "COMPACT_STRINGS" "Z" : Jvm.Cond) ∈ z_ws := z_chk_ok (i := 420) (by decide +kernel)
