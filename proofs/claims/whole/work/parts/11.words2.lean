/-! ===== more words: arrays, Object, clone, arraycopy ===== -/
theorem zw_arr_char : (.arrayClass .char : Jvm.Cond) ∈ z_ws := z_chk_ok (i := 125) (by decide +kernel)
theorem zw_arr_int : (.arrayClass .int : Jvm.Cond) ∈ z_ws := z_chk_ok (i := 126) (by decide +kernel)
theorem zw_arr_byte : (.arrayClass .byte : Jvm.Cond) ∈ z_ws := z_chk_ok (i := 539) (by decide +kernel)
theorem zw_arr_long : (.arrayClass .long : Jvm.Cond) ∈ z_ws := z_chk_ok (i := 706) (by decide +kernel)
theorem zw_arr_boolean : (.arrayClass .boolean : Jvm.Cond) ∈ z_ws := z_chk_ok (i := 1208) (by decide +kernel)
def z_OT : List (Nat × Nat) := [(0, 3), (1, 3), (2, 3), (3, 3), (4, 1), (5, 7), (6, 3), (7, 3), (8, 3), (9, 1), (10, 3)]
theorem z_OTc : (([((0, 3), 207), ((1, 3), 134), ((2, 3), 174), ((3, 3), 261), ((4, 1), 514), ((5, 7), 201), ((6, 3), 310), ((7, 3), 109), ((8, 3), 597), ((9, 1), 101), ((10, 3), 1059)] : List ((Nat × Nat) × Nat)).all (fun q => z_chk q.2 (.methodLink (z_on q.1.1) q.1.2 objectInit))) = true := by decide +kernel
theorem z_OT_ok (e : Nat × Nat) (h : e ∈ z_OT) : Jvm.Cond.methodLink (z_on e.1) e.2 objectInit ∈ z_ws := z_all_ok (F := fun q : Nat × Nat => .methodLink (z_on q.1) q.2 objectInit) z_OTc e h
theorem zw_oi : (.instanceMethod objectInit : Jvm.Cond) ∈ z_ws := z_chk_ok (i := 102) (by decide +kernel)
theorem zw_oc : (.code objectInit ⟨#[0xb1]⟩ 1 none : Jvm.Cond) ∈ z_ws := z_chk_ok (i := 103) (by decide +kernel)
theorem zw_cl1 : (.methodLink "DaughterTongues$Law" 13 ⟨"[I", "clone", "()Ljava/lang/Object;"⟩ : Jvm.Cond) ∈ z_ws := z_chk_ok (i := 515) (by decide +kernel)
theorem zw_cl2 : (.sameMethod "[I" "java/lang/Object" "clone" "()Ljava/lang/Object;" : Jvm.Cond) ∈ z_ws := z_chk_ok (i := 516) (by decide +kernel)
theorem zw_cl3 : (.native ⟨"java/lang/Object", "clone", "()Ljava/lang/Object;"⟩ : Jvm.Cond) ∈ z_ws := z_chk_ok (i := 517) (by decide +kernel)
theorem zw_cl4 : (.instanceMethod ⟨"java/lang/Object", "clone", "()Ljava/lang/Object;"⟩ : Jvm.Cond) ∈ z_ws := z_chk_ok (i := 518) (by decide +kernel)
theorem zw_cl5 : (.selects "[I" ⟨"[I", "clone", "()Ljava/lang/Object;"⟩ ⟨"java/lang/Object", "clone", "()Ljava/lang/Object;"⟩ : Jvm.Cond) ∈ z_ws := z_chk_ok (i := 519) (by decide +kernel)
theorem zw_cc : (.classLink "DaughterTongues$Law" 14 "[I" : Jvm.Cond) ∈ z_ws := z_chk_ok (i := 521) (by decide +kernel)
theorem zw_ac1 : (.methodLink "DaughterTongues" 307 arraycopyName : Jvm.Cond) ∈ z_ws := z_chk_ok (i := 1043) (by decide +kernel)
theorem zw_ac2 : (.native arraycopyName : Jvm.Cond) ∈ z_ws := z_chk_ok (i := 1045) (by decide +kernel)
theorem zw_ac3 : (.static arraycopyName : Jvm.Cond) ∈ z_ws := z_chk_ok (i := 1044) (by decide +kernel)
theorem zw_ac4 : (.initialized "java/lang/System" : Jvm.Cond) ∈ z_ws := z_chk_ok (i := 95) (by decide +kernel)
theorem zw_sf1 : (.fieldLink "java/lang/String" 9 "java/lang/String" "value" "[B" : Jvm.Cond) ∈ z_ws := z_chk_ok (i := 1617) (by decide +kernel)
theorem zw_sf2 : (.fieldLink "java/lang/String" 15 "java/lang/String" "coder" "B" : Jvm.Cond) ∈ z_ws := z_chk_ok (i := 1616) (by decide +kernel)
theorem zw_sf3 : (.fieldLink "java/lang/String" 38 "java/lang/String" "COMPACT_STRINGS" "Z" : Jvm.Cond) ∈ z_ws := z_chk_ok (i := 421) (by decide +kernel)
