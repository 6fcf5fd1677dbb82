/-! ===== the codes among the words ===== -/
theorem z_tb_1 {w : Jvm.Cond} (h : w ∈ tables_1_1) (hg : goodWord w = true) : w ∈ z_ws := List.mem_filter.mpr ⟨List.mem_append_right _ (show w ∈ tables_1 from (by unfold tables_1; exact (List.mem_append_left _ h))), hg⟩
theorem z_tb_2 {w : Jvm.Cond} (h : w ∈ tables_1_2) (hg : goodWord w = true) : w ∈ z_ws := List.mem_filter.mpr ⟨List.mem_append_right _ (show w ∈ tables_1 from (by unfold tables_1; exact (List.mem_append_right _ (List.mem_append_left _ h)))), hg⟩
theorem z_tb_3 {w : Jvm.Cond} (h : w ∈ tables_1_3) (hg : goodWord w = true) : w ∈ z_ws := List.mem_filter.mpr ⟨List.mem_append_right _ (show w ∈ tables_1 from (by unfold tables_1; exact (List.mem_append_right _ (List.mem_append_right _ (List.mem_append_left _ h))))), hg⟩
theorem z_tb_4 {w : Jvm.Cond} (h : w ∈ tables_1_4) (hg : goodWord w = true) : w ∈ z_ws := List.mem_filter.mpr ⟨List.mem_append_right _ (show w ∈ tables_1 from (by unfold tables_1; exact (List.mem_append_right _ (List.mem_append_right _ (List.mem_append_right _ (List.mem_append_left _ h)))))), hg⟩
theorem z_tb_5 {w : Jvm.Cond} (h : w ∈ tables_1_5) (hg : goodWord w = true) : w ∈ z_ws := List.mem_filter.mpr ⟨List.mem_append_right _ (show w ∈ tables_1 from (by unfold tables_1; exact (List.mem_append_right _ (List.mem_append_right _ (List.mem_append_right _ (List.mem_append_right _ (List.mem_append_left _ h))))))), hg⟩
theorem z_tb_6 {w : Jvm.Cond} (h : w ∈ tables_1_6) (hg : goodWord w = true) : w ∈ z_ws := List.mem_filter.mpr ⟨List.mem_append_right _ (show w ∈ tables_1 from (by unfold tables_1; exact (List.mem_append_right _ (List.mem_append_right _ (List.mem_append_right _ (List.mem_append_right _ (List.mem_append_right _ (List.mem_append_left _ h)))))))), hg⟩
theorem z_tb_7 {w : Jvm.Cond} (h : w ∈ tables_1_7) (hg : goodWord w = true) : w ∈ z_ws := List.mem_filter.mpr ⟨List.mem_append_right _ (show w ∈ tables_1 from (by unfold tables_1; exact (List.mem_append_right _ (List.mem_append_right _ (List.mem_append_right _ (List.mem_append_right _ (List.mem_append_right _ (List.mem_append_right _ h)))))))), hg⟩
theorem z_cd_0 : Jvm.Cond.code (z_mn 0) (z_by 0) (z_ml 0) (z_rt 0) ∈ z_ws := z_tb_2 (List.mem_of_getElem? (i := 67) rfl) rfl
theorem z_cd_1 : Jvm.Cond.code (z_mn 1) (z_by 1) (z_ml 1) (z_rt 1) ∈ z_ws := z_tb_3 (List.mem_of_getElem? (i := 18) rfl) rfl
theorem z_cd_2 : Jvm.Cond.code (z_mn 2) (z_by 2) (z_ml 2) (z_rt 2) ∈ z_ws := z_tb_3 (List.mem_of_getElem? (i := 137) rfl) rfl
theorem z_cd_3 : Jvm.Cond.code (z_mn 3) (z_by 3) (z_ml 3) (z_rt 3) ∈ z_ws := z_tb_3 (List.mem_of_getElem? (i := 14) rfl) rfl
theorem z_cd_4 : Jvm.Cond.code (z_mn 4) (z_by 4) (z_ml 4) (z_rt 4) ∈ z_ws := z_tb_3 (List.mem_of_getElem? (i := 26) rfl) rfl
theorem z_cd_5 : Jvm.Cond.code (z_mn 5) (z_by 5) (z_ml 5) (z_rt 5) ∈ z_ws := z_tb_3 (List.mem_of_getElem? (i := 149) rfl) rfl
theorem z_cd_6 : Jvm.Cond.code (z_mn 6) (z_by 6) (z_ml 6) (z_rt 6) ∈ z_ws := z_tb_2 (List.mem_of_getElem? (i := 64) rfl) rfl
theorem z_cd_7 : Jvm.Cond.code (z_mn 7) (z_by 7) (z_ml 7) (z_rt 7) ∈ z_ws := z_tb_1 (List.mem_of_getElem? (i := 132) rfl) rfl
theorem z_cd_8 : Jvm.Cond.code (z_mn 8) (z_by 8) (z_ml 8) (z_rt 8) ∈ z_ws := z_tb_4 (List.mem_of_getElem? (i := 97) rfl) rfl
theorem z_cd_9 : Jvm.Cond.code (z_mn 9) (z_by 9) (z_ml 9) (z_rt 9) ∈ z_ws := z_tb_2 (List.mem_of_getElem? (i := 61) rfl) rfl
theorem z_cd_10 : Jvm.Cond.code (z_mn 10) (z_by 10) (z_ml 10) (z_rt 10) ∈ z_ws := z_tb_3 (List.mem_of_getElem? (i := 11) rfl) rfl
theorem z_cd_11 : Jvm.Cond.code (z_mn 11) (z_by 11) (z_ml 11) (z_rt 11) ∈ z_ws := z_tb_3 (List.mem_of_getElem? (i := 7) rfl) rfl
theorem z_cd_12 : Jvm.Cond.code (z_mn 12) (z_by 12) (z_ml 12) (z_rt 12) ∈ z_ws := z_tb_1 (List.mem_of_getElem? (i := 59) rfl) rfl
theorem z_cd_13 : Jvm.Cond.code (z_mn 13) (z_by 13) (z_ml 13) (z_rt 13) ∈ z_ws := z_tb_3 (List.mem_of_getElem? (i := 38) rfl) rfl
theorem z_cd_14 : Jvm.Cond.code (z_mn 14) (z_by 14) (z_ml 14) (z_rt 14) ∈ z_ws := z_tb_2 (List.mem_of_getElem? (i := 71) rfl) rfl
theorem z_cd_15 : Jvm.Cond.code (z_mn 15) (z_by 15) (z_ml 15) (z_rt 15) ∈ z_ws := z_tb_3 (List.mem_of_getElem? (i := 84) rfl) rfl
theorem z_cd_16 : Jvm.Cond.code (z_mn 16) (z_by 16) (z_ml 16) (z_rt 16) ∈ z_ws := z_tb_3 (List.mem_of_getElem? (i := 113) rfl) rfl
theorem z_cd_17 : Jvm.Cond.code (z_mn 17) (z_by 17) (z_ml 17) (z_rt 17) ∈ z_ws := z_tb_3 (List.mem_of_getElem? (i := 134) rfl) rfl
theorem z_cd_18 : Jvm.Cond.code (z_mn 18) (z_by 18) (z_ml 18) (z_rt 18) ∈ z_ws := z_tb_3 (List.mem_of_getElem? (i := 130) rfl) rfl
theorem z_cd_19 : Jvm.Cond.code (z_mn 19) (z_by 19) (z_ml 19) (z_rt 19) ∈ z_ws := z_tb_3 (List.mem_of_getElem? (i := 126) rfl) rfl
theorem z_cd_20 : Jvm.Cond.code (z_mn 20) (z_by 20) (z_ml 20) (z_rt 20) ∈ z_ws := z_tb_3 (List.mem_of_getElem? (i := 169) rfl) rfl
theorem z_cd_21 : Jvm.Cond.code (z_mn 21) (z_by 21) (z_ml 21) (z_rt 21) ∈ z_ws := z_tb_3 (List.mem_of_getElem? (i := 174) rfl) rfl
theorem z_cd_22 : Jvm.Cond.code (z_mn 22) (z_by 22) (z_ml 22) (z_rt 22) ∈ z_ws := z_tb_3 (List.mem_of_getElem? (i := 178) rfl) rfl
theorem z_cd_23 : Jvm.Cond.code (z_mn 23) (z_by 23) (z_ml 23) (z_rt 23) ∈ z_ws := z_tb_3 (List.mem_of_getElem? (i := 186) rfl) rfl
theorem z_cd_24 : Jvm.Cond.code (z_mn 24) (z_by 24) (z_ml 24) (z_rt 24) ∈ z_ws := z_tb_3 (List.mem_of_getElem? (i := 236) rfl) rfl
theorem z_cd_25 : Jvm.Cond.code (z_mn 25) (z_by 25) (z_ml 25) (z_rt 25) ∈ z_ws := z_tb_4 (List.mem_of_getElem? (i := 4) rfl) rfl
theorem z_cd_26 : Jvm.Cond.code (z_mn 26) (z_by 26) (z_ml 26) (z_rt 26) ∈ z_ws := z_tb_4 (List.mem_of_getElem? (i := 12) rfl) rfl
theorem z_cd_27 : Jvm.Cond.code (z_mn 27) (z_by 27) (z_ml 27) (z_rt 27) ∈ z_ws := z_tb_4 (List.mem_of_getElem? (i := 24) rfl) rfl
theorem z_cd_28 : Jvm.Cond.code (z_mn 28) (z_by 28) (z_ml 28) (z_rt 28) ∈ z_ws := z_tb_4 (List.mem_of_getElem? (i := 34) rfl) rfl
theorem z_cd_29 : Jvm.Cond.code (z_mn 29) (z_by 29) (z_ml 29) (z_rt 29) ∈ z_ws := z_tb_4 (List.mem_of_getElem? (i := 38) rfl) rfl
theorem z_cd_30 : Jvm.Cond.code (z_mn 30) (z_by 30) (z_ml 30) (z_rt 30) ∈ z_ws := z_tb_4 (List.mem_of_getElem? (i := 46) rfl) rfl
theorem z_cd_31 : Jvm.Cond.code (z_mn 31) (z_by 31) (z_ml 31) (z_rt 31) ∈ z_ws := z_tb_4 (List.mem_of_getElem? (i := 51) rfl) rfl
theorem z_cd_32 : Jvm.Cond.code (z_mn 32) (z_by 32) (z_ml 32) (z_rt 32) ∈ z_ws := z_tb_4 (List.mem_of_getElem? (i := 55) rfl) rfl
theorem z_cd_33 : Jvm.Cond.code (z_mn 33) (z_by 33) (z_ml 33) (z_rt 33) ∈ z_ws := z_tb_1 (List.mem_of_getElem? (i := 99) rfl) rfl
theorem z_cd_34 : Jvm.Cond.code (z_mn 34) (z_by 34) (z_ml 34) (z_rt 34) ∈ z_ws := z_tb_3 (List.mem_of_getElem? (i := 206) rfl) rfl
theorem z_cd_35 : Jvm.Cond.code (z_mn 35) (z_by 35) (z_ml 35) (z_rt 35) ∈ z_ws := z_tb_3 (List.mem_of_getElem? (i := 211) rfl) rfl
theorem z_cd_36 : Jvm.Cond.code (z_mn 36) (z_by 36) (z_ml 36) (z_rt 36) ∈ z_ws := z_tb_3 (List.mem_of_getElem? (i := 219) rfl) rfl
theorem z_cd_37 : Jvm.Cond.code (z_mn 37) (z_by 37) (z_ml 37) (z_rt 37) ∈ z_ws := z_tb_1 (List.mem_of_getElem? (i := 186) rfl) rfl
theorem z_cd_38 : Jvm.Cond.code (z_mn 38) (z_by 38) (z_ml 38) (z_rt 38) ∈ z_ws := z_tb_4 (List.mem_of_getElem? (i := 130) rfl) rfl
theorem z_cd_39 : Jvm.Cond.code (z_mn 39) (z_by 39) (z_ml 39) (z_rt 39) ∈ z_ws := z_tb_4 (List.mem_of_getElem? (i := 138) rfl) rfl
theorem z_cd_40 : Jvm.Cond.code (z_mn 40) (z_by 40) (z_ml 40) (z_rt 40) ∈ z_ws := z_tb_4 (List.mem_of_getElem? (i := 146) rfl) rfl
theorem z_cd_41 : Jvm.Cond.code (z_mn 41) (z_by 41) (z_ml 41) (z_rt 41) ∈ z_ws := z_tb_4 (List.mem_of_getElem? (i := 183) rfl) rfl
theorem z_cd_42 : Jvm.Cond.code (z_mn 42) (z_by 42) (z_ml 42) (z_rt 42) ∈ z_ws := z_tb_4 (List.mem_of_getElem? (i := 154) rfl) rfl
theorem z_cd_43 : Jvm.Cond.code (z_mn 43) (z_by 43) (z_ml 43) (z_rt 43) ∈ z_ws := z_tb_4 (List.mem_of_getElem? (i := 162) rfl) rfl
theorem z_cd_44 : Jvm.Cond.code (z_mn 44) (z_by 44) (z_ml 44) (z_rt 44) ∈ z_ws := z_tb_4 (List.mem_of_getElem? (i := 158) rfl) rfl
theorem z_cd_45 : Jvm.Cond.code (z_mn 45) (z_by 45) (z_ml 45) (z_rt 45) ∈ z_ws := z_tb_4 (List.mem_of_getElem? (i := 170) rfl) rfl
theorem z_cd_46 : Jvm.Cond.code (z_mn 46) (z_by 46) (z_ml 46) (z_rt 46) ∈ z_ws := z_tb_4 (List.mem_of_getElem? (i := 174) rfl) rfl
theorem z_cd_47 : Jvm.Cond.code (z_mn 47) (z_by 47) (z_ml 47) (z_rt 47) ∈ z_ws := z_tb_4 (List.mem_of_getElem? (i := 191) rfl) rfl
theorem z_cd_48 : Jvm.Cond.code (z_mn 48) (z_by 48) (z_ml 48) (z_rt 48) ∈ z_ws := z_tb_4 (List.mem_of_getElem? (i := 208) rfl) rfl
theorem z_cd_49 : Jvm.Cond.code (z_mn 49) (z_by 49) (z_ml 49) (z_rt 49) ∈ z_ws := z_tb_4 (List.mem_of_getElem? (i := 212) rfl) rfl
theorem z_cd_50 : Jvm.Cond.code (z_mn 50) (z_by 50) (z_ml 50) (z_rt 50) ∈ z_ws := z_tb_4 (List.mem_of_getElem? (i := 195) rfl) rfl
theorem z_cd_51 : Jvm.Cond.code (z_mn 51) (z_by 51) (z_ml 51) (z_rt 51) ∈ z_ws := z_tb_4 (List.mem_of_getElem? (i := 200) rfl) rfl
theorem z_cd_52 : Jvm.Cond.code (z_mn 52) (z_by 52) (z_ml 52) (z_rt 52) ∈ z_ws := z_tb_2 (List.mem_of_getElem? (i := 199) rfl) rfl
theorem z_cd_53 : Jvm.Cond.code (z_mn 53) (z_by 53) (z_ml 53) (z_rt 53) ∈ z_ws := z_tb_2 (List.mem_of_getElem? (i := 57) rfl) rfl
theorem z_cd_54 : Jvm.Cond.code (z_mn 54) (z_by 54) (z_ml 54) (z_rt 54) ∈ z_ws := z_tb_1 (List.mem_of_getElem? (i := 126) rfl) rfl
theorem z_cd_55 : Jvm.Cond.code (z_mn 55) (z_by 55) (z_ml 55) (z_rt 55) ∈ z_ws := z_tb_4 (List.mem_of_getElem? (i := 69) rfl) rfl
theorem z_cd_56 : Jvm.Cond.code (z_mn 56) (z_by 56) (z_ml 56) (z_rt 56) ∈ z_ws := z_tb_4 (List.mem_of_getElem? (i := 118) rfl) rfl
theorem z_cd_57 : Jvm.Cond.code (z_mn 57) (z_by 57) (z_ml 57) (z_rt 57) ∈ z_ws := z_tb_4 (List.mem_of_getElem? (i := 81) rfl) rfl
theorem z_cd_58 : Jvm.Cond.code (z_mn 58) (z_by 58) (z_ml 58) (z_rt 58) ∈ z_ws := z_tb_4 (List.mem_of_getElem? (i := 106) rfl) rfl
theorem z_cd_59 : Jvm.Cond.code (z_mn 59) (z_by 59) (z_ml 59) (z_rt 59) ∈ z_ws := z_tb_4 (List.mem_of_getElem? (i := 89) rfl) rfl
theorem z_cd_60 : Jvm.Cond.code (z_mn 60) (z_by 60) (z_ml 60) (z_rt 60) ∈ z_ws := z_tb_4 (List.mem_of_getElem? (i := 85) rfl) rfl
theorem z_cd_61 : Jvm.Cond.code (z_mn 61) (z_by 61) (z_ml 61) (z_rt 61) ∈ z_ws := z_tb_4 (List.mem_of_getElem? (i := 93) rfl) rfl
theorem z_cd_62 : Jvm.Cond.code (z_mn 62) (z_by 62) (z_ml 62) (z_rt 62) ∈ z_ws := z_tb_2 (List.mem_of_getElem? (i := 131) rfl) rfl
theorem z_cd_63 : Jvm.Cond.code (z_mn 63) (z_by 63) (z_ml 63) (z_rt 63) ∈ z_ws := z_tb_4 (List.mem_of_getElem? (i := 102) rfl) rfl
theorem z_cd_64 : Jvm.Cond.code (z_mn 64) (z_by 64) (z_ml 64) (z_rt 64) ∈ z_ws := z_tb_1 (List.mem_of_getElem? (i := 235) rfl) rfl
theorem z_cd_65 : Jvm.Cond.code (z_mn 65) (z_by 65) (z_ml 65) (z_rt 65) ∈ z_ws := z_tb_4 (List.mem_of_getElem? (i := 226) rfl) rfl
theorem z_cd_66 : Jvm.Cond.code (z_mn 66) (z_by 66) (z_ml 66) (z_rt 66) ∈ z_ws := z_tb_4 (List.mem_of_getElem? (i := 236) rfl) rfl
theorem z_cd_67 : Jvm.Cond.code (z_mn 67) (z_by 67) (z_ml 67) (z_rt 67) ∈ z_ws := z_tb_5 (List.mem_of_getElem? (i := 4) rfl) rfl
theorem z_cd_68 : Jvm.Cond.code (z_mn 68) (z_by 68) (z_ml 68) (z_rt 68) ∈ z_ws := z_tb_1 (List.mem_of_getElem? (i := 34) rfl) rfl
theorem z_cd_69 : Jvm.Cond.code (z_mn 69) (z_by 69) (z_ml 69) (z_rt 69) ∈ z_ws := z_tb_2 (List.mem_of_getElem? (i := 80) rfl) rfl
theorem z_cd_70 : Jvm.Cond.code (z_mn 70) (z_by 70) (z_ml 70) (z_rt 70) ∈ z_ws := z_tb_2 (List.mem_of_getElem? (i := 89) rfl) rfl
theorem z_cd_71 : Jvm.Cond.code (z_mn 71) (z_by 71) (z_ml 71) (z_rt 71) ∈ z_ws := z_tb_2 (List.mem_of_getElem? (i := 186) rfl) rfl
theorem z_cd_72 : Jvm.Cond.code (z_mn 72) (z_by 72) (z_ml 72) (z_rt 72) ∈ z_ws := z_tb_2 (List.mem_of_getElem? (i := 191) rfl) rfl
theorem z_cd_73 : Jvm.Cond.code (z_mn 73) (z_by 73) (z_ml 73) (z_rt 73) ∈ z_ws := z_tb_2 (List.mem_of_getElem? (i := 94) rfl) rfl
theorem z_cd_74 : Jvm.Cond.code (z_mn 74) (z_by 74) (z_ml 74) (z_rt 74) ∈ z_ws := z_tb_3 (List.mem_of_getElem? (i := 42) rfl) rfl
theorem z_cd_75 : Jvm.Cond.code (z_mn 75) (z_by 75) (z_ml 75) (z_rt 75) ∈ z_ws := z_tb_3 (List.mem_of_getElem? (i := 101) rfl) rfl
theorem z_cd_76 : Jvm.Cond.code (z_mn 76) (z_by 76) (z_ml 76) (z_rt 76) ∈ z_ws := z_tb_4 (List.mem_of_getElem? (i := 42) rfl) rfl
theorem z_cd_77 : Jvm.Cond.code (z_mn 77) (z_by 77) (z_ml 77) (z_rt 77) ∈ z_ws := z_tb_3 (List.mem_of_getElem? (i := 117) rfl) rfl
theorem z_cd_78 : Jvm.Cond.code (z_mn 78) (z_by 78) (z_ml 78) (z_rt 78) ∈ z_ws := z_tb_3 (List.mem_of_getElem? (i := 141) rfl) rfl
theorem z_cd_79 : Jvm.Cond.code (z_mn 79) (z_by 79) (z_ml 79) (z_rt 79) ∈ z_ws := z_tb_3 (List.mem_of_getElem? (i := 145) rfl) rfl
theorem z_cd_80 : Jvm.Cond.code (z_mn 80) (z_by 80) (z_ml 80) (z_rt 80) ∈ z_ws := z_tb_4 (List.mem_of_getElem? (i := 16) rfl) rfl
theorem z_cd_81 : Jvm.Cond.code (z_mn 81) (z_by 81) (z_ml 81) (z_rt 81) ∈ z_ws := z_tb_1 (List.mem_of_getElem? (i := 26) rfl) rfl
theorem z_cd_82 : Jvm.Cond.code (z_mn 82) (z_by 82) (z_ml 82) (z_rt 82) ∈ z_ws := z_tb_2 (List.mem_of_getElem? (i := 44) rfl) rfl
theorem z_cd_83 : Jvm.Cond.code (z_mn 83) (z_by 83) (z_ml 83) (z_rt 83) ∈ z_ws := z_tb_2 (List.mem_of_getElem? (i := 75) rfl) rfl
theorem z_cd_84 : Jvm.Cond.code (z_mn 84) (z_by 84) (z_ml 84) (z_rt 84) ∈ z_ws := z_tb_2 (List.mem_of_getElem? (i := 85) rfl) rfl
theorem z_cd_85 : Jvm.Cond.code (z_mn 85) (z_by 85) (z_ml 85) (z_rt 85) ∈ z_ws := z_tb_2 (List.mem_of_getElem? (i := 229) rfl) rfl
theorem z_cd_86 : Jvm.Cond.code (z_mn 86) (z_by 86) (z_ml 86) (z_rt 86) ∈ z_ws := z_tb_2 (List.mem_of_getElem? (i := 238) rfl) rfl
theorem z_cd_87 : Jvm.Cond.code (z_mn 87) (z_by 87) (z_ml 87) (z_rt 87) ∈ z_ws := z_tb_3 (List.mem_of_getElem? (i := 2) rfl) rfl
theorem z_cd_88 : Jvm.Cond.code (z_mn 88) (z_by 88) (z_ml 88) (z_rt 88) ∈ z_ws := z_tb_3 (List.mem_of_getElem? (i := 22) rfl) rfl
theorem z_cd_89 : Jvm.Cond.code (z_mn 89) (z_by 89) (z_ml 89) (z_rt 89) ∈ z_ws := z_tb_3 (List.mem_of_getElem? (i := 30) rfl) rfl
theorem z_cd_90 : Jvm.Cond.code (z_mn 90) (z_by 90) (z_ml 90) (z_rt 90) ∈ z_ws := z_tb_3 (List.mem_of_getElem? (i := 80) rfl) rfl
theorem z_cd_91 : Jvm.Cond.code (z_mn 91) (z_by 91) (z_ml 91) (z_rt 91) ∈ z_ws := z_tb_3 (List.mem_of_getElem? (i := 88) rfl) rfl
theorem z_cd_92 : Jvm.Cond.code (z_mn 92) (z_by 92) (z_ml 92) (z_rt 92) ∈ z_ws := z_tb_3 (List.mem_of_getElem? (i := 93) rfl) rfl
theorem z_cd_93 : Jvm.Cond.code (z_mn 93) (z_by 93) (z_ml 93) (z_rt 93) ∈ z_ws := z_tb_3 (List.mem_of_getElem? (i := 105) rfl) rfl
theorem z_cd_94 : Jvm.Cond.code (z_mn 94) (z_by 94) (z_ml 94) (z_rt 94) ∈ z_ws := z_tb_3 (List.mem_of_getElem? (i := 109) rfl) rfl
theorem z_cd_95 : Jvm.Cond.code (z_mn 95) (z_by 95) (z_ml 95) (z_rt 95) ∈ z_ws := z_tb_3 (List.mem_of_getElem? (i := 122) rfl) rfl
theorem z_cd_96 : Jvm.Cond.code (z_mn 96) (z_by 96) (z_ml 96) (z_rt 96) ∈ z_ws := z_tb_3 (List.mem_of_getElem? (i := 156) rfl) rfl
theorem z_cd_97 : Jvm.Cond.code (z_mn 97) (z_by 97) (z_ml 97) (z_rt 97) ∈ z_ws := z_tb_3 (List.mem_of_getElem? (i := 160) rfl) rfl
theorem z_cd_98 : Jvm.Cond.code (z_mn 98) (z_by 98) (z_ml 98) (z_rt 98) ∈ z_ws := z_tb_3 (List.mem_of_getElem? (i := 165) rfl) rfl
theorem z_cd_99 : Jvm.Cond.code (z_mn 99) (z_by 99) (z_ml 99) (z_rt 99) ∈ z_ws := z_tb_3 (List.mem_of_getElem? (i := 182) rfl) rfl
theorem z_cd_100 : Jvm.Cond.code (z_mn 100) (z_by 100) (z_ml 100) (z_rt 100) ∈ z_ws := z_tb_3 (List.mem_of_getElem? (i := 190) rfl) rfl
theorem z_cd_101 : Jvm.Cond.code (z_mn 101) (z_by 101) (z_ml 101) (z_rt 101) ∈ z_ws := z_tb_3 (List.mem_of_getElem? (i := 194) rfl) rfl
theorem z_cd_102 : Jvm.Cond.code (z_mn 102) (z_by 102) (z_ml 102) (z_rt 102) ∈ z_ws := z_tb_3 (List.mem_of_getElem? (i := 215) rfl) rfl
theorem z_cd_103 : Jvm.Cond.code (z_mn 103) (z_by 103) (z_ml 103) (z_rt 103) ∈ z_ws := z_tb_3 (List.mem_of_getElem? (i := 224) rfl) rfl
theorem z_cd_104 : Jvm.Cond.code (z_mn 104) (z_by 104) (z_ml 104) (z_rt 104) ∈ z_ws := z_tb_3 (List.mem_of_getElem? (i := 228) rfl) rfl
theorem z_cd_105 : Jvm.Cond.code (z_mn 105) (z_by 105) (z_ml 105) (z_rt 105) ∈ z_ws := z_tb_3 (List.mem_of_getElem? (i := 232) rfl) rfl
theorem z_cd_106 : Jvm.Cond.code (z_mn 106) (z_by 106) (z_ml 106) (z_rt 106) ∈ z_ws := z_tb_4 (List.mem_of_getElem? (i := 0) rfl) rfl
theorem z_cd_107 : Jvm.Cond.code (z_mn 107) (z_by 107) (z_ml 107) (z_rt 107) ∈ z_ws := z_tb_4 (List.mem_of_getElem? (i := 8) rfl) rfl
theorem z_cd_108 : Jvm.Cond.code (z_mn 108) (z_by 108) (z_ml 108) (z_rt 108) ∈ z_ws := z_tb_4 (List.mem_of_getElem? (i := 20) rfl) rfl
theorem z_cd_109 : Jvm.Cond.code (z_mn 109) (z_by 109) (z_ml 109) (z_rt 109) ∈ z_ws := z_tb_4 (List.mem_of_getElem? (i := 30) rfl) rfl
theorem z_cd_110 : Jvm.Cond.code (z_mn 110) (z_by 110) (z_ml 110) (z_rt 110) ∈ z_ws := z_tb_4 (List.mem_of_getElem? (i := 65) rfl) rfl
theorem z_cd_111 : Jvm.Cond.code (z_mn 111) (z_by 111) (z_ml 111) (z_rt 111) ∈ z_ws := z_tb_4 (List.mem_of_getElem? (i := 73) rfl) rfl
theorem z_cd_112 : Jvm.Cond.code (z_mn 112) (z_by 112) (z_ml 112) (z_rt 112) ∈ z_ws := z_tb_4 (List.mem_of_getElem? (i := 77) rfl) rfl
theorem z_cd_113 : Jvm.Cond.code (z_mn 113) (z_by 113) (z_ml 113) (z_rt 113) ∈ z_ws := z_tb_4 (List.mem_of_getElem? (i := 110) rfl) rfl
theorem z_cd_114 : Jvm.Cond.code (z_mn 114) (z_by 114) (z_ml 114) (z_rt 114) ∈ z_ws := z_tb_4 (List.mem_of_getElem? (i := 114) rfl) rfl
theorem z_cd_115 : Jvm.Cond.code (z_mn 115) (z_by 115) (z_ml 115) (z_rt 115) ∈ z_ws := z_tb_4 (List.mem_of_getElem? (i := 122) rfl) rfl
theorem z_cd_116 : Jvm.Cond.code (z_mn 116) (z_by 116) (z_ml 116) (z_rt 116) ∈ z_ws := z_tb_4 (List.mem_of_getElem? (i := 134) rfl) rfl
theorem z_cd_117 : Jvm.Cond.code (z_mn 117) (z_by 117) (z_ml 117) (z_rt 117) ∈ z_ws := z_tb_4 (List.mem_of_getElem? (i := 142) rfl) rfl
theorem z_cd_118 : Jvm.Cond.code (z_mn 118) (z_by 118) (z_ml 118) (z_rt 118) ∈ z_ws := z_tb_4 (List.mem_of_getElem? (i := 150) rfl) rfl
theorem z_cd_119 : Jvm.Cond.code (z_mn 119) (z_by 119) (z_ml 119) (z_rt 119) ∈ z_ws := z_tb_4 (List.mem_of_getElem? (i := 166) rfl) rfl
theorem z_cd_120 : Jvm.Cond.code (z_mn 120) (z_by 120) (z_ml 120) (z_rt 120) ∈ z_ws := z_tb_4 (List.mem_of_getElem? (i := 179) rfl) rfl
theorem z_cd_121 : Jvm.Cond.code (z_mn 121) (z_by 121) (z_ml 121) (z_rt 121) ∈ z_ws := z_tb_4 (List.mem_of_getElem? (i := 187) rfl) rfl
theorem z_cd_122 : Jvm.Cond.code (z_mn 122) (z_by 122) (z_ml 122) (z_rt 122) ∈ z_ws := z_tb_4 (List.mem_of_getElem? (i := 204) rfl) rfl
theorem z_cd_123 : Jvm.Cond.code (z_mn 123) (z_by 123) (z_ml 123) (z_rt 123) ∈ z_ws := z_tb_4 (List.mem_of_getElem? (i := 217) rfl) rfl
theorem z_cd_124 : Jvm.Cond.code (z_mn 124) (z_by 124) (z_ml 124) (z_rt 124) ∈ z_ws := z_tb_4 (List.mem_of_getElem? (i := 231) rfl) rfl
theorem z_cd_125 : Jvm.Cond.code (z_mn 125) (z_by 125) (z_ml 125) (z_rt 125) ∈ z_ws := z_tb_5 (List.mem_of_getElem? (i := 0) rfl) rfl
theorem z_cd_126 : Jvm.Cond.code (z_mn 126) (z_by 126) (z_ml 126) (z_rt 126) ∈ z_ws := z_tb_5 (List.mem_of_getElem? (i := 11) rfl) rfl
theorem z_cd_127 : Jvm.Cond.code (z_mn 127) (z_by 127) (z_ml 127) (z_rt 127) ∈ z_ws := z_tb_5 (List.mem_of_getElem? (i := 15) rfl) rfl
theorem z_cd_128 : Jvm.Cond.code (z_mn 128) (z_by 128) (z_ml 128) (z_rt 128) ∈ z_ws := z_tb_2 (List.mem_of_getElem? (i := 49) rfl) rfl
theorem z_cd_129 : Jvm.Cond.code (z_mn 129) (z_by 129) (z_ml 129) (z_rt 129) ∈ z_ws := z_tb_2 (List.mem_of_getElem? (i := 53) rfl) rfl
theorem z_cd_130 : Jvm.Cond.code (z_mn 130) (z_by 130) (z_ml 130) (z_rt 130) ∈ z_ws := z_tb_2 (List.mem_of_getElem? (i := 233) rfl) rfl
theorem z_cd_131 : Jvm.Cond.code (z_mn 131) (z_by 131) (z_ml 131) (z_rt 131) ∈ z_ws := z_tb_3 (List.mem_of_getElem? (i := 34) rfl) rfl
theorem z_cd_132 : Jvm.Cond.code (z_mn 132) (z_by 132) (z_ml 132) (z_rt 132) ∈ z_ws := z_tb_3 (List.mem_of_getElem? (i := 97) rfl) rfl
theorem z_cd_133 : Jvm.Cond.code (z_mn 133) (z_by 133) (z_ml 133) (z_rt 133) ∈ z_ws := z_tb_3 (List.mem_of_getElem? (i := 198) rfl) rfl
theorem z_cd_134 : Jvm.Cond.code (z_mn 134) (z_by 134) (z_ml 134) (z_rt 134) ∈ z_ws := z_tb_3 (List.mem_of_getElem? (i := 202) rfl) rfl
theorem z_cd_135 : Jvm.Cond.code (z_mn 135) (z_by 135) (z_ml 135) (z_rt 135) ∈ z_ws := z_tb_4 (List.mem_of_getElem? (i := 126) rfl) rfl
theorem z_cd_136 : Jvm.Cond.code (z_mn 136) (z_by 136) (z_ml 136) (z_rt 136) ∈ z_ws := z_tb_4 (List.mem_of_getElem? (i := 221) rfl) rfl
theorem z_cd_137 : Jvm.Cond.code (z_mn 137) (z_by 137) (z_ml 137) (z_rt 137) ∈ z_ws := z_tb_5 (List.mem_of_getElem? (i := 20) rfl) rfl
theorem z_cd_138 : Jvm.Cond.code (z_mn 138) (z_by 138) (z_ml 138) (z_rt 138) ∈ z_ws := z_tb_5 (List.mem_of_getElem? (i := 185) rfl) rfl
theorem z_cd_139 : Jvm.Cond.code (z_mn 139) (z_by 139) (z_ml 139) (z_rt 139) ∈ z_ws := z_tb_5 (List.mem_of_getElem? (i := 180) rfl) rfl
theorem z_cd_140 : Jvm.Cond.code (z_mn 140) (z_by 140) (z_ml 140) (z_rt 140) ∈ z_ws := z_tb_5 (List.mem_of_getElem? (i := 177) rfl) rfl
theorem z_cd_141 : Jvm.Cond.code (z_mn 141) (z_by 141) (z_ml 141) (z_rt 141) ∈ z_ws := z_tb_6 (List.mem_of_getElem? (i := 140) rfl) rfl
theorem z_cd_142 : Jvm.Cond.code (z_mn 142) (z_by 142) (z_ml 142) (z_rt 142) ∈ z_ws := z_tb_5 (List.mem_of_getElem? (i := 232) rfl) rfl
theorem z_cd_143 : Jvm.Cond.code (z_mn 143) (z_by 143) (z_ml 143) (z_rt 143) ∈ z_ws := z_tb_6 (List.mem_of_getElem? (i := 57) rfl) rfl
theorem z_cd_144 : Jvm.Cond.code (z_mn 144) (z_by 144) (z_ml 144) (z_rt 144) ∈ z_ws := z_tb_6 (List.mem_of_getElem? (i := 137) rfl) rfl
theorem z_cd_145 : Jvm.Cond.code (z_mn 145) (z_by 145) (z_ml 145) (z_rt 145) ∈ z_ws := z_tb_7 (List.mem_of_getElem? (i := 22) rfl) rfl
theorem z_cd_146 : Jvm.Cond.code (z_mn 146) (z_by 146) (z_ml 146) (z_rt 146) ∈ z_ws := z_tb_6 (List.mem_of_getElem? (i := 8) rfl) rfl
theorem z_cd_147 : Jvm.Cond.code (z_mn 147) (z_by 147) (z_ml 147) (z_rt 147) ∈ z_ws := z_tb_6 (List.mem_of_getElem? (i := 13) rfl) rfl
theorem z_cd_148 : Jvm.Cond.code (z_mn 148) (z_by 148) (z_ml 148) (z_rt 148) ∈ z_ws := z_tb_6 (List.mem_of_getElem? (i := 41) rfl) rfl
theorem z_cd_149 : Jvm.Cond.code (z_mn 149) (z_by 149) (z_ml 149) (z_rt 149) ∈ z_ws := z_tb_6 (List.mem_of_getElem? (i := 29) rfl) rfl
theorem z_cd_150 : Jvm.Cond.code (z_mn 150) (z_by 150) (z_ml 150) (z_rt 150) ∈ z_ws := z_tb_6 (List.mem_of_getElem? (i := 25) rfl) rfl
theorem z_cd_151 : Jvm.Cond.code (z_mn 151) (z_by 151) (z_ml 151) (z_rt 151) ∈ z_ws := z_tb_6 (List.mem_of_getElem? (i := 37) rfl) rfl
theorem z_cd_152 : Jvm.Cond.code (z_mn 152) (z_by 152) (z_ml 152) (z_rt 152) ∈ z_ws := z_tb_6 (List.mem_of_getElem? (i := 33) rfl) rfl
theorem z_cd_153 : Jvm.Cond.code (z_mn 153) (z_by 153) (z_ml 153) (z_rt 153) ∈ z_ws := z_tb_6 (List.mem_of_getElem? (i := 21) rfl) rfl
theorem z_cd_154 : Jvm.Cond.code (z_mn 154) (z_by 154) (z_ml 154) (z_rt 154) ∈ z_ws := z_tb_6 (List.mem_of_getElem? (i := 17) rfl) rfl
theorem z_cd_155 : Jvm.Cond.code (z_mn 155) (z_by 155) (z_ml 155) (z_rt 155) ∈ z_ws := z_tb_5 (List.mem_of_getElem? (i := 174) rfl) rfl
theorem z_cd_156 : Jvm.Cond.code (z_mn 156) (z_by 156) (z_ml 156) (z_rt 156) ∈ z_ws := z_tb_5 (List.mem_of_getElem? (i := 189) rfl) rfl
theorem z_cd_157 : Jvm.Cond.code (z_mn 157) (z_by 157) (z_ml 157) (z_rt 157) ∈ z_ws := z_tb_5 (List.mem_of_getElem? (i := 207) rfl) rfl
theorem z_cd_158 : Jvm.Cond.code (z_mn 158) (z_by 158) (z_ml 158) (z_rt 158) ∈ z_ws := z_tb_5 (List.mem_of_getElem? (i := 211) rfl) rfl
theorem z_cd_159 : Jvm.Cond.code (z_mn 159) (z_by 159) (z_ml 159) (z_rt 159) ∈ z_ws := z_tb_5 (List.mem_of_getElem? (i := 203) rfl) rfl
theorem z_cd_160 : Jvm.Cond.code (z_mn 160) (z_by 160) (z_ml 160) (z_rt 160) ∈ z_ws := z_tb_5 (List.mem_of_getElem? (i := 219) rfl) rfl
theorem z_cd_161 : Jvm.Cond.code (z_mn 161) (z_by 161) (z_ml 161) (z_rt 161) ∈ z_ws := z_tb_5 (List.mem_of_getElem? (i := 215) rfl) rfl
theorem z_cd_162 : Jvm.Cond.code (z_mn 162) (z_by 162) (z_ml 162) (z_rt 162) ∈ z_ws := z_tb_5 (List.mem_of_getElem? (i := 199) rfl) rfl
theorem z_cd_163 : Jvm.Cond.code (z_mn 163) (z_by 163) (z_ml 163) (z_rt 163) ∈ z_ws := z_tb_5 (List.mem_of_getElem? (i := 224) rfl) rfl
theorem z_cd_164 : Jvm.Cond.code (z_mn 164) (z_by 164) (z_ml 164) (z_rt 164) ∈ z_ws := z_tb_5 (List.mem_of_getElem? (i := 195) rfl) rfl
theorem z_cd_165 : Jvm.Cond.code (z_mn 165) (z_by 165) (z_ml 165) (z_rt 165) ∈ z_ws := z_tb_5 (List.mem_of_getElem? (i := 236) rfl) rfl
theorem z_cd_166 : Jvm.Cond.code (z_mn 166) (z_by 166) (z_ml 166) (z_rt 166) ∈ z_ws := z_tb_5 (List.mem_of_getElem? (i := 228) rfl) rfl
theorem z_cd_167 : Jvm.Cond.code (z_mn 167) (z_by 167) (z_ml 167) (z_rt 167) ∈ z_ws := z_tb_6 (List.mem_of_getElem? (i := 1) rfl) rfl
theorem z_cd_168 : Jvm.Cond.code (z_mn 168) (z_by 168) (z_ml 168) (z_rt 168) ∈ z_ws := z_tb_6 (List.mem_of_getElem? (i := 5) rfl) rfl
theorem z_cd_169 : Jvm.Cond.code (z_mn 169) (z_by 169) (z_ml 169) (z_rt 169) ∈ z_ws := z_tb_6 (List.mem_of_getElem? (i := 45) rfl) rfl
theorem z_cd_170 : Jvm.Cond.code (z_mn 170) (z_by 170) (z_ml 170) (z_rt 170) ∈ z_ws := z_tb_6 (List.mem_of_getElem? (i := 49) rfl) rfl
theorem z_cd_171 : Jvm.Cond.code (z_mn 171) (z_by 171) (z_ml 171) (z_rt 171) ∈ z_ws := z_tb_6 (List.mem_of_getElem? (i := 53) rfl) rfl
theorem z_cd_172 : Jvm.Cond.code (z_mn 172) (z_by 172) (z_ml 172) (z_rt 172) ∈ z_ws := z_tb_6 (List.mem_of_getElem? (i := 61) rfl) rfl
theorem z_cd_173 : Jvm.Cond.code (z_mn 173) (z_by 173) (z_ml 173) (z_rt 173) ∈ z_ws := z_tb_6 (List.mem_of_getElem? (i := 70) rfl) rfl
theorem z_cd_174 : Jvm.Cond.code (z_mn 174) (z_by 174) (z_ml 174) (z_rt 174) ∈ z_ws := z_tb_6 (List.mem_of_getElem? (i := 74) rfl) rfl
theorem z_cd_175 : Jvm.Cond.code (z_mn 175) (z_by 175) (z_ml 175) (z_rt 175) ∈ z_ws := z_tb_6 (List.mem_of_getElem? (i := 66) rfl) rfl
theorem z_cd_176 : Jvm.Cond.code (z_mn 176) (z_by 176) (z_ml 176) (z_rt 176) ∈ z_ws := z_tb_6 (List.mem_of_getElem? (i := 78) rfl) rfl
theorem z_cd_177 : Jvm.Cond.code (z_mn 177) (z_by 177) (z_ml 177) (z_rt 177) ∈ z_ws := z_tb_6 (List.mem_of_getElem? (i := 94) rfl) rfl
theorem z_cd_178 : Jvm.Cond.code (z_mn 178) (z_by 178) (z_ml 178) (z_rt 178) ∈ z_ws := z_tb_6 (List.mem_of_getElem? (i := 90) rfl) rfl
theorem z_cd_179 : Jvm.Cond.code (z_mn 179) (z_by 179) (z_ml 179) (z_rt 179) ∈ z_ws := z_tb_6 (List.mem_of_getElem? (i := 86) rfl) rfl
theorem z_cd_180 : Jvm.Cond.code (z_mn 180) (z_by 180) (z_ml 180) (z_rt 180) ∈ z_ws := z_tb_6 (List.mem_of_getElem? (i := 82) rfl) rfl
theorem z_cd_181 : Jvm.Cond.code (z_mn 181) (z_by 181) (z_ml 181) (z_rt 181) ∈ z_ws := z_tb_6 (List.mem_of_getElem? (i := 101) rfl) rfl
theorem z_cd_182 : Jvm.Cond.code (z_mn 182) (z_by 182) (z_ml 182) (z_rt 182) ∈ z_ws := z_tb_6 (List.mem_of_getElem? (i := 98) rfl) rfl
theorem z_cd_183 : Jvm.Cond.code (z_mn 183) (z_by 183) (z_ml 183) (z_rt 183) ∈ z_ws := z_tb_6 (List.mem_of_getElem? (i := 105) rfl) rfl
theorem z_cd_184 : Jvm.Cond.code (z_mn 184) (z_by 184) (z_ml 184) (z_rt 184) ∈ z_ws := z_tb_6 (List.mem_of_getElem? (i := 117) rfl) rfl
theorem z_cd_185 : Jvm.Cond.code (z_mn 185) (z_by 185) (z_ml 185) (z_rt 185) ∈ z_ws := z_tb_6 (List.mem_of_getElem? (i := 113) rfl) rfl
theorem z_cd_186 : Jvm.Cond.code (z_mn 186) (z_by 186) (z_ml 186) (z_rt 186) ∈ z_ws := z_tb_6 (List.mem_of_getElem? (i := 109) rfl) rfl
theorem z_cd_187 : Jvm.Cond.code (z_mn 187) (z_by 187) (z_ml 187) (z_rt 187) ∈ z_ws := z_tb_6 (List.mem_of_getElem? (i := 121) rfl) rfl
theorem z_cd_188 : Jvm.Cond.code (z_mn 188) (z_by 188) (z_ml 188) (z_rt 188) ∈ z_ws := z_tb_6 (List.mem_of_getElem? (i := 125) rfl) rfl
theorem z_cd_189 : Jvm.Cond.code (z_mn 189) (z_by 189) (z_ml 189) (z_rt 189) ∈ z_ws := z_tb_6 (List.mem_of_getElem? (i := 129) rfl) rfl
theorem z_cd_190 : Jvm.Cond.code (z_mn 190) (z_by 190) (z_ml 190) (z_rt 190) ∈ z_ws := z_tb_6 (List.mem_of_getElem? (i := 133) rfl) rfl
theorem z_cd_191 : Jvm.Cond.code (z_mn 191) (z_by 191) (z_ml 191) (z_rt 191) ∈ z_ws := z_tb_6 (List.mem_of_getElem? (i := 149) rfl) rfl
theorem z_cd_192 : Jvm.Cond.code (z_mn 192) (z_by 192) (z_ml 192) (z_rt 192) ∈ z_ws := z_tb_6 (List.mem_of_getElem? (i := 145) rfl) rfl
theorem z_cd_193 : Jvm.Cond.code (z_mn 193) (z_by 193) (z_ml 193) (z_rt 193) ∈ z_ws := z_tb_6 (List.mem_of_getElem? (i := 157) rfl) rfl
theorem z_cd_194 : Jvm.Cond.code (z_mn 194) (z_by 194) (z_ml 194) (z_rt 194) ∈ z_ws := z_tb_6 (List.mem_of_getElem? (i := 161) rfl) rfl
theorem z_cd_195 : Jvm.Cond.code (z_mn 195) (z_by 195) (z_ml 195) (z_rt 195) ∈ z_ws := z_tb_6 (List.mem_of_getElem? (i := 165) rfl) rfl
theorem z_cd_196 : Jvm.Cond.code (z_mn 196) (z_by 196) (z_ml 196) (z_rt 196) ∈ z_ws := z_tb_6 (List.mem_of_getElem? (i := 185) rfl) rfl
theorem z_cd_197 : Jvm.Cond.code (z_mn 197) (z_by 197) (z_ml 197) (z_rt 197) ∈ z_ws := z_tb_6 (List.mem_of_getElem? (i := 153) rfl) rfl
theorem z_cd_198 : Jvm.Cond.code (z_mn 198) (z_by 198) (z_ml 198) (z_rt 198) ∈ z_ws := z_tb_6 (List.mem_of_getElem? (i := 169) rfl) rfl
theorem z_cd_199 : Jvm.Cond.code (z_mn 199) (z_by 199) (z_ml 199) (z_rt 199) ∈ z_ws := z_tb_6 (List.mem_of_getElem? (i := 173) rfl) rfl
theorem z_cd_200 : Jvm.Cond.code (z_mn 200) (z_by 200) (z_ml 200) (z_rt 200) ∈ z_ws := z_tb_6 (List.mem_of_getElem? (i := 181) rfl) rfl
theorem z_cd_201 : Jvm.Cond.code (z_mn 201) (z_by 201) (z_ml 201) (z_rt 201) ∈ z_ws := z_tb_6 (List.mem_of_getElem? (i := 177) rfl) rfl
theorem z_cd_202 : Jvm.Cond.code (z_mn 202) (z_by 202) (z_ml 202) (z_rt 202) ∈ z_ws := z_tb_6 (List.mem_of_getElem? (i := 193) rfl) rfl
theorem z_cd_203 : Jvm.Cond.code (z_mn 203) (z_by 203) (z_ml 203) (z_rt 203) ∈ z_ws := z_tb_6 (List.mem_of_getElem? (i := 189) rfl) rfl
theorem z_cd_204 : Jvm.Cond.code (z_mn 204) (z_by 204) (z_ml 204) (z_rt 204) ∈ z_ws := z_tb_6 (List.mem_of_getElem? (i := 197) rfl) rfl
theorem z_cd_205 : Jvm.Cond.code (z_mn 205) (z_by 205) (z_ml 205) (z_rt 205) ∈ z_ws := z_tb_6 (List.mem_of_getElem? (i := 201) rfl) rfl
theorem z_cd_206 : Jvm.Cond.code (z_mn 206) (z_by 206) (z_ml 206) (z_rt 206) ∈ z_ws := z_tb_6 (List.mem_of_getElem? (i := 205) rfl) rfl
theorem z_cd_207 : Jvm.Cond.code (z_mn 207) (z_by 207) (z_ml 207) (z_rt 207) ∈ z_ws := z_tb_6 (List.mem_of_getElem? (i := 209) rfl) rfl
theorem z_cd_208 : Jvm.Cond.code (z_mn 208) (z_by 208) (z_ml 208) (z_rt 208) ∈ z_ws := z_tb_6 (List.mem_of_getElem? (i := 228) rfl) rfl
theorem z_cd_209 : Jvm.Cond.code (z_mn 209) (z_by 209) (z_ml 209) (z_rt 209) ∈ z_ws := z_tb_6 (List.mem_of_getElem? (i := 231) rfl) rfl
theorem z_cd_210 : Jvm.Cond.code (z_mn 210) (z_by 210) (z_ml 210) (z_rt 210) ∈ z_ws := z_tb_6 (List.mem_of_getElem? (i := 225) rfl) rfl
theorem z_cd_211 : Jvm.Cond.code (z_mn 211) (z_by 211) (z_ml 211) (z_rt 211) ∈ z_ws := z_tb_6 (List.mem_of_getElem? (i := 235) rfl) rfl
theorem z_cd_212 : Jvm.Cond.code (z_mn 212) (z_by 212) (z_ml 212) (z_rt 212) ∈ z_ws := z_tb_7 (List.mem_of_getElem? (i := 7) rfl) rfl
theorem z_cd_213 : Jvm.Cond.code (z_mn 213) (z_by 213) (z_ml 213) (z_rt 213) ∈ z_ws := z_tb_7 (List.mem_of_getElem? (i := 3) rfl) rfl
theorem z_cd_214 : Jvm.Cond.code (z_mn 214) (z_by 214) (z_ml 214) (z_rt 214) ∈ z_ws := z_tb_6 (List.mem_of_getElem? (i := 239) rfl) rfl
theorem z_cd_215 : Jvm.Cond.code (z_mn 215) (z_by 215) (z_ml 215) (z_rt 215) ∈ z_ws := z_tb_6 (List.mem_of_getElem? (i := 221) rfl) rfl
theorem z_cd_216 : Jvm.Cond.code (z_mn 216) (z_by 216) (z_ml 216) (z_rt 216) ∈ z_ws := z_tb_6 (List.mem_of_getElem? (i := 217) rfl) rfl
theorem z_cd_217 : Jvm.Cond.code (z_mn 217) (z_by 217) (z_ml 217) (z_rt 217) ∈ z_ws := z_tb_6 (List.mem_of_getElem? (i := 213) rfl) rfl
theorem z_cd_218 : Jvm.Cond.code (z_mn 218) (z_by 218) (z_ml 218) (z_rt 218) ∈ z_ws := z_tb_7 (List.mem_of_getElem? (i := 11) rfl) rfl
theorem z_cd_219 : Jvm.Cond.code (z_mn 219) (z_by 219) (z_ml 219) (z_rt 219) ∈ z_ws := z_tb_7 (List.mem_of_getElem? (i := 15) rfl) rfl
theorem z_cd_220 : Jvm.Cond.code (z_mn 220) (z_by 220) (z_ml 220) (z_rt 220) ∈ z_ws := z_tb_7 (List.mem_of_getElem? (i := 19) rfl) rfl
theorem z_cd_221 : Jvm.Cond.code (z_mn 221) (z_by 221) (z_ml 221) (z_rt 221) ∈ z_ws := z_tb_7 (List.mem_of_getElem? (i := 26) rfl) rfl
theorem z_cd_222 : Jvm.Cond.code (z_mn 222) (z_by 222) (z_ml 222) (z_rt 222) ∈ z_ws := z_tb_7 (List.mem_of_getElem? (i := 30) rfl) rfl
theorem z_cd_223 : Jvm.Cond.code (z_mn 223) (z_by 223) (z_ml 223) (z_rt 223) ∈ z_ws := z_tb_7 (List.mem_of_getElem? (i := 43) rfl) rfl
theorem z_cd_224 : Jvm.Cond.code (z_mn 224) (z_by 224) (z_ml 224) (z_rt 224) ∈ z_ws := z_tb_7 (List.mem_of_getElem? (i := 38) rfl) rfl
theorem z_cd_225 : Jvm.Cond.code (z_mn 225) (z_by 225) (z_ml 225) (z_rt 225) ∈ z_ws := z_tb_7 (List.mem_of_getElem? (i := 51) rfl) rfl
theorem z_cd_226 : Jvm.Cond.code (z_mn 226) (z_by 226) (z_ml 226) (z_rt 226) ∈ z_ws := z_tb_7 (List.mem_of_getElem? (i := 34) rfl) rfl
theorem z_cd_227 : Jvm.Cond.code (z_mn 227) (z_by 227) (z_ml 227) (z_rt 227) ∈ z_ws := z_tb_7 (List.mem_of_getElem? (i := 55) rfl) rfl
theorem z_cd_228 : Jvm.Cond.code (z_mn 228) (z_by 228) (z_ml 228) (z_rt 228) ∈ z_ws := z_tb_7 (List.mem_of_getElem? (i := 47) rfl) rfl
theorem z_cd_229 : Jvm.Cond.code (z_mn 229) (z_by 229) (z_ml 229) (z_rt 229) ∈ z_ws := z_tb_7 (List.mem_of_getElem? (i := 59) rfl) rfl
theorem z_cd_230 : Jvm.Cond.code (z_mn 230) (z_by 230) (z_ml 230) (z_rt 230) ∈ z_ws := z_tb_7 (List.mem_of_getElem? (i := 67) rfl) rfl
theorem z_cd_231 : Jvm.Cond.code (z_mn 231) (z_by 231) (z_ml 231) (z_rt 231) ∈ z_ws := z_tb_7 (List.mem_of_getElem? (i := 63) rfl) rfl
theorem z_cd_232 : Jvm.Cond.code (z_mn 232) (z_by 232) (z_ml 232) (z_rt 232) ∈ z_ws := z_tb_7 (List.mem_of_getElem? (i := 71) rfl) rfl
theorem z_cd_233 : Jvm.Cond.code (z_mn 233) (z_by 233) (z_ml 233) (z_rt 233) ∈ z_ws := z_tb_7 (List.mem_of_getElem? (i := 78) rfl) rfl
theorem z_cd_234 : Jvm.Cond.code (z_mn 234) (z_by 234) (z_ml 234) (z_rt 234) ∈ z_ws := z_tb_7 (List.mem_of_getElem? (i := 75) rfl) rfl
theorem z_cd_235 : Jvm.Cond.code (z_mn 235) (z_by 235) (z_ml 235) (z_rt 235) ∈ z_ws := z_tb_7 (List.mem_of_getElem? (i := 83) rfl) rfl
theorem z_cd_236 : Jvm.Cond.code (z_mn 236) (z_by 236) (z_ml 236) (z_rt 236) ∈ z_ws := z_tb_7 (List.mem_of_getElem? (i := 88) rfl) rfl
theorem z_cd_237 : Jvm.Cond.code (z_mn 237) (z_by 237) (z_ml 237) (z_rt 237) ∈ z_ws := z_tb_7 (List.mem_of_getElem? (i := 92) rfl) rfl
theorem z_cd_238 : Jvm.Cond.code (z_mn 238) (z_by 238) (z_ml 238) (z_rt 238) ∈ z_ws := z_tb_7 (List.mem_of_getElem? (i := 96) rfl) rfl
theorem z_cd_239 : Jvm.Cond.code (z_mn 239) (z_by 239) (z_ml 239) (z_rt 239) ∈ z_ws := z_tb_1 (List.mem_of_getElem? (i := 192) rfl) rfl
theorem z_cd_240 : Jvm.Cond.code (z_mn 240) (z_by 240) (z_ml 240) (z_rt 240) ∈ z_ws := z_tb_4 (List.mem_of_getElem? (i := 58) rfl) rfl
theorem z_cd_241 : Jvm.Cond.code (z_mn 241) (z_by 241) (z_ml 241) (z_rt 241) ∈ z_ws := z_tb_2 (List.mem_of_getElem? (i := 128) rfl) rfl
theorem z_cd_242 : Jvm.Cond.code (z_mn 242) (z_by 242) (z_ml 242) (z_rt 242) ∈ z_ws := z_tb_2 (List.mem_of_getElem? (i := 125) rfl) rfl
theorem z_cd_243 : Jvm.Cond.code (z_mn 243) (z_by 243) (z_ml 243) (z_rt 243) ∈ z_ws := z_tb_2 (List.mem_of_getElem? (i := 98) rfl) rfl
theorem z_cd_244 : Jvm.Cond.code (z_mn 244) (z_by 244) (z_ml 244) (z_rt 244) ∈ z_ws := z_tb_2 (List.mem_of_getElem? (i := 102) rfl) rfl
theorem z_cd_245 : Jvm.Cond.code (z_mn 245) (z_by 245) (z_ml 245) (z_rt 245) ∈ z_ws := z_tb_2 (List.mem_of_getElem? (i := 106) rfl) rfl
theorem z_cd_246 : Jvm.Cond.code (z_mn 246) (z_by 246) (z_ml 246) (z_rt 246) ∈ z_ws := z_tb_2 (List.mem_of_getElem? (i := 112) rfl) rfl
theorem z_cd_247 : Jvm.Cond.code (z_mn 247) (z_by 247) (z_ml 247) (z_rt 247) ∈ z_ws := z_tb_2 (List.mem_of_getElem? (i := 116) rfl) rfl
theorem z_cd_248 : Jvm.Cond.code (z_mn 248) (z_by 248) (z_ml 248) (z_rt 248) ∈ z_ws := z_tb_2 (List.mem_of_getElem? (i := 119) rfl) rfl
theorem z_cd_249 : Jvm.Cond.code (z_mn 249) (z_by 249) (z_ml 249) (z_rt 249) ∈ z_ws := z_tb_2 (List.mem_of_getElem? (i := 122) rfl) rfl
theorem z_cdq_0 : ∀ k, k < 31 → Jvm.Cond.code (z_mn (0 + k)) (z_by (0 + k)) (z_ml (0 + k)) (z_rt (0 + k)) ∈ z_ws := by
  intro k hk
  match k, hk with
  | 0, _ => exact z_cd_0
  | 1, _ => exact z_cd_1
  | 2, _ => exact z_cd_2
  | 3, _ => exact z_cd_3
  | 4, _ => exact z_cd_4
  | 5, _ => exact z_cd_5
  | 6, _ => exact z_cd_6
  | 7, _ => exact z_cd_7
  | 8, _ => exact z_cd_8
  | 9, _ => exact z_cd_9
  | 10, _ => exact z_cd_10
  | 11, _ => exact z_cd_11
  | 12, _ => exact z_cd_12
  | 13, _ => exact z_cd_13
  | 14, _ => exact z_cd_14
  | 15, _ => exact z_cd_15
  | 16, _ => exact z_cd_16
  | 17, _ => exact z_cd_17
  | 18, _ => exact z_cd_18
  | 19, _ => exact z_cd_19
  | 20, _ => exact z_cd_20
  | 21, _ => exact z_cd_21
  | 22, _ => exact z_cd_22
  | 23, _ => exact z_cd_23
  | 24, _ => exact z_cd_24
  | 25, _ => exact z_cd_25
  | 26, _ => exact z_cd_26
  | 27, _ => exact z_cd_27
  | 28, _ => exact z_cd_28
  | 29, _ => exact z_cd_29
  | 30, _ => exact z_cd_30
  | k + 31, hk => exact absurd hk (by omega)
theorem z_cdq_31 : ∀ k, k < 31 → Jvm.Cond.code (z_mn (31 + k)) (z_by (31 + k)) (z_ml (31 + k)) (z_rt (31 + k)) ∈ z_ws := by
  intro k hk
  match k, hk with
  | 0, _ => exact z_cd_31
  | 1, _ => exact z_cd_32
  | 2, _ => exact z_cd_33
  | 3, _ => exact z_cd_34
  | 4, _ => exact z_cd_35
  | 5, _ => exact z_cd_36
  | 6, _ => exact z_cd_37
  | 7, _ => exact z_cd_38
  | 8, _ => exact z_cd_39
  | 9, _ => exact z_cd_40
  | 10, _ => exact z_cd_41
  | 11, _ => exact z_cd_42
  | 12, _ => exact z_cd_43
  | 13, _ => exact z_cd_44
  | 14, _ => exact z_cd_45
  | 15, _ => exact z_cd_46
  | 16, _ => exact z_cd_47
  | 17, _ => exact z_cd_48
  | 18, _ => exact z_cd_49
  | 19, _ => exact z_cd_50
  | 20, _ => exact z_cd_51
  | 21, _ => exact z_cd_52
  | 22, _ => exact z_cd_53
  | 23, _ => exact z_cd_54
  | 24, _ => exact z_cd_55
  | 25, _ => exact z_cd_56
  | 26, _ => exact z_cd_57
  | 27, _ => exact z_cd_58
  | 28, _ => exact z_cd_59
  | 29, _ => exact z_cd_60
  | 30, _ => exact z_cd_61
  | k + 31, hk => exact absurd hk (by omega)
theorem z_cdq_62 : ∀ k, k < 31 → Jvm.Cond.code (z_mn (62 + k)) (z_by (62 + k)) (z_ml (62 + k)) (z_rt (62 + k)) ∈ z_ws := by
  intro k hk
  match k, hk with
  | 0, _ => exact z_cd_62
  | 1, _ => exact z_cd_63
  | 2, _ => exact z_cd_64
  | 3, _ => exact z_cd_65
  | 4, _ => exact z_cd_66
  | 5, _ => exact z_cd_67
  | 6, _ => exact z_cd_68
  | 7, _ => exact z_cd_69
  | 8, _ => exact z_cd_70
  | 9, _ => exact z_cd_71
  | 10, _ => exact z_cd_72
  | 11, _ => exact z_cd_73
  | 12, _ => exact z_cd_74
  | 13, _ => exact z_cd_75
  | 14, _ => exact z_cd_76
  | 15, _ => exact z_cd_77
  | 16, _ => exact z_cd_78
  | 17, _ => exact z_cd_79
  | 18, _ => exact z_cd_80
  | 19, _ => exact z_cd_81
  | 20, _ => exact z_cd_82
  | 21, _ => exact z_cd_83
  | 22, _ => exact z_cd_84
  | 23, _ => exact z_cd_85
  | 24, _ => exact z_cd_86
  | 25, _ => exact z_cd_87
  | 26, _ => exact z_cd_88
  | 27, _ => exact z_cd_89
  | 28, _ => exact z_cd_90
  | 29, _ => exact z_cd_91
  | 30, _ => exact z_cd_92
  | k + 31, hk => exact absurd hk (by omega)
theorem z_cdq_93 : ∀ k, k < 31 → Jvm.Cond.code (z_mn (93 + k)) (z_by (93 + k)) (z_ml (93 + k)) (z_rt (93 + k)) ∈ z_ws := by
  intro k hk
  match k, hk with
  | 0, _ => exact z_cd_93
  | 1, _ => exact z_cd_94
  | 2, _ => exact z_cd_95
  | 3, _ => exact z_cd_96
  | 4, _ => exact z_cd_97
  | 5, _ => exact z_cd_98
  | 6, _ => exact z_cd_99
  | 7, _ => exact z_cd_100
  | 8, _ => exact z_cd_101
  | 9, _ => exact z_cd_102
  | 10, _ => exact z_cd_103
  | 11, _ => exact z_cd_104
  | 12, _ => exact z_cd_105
  | 13, _ => exact z_cd_106
  | 14, _ => exact z_cd_107
  | 15, _ => exact z_cd_108
  | 16, _ => exact z_cd_109
  | 17, _ => exact z_cd_110
  | 18, _ => exact z_cd_111
  | 19, _ => exact z_cd_112
  | 20, _ => exact z_cd_113
  | 21, _ => exact z_cd_114
  | 22, _ => exact z_cd_115
  | 23, _ => exact z_cd_116
  | 24, _ => exact z_cd_117
  | 25, _ => exact z_cd_118
  | 26, _ => exact z_cd_119
  | 27, _ => exact z_cd_120
  | 28, _ => exact z_cd_121
  | 29, _ => exact z_cd_122
  | 30, _ => exact z_cd_123
  | k + 31, hk => exact absurd hk (by omega)
theorem z_cdq_124 : ∀ k, k < 31 → Jvm.Cond.code (z_mn (124 + k)) (z_by (124 + k)) (z_ml (124 + k)) (z_rt (124 + k)) ∈ z_ws := by
  intro k hk
  match k, hk with
  | 0, _ => exact z_cd_124
  | 1, _ => exact z_cd_125
  | 2, _ => exact z_cd_126
  | 3, _ => exact z_cd_127
  | 4, _ => exact z_cd_128
  | 5, _ => exact z_cd_129
  | 6, _ => exact z_cd_130
  | 7, _ => exact z_cd_131
  | 8, _ => exact z_cd_132
  | 9, _ => exact z_cd_133
  | 10, _ => exact z_cd_134
  | 11, _ => exact z_cd_135
  | 12, _ => exact z_cd_136
  | 13, _ => exact z_cd_137
  | 14, _ => exact z_cd_138
  | 15, _ => exact z_cd_139
  | 16, _ => exact z_cd_140
  | 17, _ => exact z_cd_141
  | 18, _ => exact z_cd_142
  | 19, _ => exact z_cd_143
  | 20, _ => exact z_cd_144
  | 21, _ => exact z_cd_145
  | 22, _ => exact z_cd_146
  | 23, _ => exact z_cd_147
  | 24, _ => exact z_cd_148
  | 25, _ => exact z_cd_149
  | 26, _ => exact z_cd_150
  | 27, _ => exact z_cd_151
  | 28, _ => exact z_cd_152
  | 29, _ => exact z_cd_153
  | 30, _ => exact z_cd_154
  | k + 31, hk => exact absurd hk (by omega)
theorem z_cdq_155 : ∀ k, k < 31 → Jvm.Cond.code (z_mn (155 + k)) (z_by (155 + k)) (z_ml (155 + k)) (z_rt (155 + k)) ∈ z_ws := by
  intro k hk
  match k, hk with
  | 0, _ => exact z_cd_155
  | 1, _ => exact z_cd_156
  | 2, _ => exact z_cd_157
  | 3, _ => exact z_cd_158
  | 4, _ => exact z_cd_159
  | 5, _ => exact z_cd_160
  | 6, _ => exact z_cd_161
  | 7, _ => exact z_cd_162
  | 8, _ => exact z_cd_163
  | 9, _ => exact z_cd_164
  | 10, _ => exact z_cd_165
  | 11, _ => exact z_cd_166
  | 12, _ => exact z_cd_167
  | 13, _ => exact z_cd_168
  | 14, _ => exact z_cd_169
  | 15, _ => exact z_cd_170
  | 16, _ => exact z_cd_171
  | 17, _ => exact z_cd_172
  | 18, _ => exact z_cd_173
  | 19, _ => exact z_cd_174
  | 20, _ => exact z_cd_175
  | 21, _ => exact z_cd_176
  | 22, _ => exact z_cd_177
  | 23, _ => exact z_cd_178
  | 24, _ => exact z_cd_179
  | 25, _ => exact z_cd_180
  | 26, _ => exact z_cd_181
  | 27, _ => exact z_cd_182
  | 28, _ => exact z_cd_183
  | 29, _ => exact z_cd_184
  | 30, _ => exact z_cd_185
  | k + 31, hk => exact absurd hk (by omega)
theorem z_cdq_186 : ∀ k, k < 31 → Jvm.Cond.code (z_mn (186 + k)) (z_by (186 + k)) (z_ml (186 + k)) (z_rt (186 + k)) ∈ z_ws := by
  intro k hk
  match k, hk with
  | 0, _ => exact z_cd_186
  | 1, _ => exact z_cd_187
  | 2, _ => exact z_cd_188
  | 3, _ => exact z_cd_189
  | 4, _ => exact z_cd_190
  | 5, _ => exact z_cd_191
  | 6, _ => exact z_cd_192
  | 7, _ => exact z_cd_193
  | 8, _ => exact z_cd_194
  | 9, _ => exact z_cd_195
  | 10, _ => exact z_cd_196
  | 11, _ => exact z_cd_197
  | 12, _ => exact z_cd_198
  | 13, _ => exact z_cd_199
  | 14, _ => exact z_cd_200
  | 15, _ => exact z_cd_201
  | 16, _ => exact z_cd_202
  | 17, _ => exact z_cd_203
  | 18, _ => exact z_cd_204
  | 19, _ => exact z_cd_205
  | 20, _ => exact z_cd_206
  | 21, _ => exact z_cd_207
  | 22, _ => exact z_cd_208
  | 23, _ => exact z_cd_209
  | 24, _ => exact z_cd_210
  | 25, _ => exact z_cd_211
  | 26, _ => exact z_cd_212
  | 27, _ => exact z_cd_213
  | 28, _ => exact z_cd_214
  | 29, _ => exact z_cd_215
  | 30, _ => exact z_cd_216
  | k + 31, hk => exact absurd hk (by omega)
theorem z_cdq_217 : ∀ k, k < 31 → Jvm.Cond.code (z_mn (217 + k)) (z_by (217 + k)) (z_ml (217 + k)) (z_rt (217 + k)) ∈ z_ws := by
  intro k hk
  match k, hk with
  | 0, _ => exact z_cd_217
  | 1, _ => exact z_cd_218
  | 2, _ => exact z_cd_219
  | 3, _ => exact z_cd_220
  | 4, _ => exact z_cd_221
  | 5, _ => exact z_cd_222
  | 6, _ => exact z_cd_223
  | 7, _ => exact z_cd_224
  | 8, _ => exact z_cd_225
  | 9, _ => exact z_cd_226
  | 10, _ => exact z_cd_227
  | 11, _ => exact z_cd_228
  | 12, _ => exact z_cd_229
  | 13, _ => exact z_cd_230
  | 14, _ => exact z_cd_231
  | 15, _ => exact z_cd_232
  | 16, _ => exact z_cd_233
  | 17, _ => exact z_cd_234
  | 18, _ => exact z_cd_235
  | 19, _ => exact z_cd_236
  | 20, _ => exact z_cd_237
  | 21, _ => exact z_cd_238
  | 22, _ => exact z_cd_239
  | 23, _ => exact z_cd_240
  | 24, _ => exact z_cd_241
  | 25, _ => exact z_cd_242
  | 26, _ => exact z_cd_243
  | 27, _ => exact z_cd_244
  | 28, _ => exact z_cd_245
  | 29, _ => exact z_cd_246
  | 30, _ => exact z_cd_247
  | k + 31, hk => exact absurd hk (by omega)
theorem z_cdq_248 : ∀ k, k < 2 → Jvm.Cond.code (z_mn (248 + k)) (z_by (248 + k)) (z_ml (248 + k)) (z_rt (248 + k)) ∈ z_ws := by
  intro k hk
  match k, hk with
  | 0, _ => exact z_cd_248
  | 1, _ => exact z_cd_249
  | k + 2, hk => exact absurd hk (by omega)
theorem z_cdok (y : Nat) (hy : y < 250) : Jvm.Cond.code (z_mn y) (z_by y) (z_ml y) (z_rt y) ∈ z_ws := by
  by_cases h0 : y < 31
  · obtain ⟨k, rfl⟩ : ∃ k, y = 0 + k := ⟨y - 0, by omega⟩
    exact z_cdq_0 k (by omega)
  by_cases h31 : y < 62
  · obtain ⟨k, rfl⟩ : ∃ k, y = 31 + k := ⟨y - 31, by omega⟩
    exact z_cdq_31 k (by omega)
  by_cases h62 : y < 93
  · obtain ⟨k, rfl⟩ : ∃ k, y = 62 + k := ⟨y - 62, by omega⟩
    exact z_cdq_62 k (by omega)
  by_cases h93 : y < 124
  · obtain ⟨k, rfl⟩ : ∃ k, y = 93 + k := ⟨y - 93, by omega⟩
    exact z_cdq_93 k (by omega)
  by_cases h124 : y < 155
  · obtain ⟨k, rfl⟩ : ∃ k, y = 124 + k := ⟨y - 124, by omega⟩
    exact z_cdq_124 k (by omega)
  by_cases h155 : y < 186
  · obtain ⟨k, rfl⟩ : ∃ k, y = 155 + k := ⟨y - 155, by omega⟩
    exact z_cdq_155 k (by omega)
  by_cases h186 : y < 217
  · obtain ⟨k, rfl⟩ : ∃ k, y = 186 + k := ⟨y - 186, by omega⟩
    exact z_cdq_186 k (by omega)
  by_cases h217 : y < 248
  · obtain ⟨k, rfl⟩ : ∃ k, y = 217 + k := ⟨y - 217, by omega⟩
    exact z_cdq_217 k (by omega)
  obtain ⟨k, rfl⟩ : ∃ k, y = 248 + k := ⟨y - 248, by omega⟩
  exact z_cdq_248 k (by omega)
