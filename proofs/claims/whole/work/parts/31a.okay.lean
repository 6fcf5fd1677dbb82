/-! ===== the items of the codes are what the class files say ===== -/
theorem ok_0_0 : zc_X6_rowOf_0.all (fun q => z_okI 0 q.1 q.2) = true := by decide +kernel
theorem ok_0 : (z_cds.getD 0 []).all (fun q => z_okI 0 q.1 q.2) = true := ok_0_0
theorem ok_1_0 : zc_X6_numberOf_0.all (fun q => z_okI 1 q.1 q.2) = true := by decide +kernel
theorem ok_1 : (z_cds.getD 1 []).all (fun q => z_okI 1 q.1 q.2) = true := ok_1_0
theorem ok_2_0 : zc_X6_lengthOf_0.all (fun q => z_okI 2 q.1 q.2) = true := by decide +kernel
theorem ok_2 : (z_cds.getD 2 []).all (fun q => z_okI 2 q.1 q.2) = true := ok_2_0
theorem ok_3_0 : zc_X6_fieldsIn_0.all (fun q => z_okI 3 q.1 q.2) = true := by decide +kernel
theorem ok_3 : (z_cds.getD 3 []).all (fun q => z_okI 3 q.1 q.2) = true := ok_3_0
theorem ok_4_0 : zc_X6_bitsOf_0.all (fun q => z_okI 4 q.1 q.2) = true := by decide +kernel
theorem ok_4 : (z_cds.getD 4 []).all (fun q => z_okI 4 q.1 q.2) = true := ok_4_0
theorem ok_5_0 : zc_X6_signsOf_0.all (fun q => z_okI 5 q.1 q.2) = true := by decide +kernel
theorem ok_5 : (z_cds.getD 5 []).all (fun q => z_okI 5 q.1 q.2) = true := ok_5_0
theorem ok_6_0 : zc_X6_digitsOf_0.all (fun q => z_okI 6 q.1 q.2) = true := by decide +kernel
theorem ok_6 : (z_cds.getD 6 []).all (fun q => z_okI 6 q.1 q.2) = true := ok_6_0
theorem ok_7_0 : zc_X0_init_0.all (fun q => z_okI 7 q.1 q.2) = true := by decide +kernel
theorem ok_7 : (z_cds.getD 7 []).all (fun q => z_okI 7 q.1 q.2) = true := ok_7_0
theorem ok_8_0 : zc_X0_setSimple_0.all (fun q => z_okI 8 q.1 q.2) = true := by decide +kernel
theorem ok_8 : (z_cds.getD 8 []).all (fun q => z_okI 8 q.1 q.2) = true := ok_8_0
theorem ok_9_0 : zc_X0_set_0.all (fun q => z_okI 9 q.1 q.2) = true := by decide +kernel
theorem ok_9 : (z_cds.getD 9 []).all (fun q => z_okI 9 q.1 q.2) = true := ok_9_0
theorem ok_10_0 : zc_X0_fieldsOf_0.all (fun q => z_okI 10 q.1 q.2) = true := by decide +kernel
theorem ok_10 : (z_cds.getD 10 []).all (fun q => z_okI 10 q.1 q.2) = true := ok_10_0
theorem ok_11_0 : zc_X0_over_0.all (fun q => z_okI 11 q.1 q.2) = true := by decide +kernel
theorem ok_11_1 : zc_X0_over_1.all (fun q => z_okI 11 q.1 q.2) = true := by decide +kernel
theorem ok_11 : (z_cds.getD 11 []).all (fun q => z_okI 11 q.1 q.2) = true := by
  show (zc_X0_over).all _ = true
  unfold zc_X0_over
  simp only [List.all_append, Bool.and_eq_true]
  exact ⟨ok_11_0, ok_11_1⟩
theorem ok_12_0 : zc_X1_init_0.all (fun q => z_okI 12 q.1 q.2) = true := by decide +kernel
theorem ok_12 : (z_cds.getD 12 []).all (fun q => z_okI 12 q.1 q.2) = true := ok_12_0
theorem ok_13_0 : zc_X1_addUnder_0.all (fun q => z_okI 13 q.1 q.2) = true := by decide +kernel
theorem ok_13 : (z_cds.getD 13 []).all (fun q => z_okI 13 q.1 q.2) = true := ok_13_0
theorem ok_14_0 : zc_X1_ageAll_0.all (fun q => z_okI 14 q.1 q.2) = true := by decide +kernel
theorem ok_14 : (z_cds.getD 14 []).all (fun q => z_okI 14 q.1 q.2) = true := ok_14_0
theorem ok_15_0 : zc_X1_ageBelow_0.all (fun q => z_okI 15 q.1 q.2) = true := by decide +kernel
theorem ok_15 : (z_cds.getD 15 []).all (fun q => z_okI 15 q.1 q.2) = true := ok_15_0
theorem ok_16_0 : zc_X1_rowIn_0.all (fun q => z_okI 16 q.1 q.2) = true := by decide +kernel
theorem ok_16 : (z_cds.getD 16 []).all (fun q => z_okI 16 q.1 q.2) = true := ok_16_0
theorem ok_17_0 : zc_X1_prepareStems_0.all (fun q => z_okI 17 q.1 q.2) = true := by decide +kernel
theorem ok_17 : (z_cds.getD 17 []).all (fun q => z_okI 17 q.1 q.2) = true := ok_17_0
theorem ok_18_0 : zc_X1_freshened_0.all (fun q => z_okI 18 q.1 q.2) = true := by decide +kernel
theorem ok_18 : (z_cds.getD 18 []).all (fun q => z_okI 18 q.1 q.2) = true := ok_18_0
theorem ok_19_0 : zc_X1_leastSwayed_0.all (fun q => z_okI 19 q.1 q.2) = true := by decide +kernel
theorem ok_19 : (z_cds.getD 19 []).all (fun q => z_okI 19 q.1 q.2) = true := ok_19_0
theorem ok_20_0 : zc_X1_wantIn_0.all (fun q => z_okI 20 q.1 q.2) = true := by decide +kernel
theorem ok_20 : (z_cds.getD 20 []).all (fun q => z_okI 20 q.1 q.2) = true := ok_20_0
theorem ok_21_0 : zc_X1_weigh_0.all (fun q => z_okI 21 q.1 q.2) = true := by decide +kernel
theorem ok_21_1 : zc_X1_weigh_1.all (fun q => z_okI 21 q.1 q.2) = true := by decide +kernel
theorem ok_21 : (z_cds.getD 21 []).all (fun q => z_okI 21 q.1 q.2) = true := by
  show (zc_X1_weigh).all _ = true
  unfold zc_X1_weigh
  simp only [List.all_append, Bool.and_eq_true]
  exact ⟨ok_21_0, ok_21_1⟩
theorem ok_22_0 : zc_X1_countFitting_0.all (fun q => z_okI 22 q.1 q.2) = true := by decide +kernel
theorem ok_22 : (z_cds.getD 22 []).all (fun q => z_okI 22 q.1 q.2) = true := ok_22_0
theorem ok_23_0 : zc_X1_fittingAt_0.all (fun q => z_okI 23 q.1 q.2) = true := by decide +kernel
theorem ok_23 : (z_cds.getD 23 []).all (fun q => z_okI 23 q.1 q.2) = true := ok_23_0
theorem ok_24_0 : zc_X1_soundsAt_0.all (fun q => z_okI 24 q.1 q.2) = true := by decide +kernel
theorem ok_24 : (z_cds.getD 24 []).all (fun q => z_okI 24 q.1 q.2) = true := ok_24_0
theorem ok_25_0 : zc_X1_bestFitting_0.all (fun q => z_okI 25 q.1 q.2) = true := by decide +kernel
theorem ok_25 : (z_cds.getD 25 []).all (fun q => z_okI 25 q.1 q.2) = true := ok_25_0
theorem ok_26_0 : zc_X1_unfitFor_0.all (fun q => z_okI 26 q.1 q.2) = true := by decide +kernel
theorem ok_26 : (z_cds.getD 26 []).all (fun q => z_okI 26 q.1 q.2) = true := ok_26_0
theorem ok_27_0 : zc_X1_lenderOf_0.all (fun q => z_okI 27 q.1 q.2) = true := by decide +kernel
theorem ok_27 : (z_cds.getD 27 []).all (fun q => z_okI 27 q.1 q.2) = true := ok_27_0
theorem ok_28_0 : zc_X1_countLeaning_0.all (fun q => z_okI 28 q.1 q.2) = true := by decide +kernel
theorem ok_28_1 : zc_X1_countLeaning_1.all (fun q => z_okI 28 q.1 q.2) = true := by decide +kernel
theorem ok_28 : (z_cds.getD 28 []).all (fun q => z_okI 28 q.1 q.2) = true := by
  show (zc_X1_countLeaning).all _ = true
  unfold zc_X1_countLeaning
  simp only [List.all_append, Bool.and_eq_true]
  exact ⟨ok_28_0, ok_28_1⟩
theorem ok_29_0 : zc_X1_touchedBy_0.all (fun q => z_okI 29 q.1 q.2) = true := by decide +kernel
theorem ok_29 : (z_cds.getD 29 []).all (fun q => z_okI 29 q.1 q.2) = true := ok_29_0
theorem ok_30_0 : zc_X1_gatherTouched_0.all (fun q => z_okI 30 q.1 q.2) = true := by decide +kernel
theorem ok_30 : (z_cds.getD 30 []).all (fun q => z_okI 30 q.1 q.2) = true := ok_30_0
theorem ok_31_0 : zc_X1_mute_0.all (fun q => z_okI 31 q.1 q.2) = true := by decide +kernel
theorem ok_31_1 : zc_X1_mute_1.all (fun q => z_okI 31 q.1 q.2) = true := by decide +kernel
theorem ok_31 : (z_cds.getD 31 []).all (fun q => z_okI 31 q.1 q.2) = true := by
  show (zc_X1_mute).all _ = true
  unfold zc_X1_mute
  simp only [List.all_append, Bool.and_eq_true]
  exact ⟨ok_31_0, ok_31_1⟩
theorem ok_32_0 : zc_X1_swayedIn_0.all (fun q => z_okI 32 q.1 q.2) = true := by decide +kernel
theorem ok_32_1 : zc_X1_swayedIn_1.all (fun q => z_okI 32 q.1 q.2) = true := by decide +kernel
theorem ok_32 : (z_cds.getD 32 []).all (fun q => z_okI 32 q.1 q.2) = true := by
  show (zc_X1_swayedIn).all _ = true
  unfold zc_X1_swayedIn
  simp only [List.all_append, Bool.and_eq_true]
  exact ⟨ok_32_0, ok_32_1⟩
theorem ok_33_0 : zc_X2_init_0.all (fun q => z_okI 33 q.1 q.2) = true := by decide +kernel
theorem ok_33 : (z_cds.getD 33 []).all (fun q => z_okI 33 q.1 q.2) = true := ok_33_0
theorem ok_34_0 : zc_X2_latestYear_0.all (fun q => z_okI 34 q.1 q.2) = true := by decide +kernel
theorem ok_34 : (z_cds.getD 34 []).all (fun q => z_okI 34 q.1 q.2) = true := ok_34_0
theorem ok_35_0 : zc_X2_enter_0.all (fun q => z_okI 35 q.1 q.2) = true := by decide +kernel
theorem ok_35 : (z_cds.getD 35 []).all (fun q => z_okI 35 q.1 q.2) = true := ok_35_0
theorem ok_36_0 : zc_X2_gather_0.all (fun q => z_okI 36 q.1 q.2) = true := by decide +kernel
theorem ok_36 : (z_cds.getD 36 []).all (fun q => z_okI 36 q.1 q.2) = true := ok_36_0
theorem ok_37_0 : zc_X3_init_0.all (fun q => z_okI 37 q.1 q.2) = true := by decide +kernel
theorem ok_37 : (z_cds.getD 37 []).all (fun q => z_okI 37 q.1 q.2) = true := ok_37_0
theorem ok_38_0 : zc_X3_build_0.all (fun q => z_okI 38 q.1 q.2) = true := by decide +kernel
theorem ok_38 : (z_cds.getD 38 []).all (fun q => z_okI 38 q.1 q.2) = true := ok_38_0
theorem ok_39_0 : zc_X3_close_0.all (fun q => z_okI 39 q.1 q.2) = true := by decide +kernel
theorem ok_39 : (z_cds.getD 39 []).all (fun q => z_okI 39 q.1 q.2) = true := ok_39_0
theorem ok_40_0 : zc_X3_start_0.all (fun q => z_okI 40 q.1 q.2) = true := by decide +kernel
theorem ok_40 : (z_cds.getD 40 []).all (fun q => z_okI 40 q.1 q.2) = true := ok_40_0
theorem ok_41_0 : zc_X3_enlist_0.all (fun q => z_okI 41 q.1 q.2) = true := by decide +kernel
theorem ok_41 : (z_cds.getD 41 []).all (fun q => z_okI 41 q.1 q.2) = true := ok_41_0
theorem ok_42_0 : zc_X3_spread_0.all (fun q => z_okI 42 q.1 q.2) = true := by decide +kernel
theorem ok_42 : (z_cds.getD 42 []).all (fun q => z_okI 42 q.1 q.2) = true := ok_42_0
theorem ok_43_0 : zc_X3_travel_0.all (fun q => z_okI 43 q.1 q.2) = true := by decide +kernel
theorem ok_43 : (z_cds.getD 43 []).all (fun q => z_okI 43 q.1 q.2) = true := ok_43_0
theorem ok_44_0 : zc_X3_arrive_0.all (fun q => z_okI 44 q.1 q.2) = true := by decide +kernel
theorem ok_44 : (z_cds.getD 44 []).all (fun q => z_okI 44 q.1 q.2) = true := ok_44_0
theorem ok_45_0 : zc_X3_spoken_0.all (fun q => z_okI 45 q.1 q.2) = true := by decide +kernel
theorem ok_45 : (z_cds.getD 45 []).all (fun q => z_okI 45 q.1 q.2) = true := ok_45_0
theorem ok_46_0 : zc_X3_nextWave_0.all (fun q => z_okI 46 q.1 q.2) = true := by decide +kernel
theorem ok_46 : (z_cds.getD 46 []).all (fun q => z_okI 46 q.1 q.2) = true := ok_46_0
theorem ok_47_0 : zc_X3_countSpeeches_0.all (fun q => z_okI 47 q.1 q.2) = true := by decide +kernel
theorem ok_47 : (z_cds.getD 47 []).all (fun q => z_okI 47 q.1 q.2) = true := ok_47_0
theorem ok_48_0 : zc_X3_firstParting_0.all (fun q => z_okI 48 q.1 q.2) = true := by decide +kernel
theorem ok_48 : (z_cds.getD 48 []).all (fun q => z_okI 48 q.1 q.2) = true := ok_48_0
theorem ok_49_0 : zc_X3_nextYear_0.all (fun q => z_okI 49 q.1 q.2) = true := by decide +kernel
theorem ok_49 : (z_cds.getD 49 []).all (fun q => z_okI 49 q.1 q.2) = true := ok_49_0
theorem ok_50_0 : zc_X3_speakList_0.all (fun q => z_okI 50 q.1 q.2) = true := by decide +kernel
theorem ok_50 : (z_cds.getD 50 []).all (fun q => z_okI 50 q.1 q.2) = true := ok_50_0
theorem ok_51_0 : zc_X3_speakAlike_0.all (fun q => z_okI 51 q.1 q.2) = true := by decide +kernel
theorem ok_51 : (z_cds.getD 51 []).all (fun q => z_okI 51 q.1 q.2) = true := ok_51_0
theorem ok_52_0 : zc_X4_init_0.all (fun q => z_okI 52 q.1 q.2) = true := by decide +kernel
theorem ok_52 : (z_cds.getD 52 []).all (fun q => z_okI 52 q.1 q.2) = true := ok_52_0
theorem ok_53_0 : zc_X4_tune_0.all (fun q => z_okI 53 q.1 q.2) = true := by decide +kernel
theorem ok_53 : (z_cds.getD 53 []).all (fun q => z_okI 53 q.1 q.2) = true := ok_53_0
theorem ok_54_0 : zc_X5_init_0.all (fun q => z_okI 54 q.1 q.2) = true := by decide +kernel
theorem ok_54 : (z_cds.getD 54 []).all (fun q => z_okI 54 q.1 q.2) = true := ok_54_0
theorem ok_55_0 : zc_X5_join_0.all (fun q => z_okI 55 q.1 q.2) = true := by decide +kernel
theorem ok_55 : (z_cds.getD 55 []).all (fun q => z_okI 55 q.1 q.2) = true := ok_55_0
theorem ok_56_0 : zc_X5_middleOf_0.all (fun q => z_okI 56 q.1 q.2) = true := by decide +kernel
theorem ok_56 : (z_cds.getD 56 []).all (fun q => z_okI 56 q.1 q.2) = true := ok_56_0
theorem ok_57_0 : zc_X5_search_0.all (fun q => z_okI 57 q.1 q.2) = true := by decide +kernel
theorem ok_57 : (z_cds.getD 57 []).all (fun q => z_okI 57 q.1 q.2) = true := ok_57_0
theorem ok_58_0 : zc_X5_opens_0.all (fun q => z_okI 58 q.1 q.2) = true := by decide +kernel
theorem ok_58_1 : zc_X5_opens_1.all (fun q => z_okI 58 q.1 q.2) = true := by decide +kernel
theorem ok_58 : (z_cds.getD 58 []).all (fun q => z_okI 58 q.1 q.2) = true := by
  show (zc_X5_opens).all _ = true
  unfold zc_X5_opens
  simp only [List.all_append, Bool.and_eq_true]
  exact ⟨ok_58_0, ok_58_1⟩
theorem ok_59_0 : zc_X5_closes_0.all (fun q => z_okI 59 q.1 q.2) = true := by decide +kernel
theorem ok_59_1 : zc_X5_closes_1.all (fun q => z_okI 59 q.1 q.2) = true := by decide +kernel
theorem ok_59 : (z_cds.getD 59 []).all (fun q => z_okI 59 q.1 q.2) = true := by
  show (zc_X5_closes).all _ = true
  unfold zc_X5_closes
  simp only [List.all_append, Bool.and_eq_true]
  exact ⟨ok_59_0, ok_59_1⟩
theorem ok_60_0 : zc_X5_firstUnlike_0.all (fun q => z_okI 60 q.1 q.2) = true := by decide +kernel
theorem ok_60 : (z_cds.getD 60 []).all (fun q => z_okI 60 q.1 q.2) = true := ok_60_0
theorem ok_61_0 : zc_X5_partingBits_0.all (fun q => z_okI 61 q.1 q.2) = true := by decide +kernel
theorem ok_61 : (z_cds.getD 61 []).all (fun q => z_okI 61 q.1 q.2) = true := ok_61_0
theorem ok_62_0 : zc_J1_indexOfChar_4cfef_0.all (fun q => z_okI 62 q.1 q.2) = true := by decide +kernel
theorem ok_62 : (z_cds.getD 62 []).all (fun q => z_okI 62 q.1 q.2) = true := ok_62_0
theorem ok_63_0 : zc_X5_keep_0.all (fun q => z_okI 63 q.1 q.2) = true := by decide +kernel
theorem ok_63 : (z_cds.getD 63 []).all (fun q => z_okI 63 q.1 q.2) = true := ok_63_0
theorem ok_64_0 : zc_X7_init_0.all (fun q => z_okI 64 q.1 q.2) = true := by decide +kernel
theorem ok_64 : (z_cds.getD 64 []).all (fun q => z_okI 64 q.1 q.2) = true := ok_64_0
theorem ok_65_0 : zc_X7_renew_0.all (fun q => z_okI 65 q.1 q.2) = true := by decide +kernel
theorem ok_65 : (z_cds.getD 65 []).all (fun q => z_okI 65 q.1 q.2) = true := ok_65_0
theorem ok_66_0 : zc_X7_put_0.all (fun q => z_okI 66 q.1 q.2) = true := by decide +kernel
theorem ok_66 : (z_cds.getD 66 []).all (fun q => z_okI 66 q.1 q.2) = true := ok_66_0
theorem ok_67_0 : zc_X7_hasSpan_0.all (fun q => z_okI 67 q.1 q.2) = true := by decide +kernel
theorem ok_67 : (z_cds.getD 67 []).all (fun q => z_okI 67 q.1 q.2) = true := ok_67_0
theorem ok_68_0 : zc_X8_init_0.all (fun q => z_okI 68 q.1 q.2) = true := by decide +kernel
theorem ok_68 : (z_cds.getD 68 []).all (fun q => z_okI 68 q.1 q.2) = true := ok_68_0
theorem ok_69_0 : zc_X8_append_0.all (fun q => z_okI 69 q.1 q.2) = true := by decide +kernel
theorem ok_69 : (z_cds.getD 69 []).all (fun q => z_okI 69 q.1 q.2) = true := ok_69_0
theorem ok_70_0 : zc_X8_parse_0.all (fun q => z_okI 70 q.1 q.2) = true := by decide +kernel
theorem ok_70_1 : zc_X8_parse_1.all (fun q => z_okI 70 q.1 q.2) = true := by decide +kernel
theorem ok_70 : (z_cds.getD 70 []).all (fun q => z_okI 70 q.1 q.2) = true := by
  show (zc_X8_parse).all _ = true
  unfold zc_X8_parse
  simp only [List.all_append, Bool.and_eq_true]
  exact ⟨ok_70_0, ok_70_1⟩
theorem ok_71_0 : zc_X8_kindOf_0.all (fun q => z_okI 71 q.1 q.2) = true := by decide +kernel
theorem ok_71 : (z_cds.getD 71 []).all (fun q => z_okI 71 q.1 q.2) = true := ok_71_0
theorem ok_72_0 : zc_X8_passPlace_0.all (fun q => z_okI 72 q.1 q.2) = true := by decide +kernel
theorem ok_72 : (z_cds.getD 72 []).all (fun q => z_okI 72 q.1 q.2) = true := ok_72_0
theorem ok_73_0 : zc_X8_pass_0.all (fun q => z_okI 73 q.1 q.2) = true := by decide +kernel
theorem ok_73 : (z_cds.getD 73 []).all (fun q => z_okI 73 q.1 q.2) = true := ok_73_0
theorem ok_74_0 : zc_X9_init_0.all (fun q => z_okI 74 q.1 q.2) = true := by decide +kernel
theorem ok_74 : (z_cds.getD 74 []).all (fun q => z_okI 74 q.1 q.2) = true := ok_74_0
theorem ok_75_0 : zc_X9_exchange_0.all (fun q => z_okI 75 q.1 q.2) = true := by decide +kernel
theorem ok_75 : (z_cds.getD 75 []).all (fun q => z_okI 75 q.1 q.2) = true := ok_75_0
theorem ok_76_0 : zc_X9_owns_0.all (fun q => z_okI 76 q.1 q.2) = true := by decide +kernel
theorem ok_76 : (z_cds.getD 76 []).all (fun q => z_okI 76 q.1 q.2) = true := ok_76_0
theorem ok_77_0 : zc_X9_grown_0.all (fun q => z_okI 77 q.1 q.2) = true := by decide +kernel
theorem ok_77 : (z_cds.getD 77 []).all (fun q => z_okI 77 q.1 q.2) = true := ok_77_0
theorem ok_78_0 : zc_X9_refresh_0.all (fun q => z_okI 78 q.1 q.2) = true := by decide +kernel
theorem ok_78 : (z_cds.getD 78 []).all (fun q => z_okI 78 q.1 q.2) = true := ok_78_0
theorem ok_79_0 : zc_X9_formAt_0.all (fun q => z_okI 79 q.1 q.2) = true := by decide +kernel
theorem ok_79 : (z_cds.getD 79 []).all (fun q => z_okI 79 q.1 q.2) = true := ok_79_0
theorem ok_80_0 : zc_X9_writtenAt_0.all (fun q => z_okI 80 q.1 q.2) = true := by decide +kernel
theorem ok_80 : (z_cds.getD 80 []).all (fun q => z_okI 80 q.1 q.2) = true := ok_80_0
theorem ok_81_0 : zc_X10_init_0.all (fun q => z_okI 81 q.1 q.2) = true := by decide +kernel
theorem ok_81 : (z_cds.getD 81 []).all (fun q => z_okI 81 q.1 q.2) = true := ok_81_0
theorem ok_82_0 : zc_X10_vowel_0.all (fun q => z_okI 82 q.1 q.2) = true := by decide +kernel
theorem ok_82 : (z_cds.getD 82 []).all (fun q => z_okI 82 q.1 q.2) = true := ok_82_0
theorem ok_83_0 : zc_X10_feed_0.all (fun q => z_okI 83 q.1 q.2) = true := by decide +kernel
theorem ok_83 : (z_cds.getD 83 []).all (fun q => z_okI 83 q.1 q.2) = true := ok_83_0
theorem ok_84_0 : zc_X10_law_0.all (fun q => z_okI 84 q.1 q.2) = true := by decide +kernel
theorem ok_84 : (z_cds.getD 84 []).all (fun q => z_okI 84 q.1 q.2) = true := ok_84_0
theorem ok_85_0 : zc_X10_as_0.all (fun q => z_okI 85 q.1 q.2) = true := by decide +kernel
theorem ok_85 : (z_cds.getD 85 []).all (fun q => z_okI 85 q.1 q.2) = true := ok_85_0
theorem ok_86_0 : zc_X10_about_0.all (fun q => z_okI 86 q.1 q.2) = true := by decide +kernel
theorem ok_86 : (z_cds.getD 86 []).all (fun q => z_okI 86 q.1 q.2) = true := ok_86_0
theorem ok_87_0 : zc_X10_run_0.all (fun q => z_okI 87 q.1 q.2) = true := by decide +kernel
theorem ok_87 : (z_cds.getD 87 []).all (fun q => z_okI 87 q.1 q.2) = true := ok_87_0
theorem ok_88_0 : zc_X10_holds_0.all (fun q => z_okI 88 q.1 q.2) = true := by decide +kernel
theorem ok_88 : (z_cds.getD 88 []).all (fun q => z_okI 88 q.1 q.2) = true := ok_88_0
theorem ok_89_0 : zc_X10_tongue_0.all (fun q => z_okI 89 q.1 q.2) = true := by decide +kernel
theorem ok_89 : (z_cds.getD 89 []).all (fun q => z_okI 89 q.1 q.2) = true := ok_89_0
