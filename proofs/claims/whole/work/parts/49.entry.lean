/-! ===== entries of methods, printed by wip/whole/emit_entry.py ===== -/
theorem rX6_rowOf (d : Nat) (x0 : Int32) (h : z_H) : Rn (d + 1) 0 [(z_I x0)] h = EX d 0 0 [(z_I x0), z_U, z_U, z_U, z_U] [] h := rfl
theorem rX6_numberOf (d : Nat) (x0 : Int32) (h : z_H) : Rn (d + 1) 1 [(z_I x0)] h = EX d 1 0 [(z_I x0), z_U, z_U] [] h := rfl
theorem rX6_lengthOf (d : Nat) (x0 : Int32) (h : z_H) : Rn (d + 1) 2 [(z_I x0)] h = EX d 2 0 [(z_I x0), z_U] [] h := rfl
theorem rX6_fieldsIn (d : Nat) (x0 : Int32) (x1 : Int32) (h : z_H) : Rn (d + 1) 3 [(z_I x0), (z_I x1)] h = EX d 3 0 [(z_I x0), (z_I x1), z_U, z_U, z_U] [] h := rfl
theorem rX6_bitsOf (d : Nat) (x0 : Int32) (h : z_H) : Rn (d + 1) 4 [(z_I x0)] h = EX d 4 0 [(z_I x0), z_U, z_U] [] h := rfl
theorem rX6_signsOf (d : Nat) (x0 : Int32) (r1 : Nat) (h : z_H) : Rn (d + 1) 5 [(z_I x0), (z_R 6391 r1)] h = EX d 5 0 [(z_I x0), (z_R 6391 r1), z_U, z_U, z_U, z_U] [] h := rfl
theorem rX6_digitsOf (d : Nat) (x0 : Int32) (x1 : Int32) (h : z_H) : Rn (d + 1) 6 [(z_I x0), (z_I x1)] h = EX d 6 0 [(z_I x0), (z_I x1)] [] h := rfl
theorem rX0_init (d : Nat) (r0 : Nat) (h : z_H) : Rn (d + 1) 7 [(z_R 6000 r0)] h = EX d 7 0 [(z_R 6000 r0)] [] h := rfl
theorem rX0_setSimple (d : Nat) (r0 : Nat) (x1 : Int32) (x2 : Int32) (x3 : Int32) (x4 : Int32) (h : z_H) : Rn (d + 1) 8 [(z_R 6000 r0), (z_I x1), (z_I x2), (z_I x3), (z_I x4)] h = EX d 8 0 [(z_R 6000 r0), (z_I x1), (z_I x2), (z_I x3), (z_I x4)] [] h := rfl
theorem rX0_set_a (d : Nat) (r0 : Nat) (x2 : Int32) (h : z_H) : Rn (d + 1) 9 [(z_R 6000 r0), (z_R 9371 0), (z_I x2)] h = EX d 9 0 [(z_R 6000 r0), (z_R 9371 0), (z_I x2), z_U] [] h := rfl
theorem rX0_set_b (d : Nat) (r0 : Nat) (r1 : Nat) (x2 : Int32) (h : z_H) : Rn (d + 1) 9 [(z_R 6000 r0), (z_R 9301 r1), (z_I x2)] h = EX d 9 0 [(z_R 6000 r0), (z_R 9301 r1), (z_I x2), z_U] [] h := rfl
theorem rX0_fieldsOf (d : Nat) (r0 : Nat) (x1 : Int32) (h : z_H) : Rn (d + 1) 10 [(z_R 6000 r0), (z_I x1)] h = EX d 10 0 [(z_R 6000 r0), (z_I x1), z_U, z_U, z_U] [] h := rfl
theorem rX0_over (d : Nat) (r0 : Nat) (x1 : Int32) (h : z_H) : Rn (d + 1) 11 [(z_R 6000 r0), (z_I x1)] h = EX d 11 0 [(z_R 6000 r0), (z_I x1), z_U, z_U, z_U, z_U, z_U, z_U, z_U] [] h := rfl
theorem rX1_init (d : Nat)  (h : z_H) : Rn (d + 1) 12 [(z_R 9010 0)] h = EX d 12 0 [(z_R 9010 0)] [] h := rfl
theorem rX1_addUnder (d : Nat) (x1 : Int32) (h : z_H) : Rn (d + 1) 13 [(z_R 9010 0), (z_I x1)] h = EX d 13 0 [(z_R 9010 0), (z_I x1), z_U] [] h := rfl
theorem rX1_ageAll (d : Nat)  (h : z_H) : Rn (d + 1) 14 [(z_R 9010 0)] h = EX d 14 0 [(z_R 9010 0), z_U] [] h := rfl
theorem rX1_ageBelow (d : Nat) (x1 : Int32) (h : z_H) : Rn (d + 1) 15 [(z_R 9010 0), (z_I x1)] h = EX d 15 0 [(z_R 9010 0), (z_I x1), z_U] [] h := rfl
theorem rX1_rowIn (d : Nat) (x1 : Int32) (x2 : Int32) (h : z_H) : Rn (d + 1) 16 [(z_R 9010 0), (z_I x1), (z_I x2)] h = EX d 16 0 [(z_R 9010 0), (z_I x1), (z_I x2), z_U, z_U, z_U] [] h := rfl
theorem rX1_prepareStems (d : Nat)  (h : z_H) : Rn (d + 1) 17 [(z_R 9010 0)] h = EX d 17 0 [(z_R 9010 0), z_U, z_U, z_U] [] h := rfl
theorem rX1_freshened (d : Nat) (x1 : Int32) (h : z_H) : Rn (d + 1) 18 [(z_R 9010 0), (z_I x1)] h = EX d 18 0 [(z_R 9010 0), (z_I x1), z_U, z_U, z_U] [] h := rfl
theorem rX1_leastSwayed (d : Nat) (x1 : Int32) (x2 : Int32) (h : z_H) : Rn (d + 1) 19 [(z_R 9010 0), (z_I x1), (z_I x2)] h = EX d 19 0 [(z_R 9010 0), (z_I x1), (z_I x2), z_U, z_U, z_U, z_U, z_U] [] h := rfl
theorem rX1_wantIn (d : Nat) (x1 : Int32) (x2 : Int32) (h : z_H) : Rn (d + 1) 20 [(z_R 9010 0), (z_I x1), (z_I x2)] h = EX d 20 0 [(z_R 9010 0), (z_I x1), (z_I x2)] [] h := rfl
theorem rX1_weigh (d : Nat)  (h : z_H) : Rn (d + 1) 21 [(z_R 9010 0)] h = EX d 21 0 [(z_R 9010 0), z_U, z_U, z_U, z_U, z_U] [] h := rfl
theorem rX1_countFitting (d : Nat)  (h : z_H) : Rn (d + 1) 22 [(z_R 9010 0)] h = EX d 22 0 [(z_R 9010 0), z_U, z_U] [] h := rfl
theorem rX1_fittingAt (d : Nat) (x1 : Int32) (h : z_H) : Rn (d + 1) 23 [(z_R 9010 0), (z_I x1)] h = EX d 23 0 [(z_R 9010 0), (z_I x1), z_U, z_U] [] h := rfl
theorem rX1_soundsAt (d : Nat) (x1 : Int32) (h : z_H) : Rn (d + 1) 24 [(z_R 9010 0), (z_I x1)] h = EX d 24 0 [(z_R 9010 0), (z_I x1), z_U, z_U, z_U] [] h := rfl
theorem rX1_bestFitting (d : Nat)  (h : z_H) : Rn (d + 1) 25 [(z_R 9010 0)] h = EX d 25 0 [(z_R 9010 0), z_U, z_U] [] h := rfl
theorem rX1_unfitFor (d : Nat) (x1 : Int32) (h : z_H) : Rn (d + 1) 26 [(z_R 9010 0), (z_I x1)] h = EX d 26 0 [(z_R 9010 0), (z_I x1), z_U, z_U] [] h := rfl
theorem rX1_lenderOf (d : Nat) (x1 : Int32) (x2 : Int32) (h : z_H) : Rn (d + 1) 27 [(z_R 9010 0), (z_I x1), (z_I x2)] h = EX d 27 0 [(z_R 9010 0), (z_I x1), (z_I x2), z_U, z_U, z_U, z_U] [] h := rfl
theorem rX1_countLeaning (d : Nat) (x1 : Int32) (x3 : Int32) (h : z_H) : Rn (d + 1) 28 [(z_R 9010 0), (z_I x1), (z_R 6020 0), (z_I x3)] h = EX d 28 0 [(z_R 9010 0), (z_I x1), (z_R 6020 0), (z_I x3), z_U, z_U, z_U, z_U, z_U] [] h := rfl
theorem rX1_touchedBy (d : Nat) (x1 : Int32) (h : z_H) : Rn (d + 1) 29 [(z_R 9010 0), (z_I x1)] h = EX d 29 0 [(z_R 9010 0), (z_I x1), z_U, z_U, z_U] [] h := rfl
theorem rX1_gatherTouched (d : Nat) (x2 : Int32) (x3 : Int32) (h : z_H) : Rn (d + 1) 30 [(z_R 9010 0), (z_R 6020 0), (z_I x2), (z_I x3)] h = EX d 30 0 [(z_R 9010 0), (z_R 6020 0), (z_I x2), (z_I x3), z_U, z_U, z_U] [] h := rfl
theorem rX1_mute (d : Nat) (x1 : Int32) (x2 : Int32) (x3 : Int32) (h : z_H) : Rn (d + 1) 31 [(z_R 9010 0), (z_I x1), (z_I x2), (z_I x3)] h = EX d 31 0 [(z_R 9010 0), (z_I x1), (z_I x2), (z_I x3), z_U, z_U, z_U, z_U] [] h := rfl
theorem rX1_swayedIn (d : Nat) (x1 : Int32) (x2 : Int32) (x3 : Int32) (h : z_H) : Rn (d + 1) 32 [(z_R 9010 0), (z_I x1), (z_I x2), (z_I x3)] h = EX d 32 0 [(z_R 9010 0), (z_I x1), (z_I x2), (z_I x3), z_U, z_U, z_U, z_U, z_U, z_U] [] h := rfl
theorem rX2_init (d : Nat)  (h : z_H) : Rn (d + 1) 33 [(z_R 6020 0)] h = EX d 33 0 [(z_R 6020 0)] [] h := rfl
theorem rX2_latestYear (d : Nat)  (h : z_H) : Rn (d + 1) 34 [(z_R 6020 0)] h = EX d 34 0 [(z_R 6020 0)] [] h := rfl
theorem rX2_enter (d : Nat) (x1 : Int32) (x2 : Int32) (x3 : Int32) (x4 : Int32) (h : z_H) : Rn (d + 1) 35 [(z_R 6020 0), (z_I x1), (z_I x2), (z_I x3), (z_I x4)] h = EX d 35 0 [(z_R 6020 0), (z_I x1), (z_I x2), (z_I x3), (z_I x4)] [] h := rfl
theorem rX2_gather (d : Nat) (x1 : Int32) (x2 : Int32) (h : z_H) : Rn (d + 1) 36 [(z_R 6020 0), (z_I x1), (z_I x2), (z_R 8121 0)] h = EX d 36 0 [(z_R 6020 0), (z_I x1), (z_I x2), (z_R 8121 0), z_U] [] h := rfl
theorem rX3_init (d : Nat)  (h : z_H) : Rn (d + 1) 37 [(z_R 11030 0)] h = EX d 37 0 [(z_R 11030 0)] [] h := rfl
theorem rX3_build (d : Nat) (x1 : Int32) (x2 : Int32) (x3 : Int32) (h : z_H) : Rn (d + 1) 38 [(z_R 11030 0), (z_I x1), (z_I x2), (z_I x3)] h = EX d 38 0 [(z_R 11030 0), (z_I x1), (z_I x2), (z_I x3), z_U] [] h := rfl
theorem rX3_close (d : Nat) (x1 : Int32) (x2 : Int32) (h : z_H) : Rn (d + 1) 39 [(z_R 11030 0), (z_I x1), (z_I x2)] h = EX d 39 0 [(z_R 11030 0), (z_I x1), (z_I x2), z_U] [] h := rfl
theorem rX3_start (d : Nat) (r1 : Nat) (x2 : Int32) (x3 : Int32) (h : z_H) : Rn (d + 1) 40 [(z_R 11030 0), (z_R 6000 r1), (z_I x2), (z_I x3)] h = EX d 40 0 [(z_R 11030 0), (z_R 6000 r1), (z_I x2), (z_I x3)] [] h := rfl
theorem rX3_enlist (d : Nat) (x1 : Int32) (h : z_H) : Rn (d + 1) 41 [(z_R 11030 0), (z_I x1)] h = EX d 41 0 [(z_R 11030 0), (z_I x1)] [] h := rfl
theorem rX3_spread (d : Nat)  (h : z_H) : Rn (d + 1) 42 [(z_R 11030 0)] h = EX d 42 0 [(z_R 11030 0), z_U, z_U, z_U] [] h := rfl
theorem rX3_travel (d : Nat) (x1 : Int32) (h : z_H) : Rn (d + 1) 43 [(z_R 11030 0), (z_I x1)] h = EX d 43 0 [(z_R 11030 0), (z_I x1), z_U, z_U, z_U, z_U, z_U] [] h := rfl
theorem rX3_arrive (d : Nat) (x1 : Int32) (x2 : Int32) (x3 : Int32) (h : z_H) : Rn (d + 1) 44 [(z_R 11030 0), (z_I x1), (z_I x2), (z_I x3)] h = EX d 44 0 [(z_R 11030 0), (z_I x1), (z_I x2), (z_I x3), z_U, z_U] [] h := rfl
theorem rX3_spoken (d : Nat) (x1 : Int32) (x2 : Int32) (x3 : Int32) (h : z_H) : Rn (d + 1) 45 [(z_R 11030 0), (z_I x1), (z_I x2), (z_I x3)] h = EX d 45 0 [(z_R 11030 0), (z_I x1), (z_I x2), (z_I x3), z_U, z_U, z_U, z_U] [] h := rfl
theorem rX3_nextWave (d : Nat) (x1 : Int32) (x2 : Int32) (x3 : Int32) (h : z_H) : Rn (d + 1) 46 [(z_R 11030 0), (z_I x1), (z_I x2), (z_I x3)] h = EX d 46 0 [(z_R 11030 0), (z_I x1), (z_I x2), (z_I x3), z_U, z_U, z_U, z_U] [] h := rfl
theorem rX3_countSpeeches (d : Nat) (x1 : Int32) (h : z_H) : Rn (d + 1) 47 [(z_R 11030 0), (z_I x1)] h = EX d 47 0 [(z_R 11030 0), (z_I x1), z_U, z_U, z_U, z_U] [] h := rfl
theorem rX3_firstParting (d : Nat) (x1 : Int32) (x2 : Int32) (h : z_H) : Rn (d + 1) 48 [(z_R 11030 0), (z_I x1), (z_I x2)] h = EX d 48 0 [(z_R 11030 0), (z_I x1), (z_I x2), z_U, z_U] [] h := rfl
theorem rX3_nextYear (d : Nat) (x1 : Int32) (x2 : Int32) (x3 : Int32) (h : z_H) : Rn (d + 1) 49 [(z_R 11030 0), (z_I x1), (z_I x2), (z_I x3)] h = EX d 49 0 [(z_R 11030 0), (z_I x1), (z_I x2), (z_I x3), z_U, z_U, z_U, z_U] [] h := rfl
theorem rX3_speakList (d : Nat) (x1 : Int32) (x2 : Int32) (h : z_H) : Rn (d + 1) 50 [(z_R 11030 0), (z_I x1), (z_I x2)] h = EX d 50 0 [(z_R 11030 0), (z_I x1), (z_I x2), z_U] [] h := rfl
theorem rX3_speakAlike (d : Nat) (x1 : Int32) (x2 : Int32) (h : z_H) : Rn (d + 1) 51 [(z_R 11030 0), (z_I x1), (z_I x2)] h = EX d 51 0 [(z_R 11030 0), (z_I x1), (z_I x2), z_U] [] h := rfl
theorem rX4_init (d : Nat) (r0 : Nat) (x1 : Int32) (x3 : Int32) (h : z_H) : Rn (d + 1) 52 [(z_R 3040 r0), (z_I x1), (z_R 9371 0), (z_I x3)] h = EX d 52 0 [(z_R 3040 r0), (z_I x1), (z_R 9371 0), (z_I x3)] [] h := rfl
theorem rX4_tune (d : Nat) (r0 : Nat) (x1 : Int32) (h : z_H) : Rn (d + 1) 53 [(z_R 3040 r0), (z_I x1)] h = EX d 53 0 [(z_R 3040 r0), (z_I x1)] [] h := rfl
theorem rX5_init (d : Nat)  (h : z_H) : Rn (d + 1) 54 [(z_R 8050 0)] h = EX d 54 0 [(z_R 8050 0)] [] h := rfl
theorem rX5_join (d : Nat) (x1 : Int32) (x2 : Int32) (h : z_H) : Rn (d + 1) 55 [(z_R 8050 0), (z_I x1), (z_I x2)] h = EX d 55 0 [(z_R 8050 0), (z_I x1), (z_I x2)] [] h := rfl
theorem rX5_middleOf (d : Nat) (x1 : Int32) (x2 : Int32) (h : z_H) : Rn (d + 1) 56 [(z_R 8050 0), (z_I x1), (z_I x2)] h = EX d 56 0 [(z_R 8050 0), (z_I x1), (z_I x2)] [] h := rfl
theorem rX5_search (d : Nat) (x1 : Int32) (h : z_H) : Rn (d + 1) 57 [(z_R 8050 0), (z_I x1)] h = EX d 57 0 [(z_R 8050 0), (z_I x1)] [] h := rfl
theorem rX5_opens (d : Nat) (x1 : Int32) (h : z_H) : Rn (d + 1) 58 [(z_R 8050 0), (z_I x1)] h = EX d 58 0 [(z_R 8050 0), (z_I x1), z_U, z_U, z_U, z_U] [] h := rfl
theorem rX5_closes_a (d : Nat) (x2 : Int32) (x3 : Int32) (h : z_H) : Rn (d + 1) 59 [(z_R 8050 0), (z_R 6321 0), (z_I x2), (z_I x3)] h = EX d 59 0 [(z_R 8050 0), (z_R 6321 0), (z_I x2), (z_I x3), z_U, z_U, z_U, z_U, z_U, z_U, z_U, z_U, z_U] [] h := rfl
theorem rX5_closes_b (d : Nat) (x2 : Int32) (x3 : Int32) (h : z_H) : Rn (d + 1) 59 [(z_R 8050 0), (z_R 6341 0), (z_I x2), (z_I x3)] h = EX d 59 0 [(z_R 8050 0), (z_R 6341 0), (z_I x2), (z_I x3), z_U, z_U, z_U, z_U, z_U, z_U, z_U, z_U, z_U] [] h := rfl
theorem rX5_firstUnlike_a (d : Nat)  (h : z_H) : Rn (d + 1) 60 [(z_R 8050 0), (z_R 6321 0)] h = EX d 60 0 [(z_R 8050 0), (z_R 6321 0), z_U] [] h := rfl
theorem rX5_firstUnlike_b (d : Nat)  (h : z_H) : Rn (d + 1) 60 [(z_R 8050 0), (z_R 6341 0)] h = EX d 60 0 [(z_R 8050 0), (z_R 6341 0), z_U] [] h := rfl
theorem rX5_partingBits (d : Nat) (x0 : Int32) (x1 : Int32) (h : z_H) : Rn (d + 1) 61 [(z_I x0), (z_I x1)] h = EX d 61 0 [(z_I x0), (z_I x1), z_U] [] h := rfl
theorem rJ1_indexOfChar_4cfef (d : Nat) (r0 : Nat) (x1 : Int32) (x2 : Int32) (x3 : Int32) (h : z_H) : Rn (d + 1) 62 [(z_R 9 r0), (z_I x1), (z_I x2), (z_I x3)] h = EX d 62 0 [(z_R 9 r0), (z_I x1), (z_I x2), (z_I x3), z_U, z_U] [] h := rfl
theorem rX5_keep (d : Nat) (x1 : Int32) (x2 : Int32) (x3 : Int32) (x4 : Int32) (h : z_H) : Rn (d + 1) 63 [(z_R 8050 0), (z_I x1), (z_I x2), (z_I x3), (z_I x4)] h = EX d 63 0 [(z_R 8050 0), (z_I x1), (z_I x2), (z_I x3), (z_I x4)] [] h := rfl
theorem rX7_init (d : Nat) (r0 : Nat) (h : z_H) : Rn (d + 1) 64 [(z_R 3060 r0)] h = EX d 64 0 [(z_R 3060 r0)] [] h := rfl
theorem rX7_renew (d : Nat) (r0 : Nat) (x1 : Int32) (x2 : Int32) (h : z_H) : Rn (d + 1) 65 [(z_R 3060 r0), (z_I x1), (z_I x2)] h = EX d 65 0 [(z_R 3060 r0), (z_I x1), (z_I x2)] [] h := rfl
theorem rX7_put (d : Nat) (r0 : Nat) (x1 : Int32) (x2 : Int32) (h : z_H) : Rn (d + 1) 66 [(z_R 3060 r0), (z_I x1), (z_I x2)] h = EX d 66 0 [(z_R 3060 r0), (z_I x1), (z_I x2), z_U] [] h := rfl
theorem rX7_hasSpan (d : Nat) (r0 : Nat) (x1 : Int32) (x2 : Int32) (h : z_H) : Rn (d + 1) 67 [(z_R 3060 r0), (z_I x1), (z_I x2)] h = EX d 67 0 [(z_R 3060 r0), (z_I x1), (z_I x2)] [] h := rfl
theorem rX8_init (d : Nat)  (h : z_H) : Rn (d + 1) 68 [(z_R 4070 0)] h = EX d 68 0 [(z_R 4070 0)] [] h := rfl
theorem rX8_append (d : Nat) (w1 : Int64) (x2 : Int32) (h : z_H) : Rn (d + 1) 69 [(z_R 4070 0), (z_L w1), (z_I x2)] h = EX d 69 0 [(z_R 4070 0), (z_L w1), z_U, (z_I x2), z_U] [] h := rfl
theorem rX8_parse (d : Nat)  (h : z_H) : Rn (d + 1) 70 [(z_R 4070 0)] h = EX d 70 0 [(z_R 4070 0), z_U, z_U, z_U] [] h := rfl
theorem rX8_kindOf (d : Nat) (x0 : Int32) (x1 : Int32) (x2 : Int32) (h : z_H) : Rn (d + 1) 71 [(z_I x0), (z_I x1), (z_I x2)] h = EX d 71 0 [(z_I x0), (z_I x1), (z_I x2)] [] h := rfl
theorem rX8_passPlace (d : Nat) (r1 : Nat) (x2 : Int32) (x3 : Int32) (h : z_H) : Rn (d + 1) 72 [(z_R 4070 0), (z_R 8 r1), (z_I x2), (z_I x3)] h = EX d 72 0 [(z_R 4070 0), (z_R 8 r1), (z_I x2), (z_I x3)] [] h := rfl
theorem rX8_pass (d : Nat) (r1 : Nat) (h : z_H) : Rn (d + 1) 73 [(z_R 4070 0), (z_R 8 r1)] h = EX d 73 0 [(z_R 4070 0), (z_R 8 r1), z_U] [] h := rfl
theorem rX9_init (d : Nat) (r0 : Nat) (x1 : Int32) (x2 : Int32) (h : z_H) : Rn (d + 1) 74 [(z_R 7080 r0), (z_I x1), (z_I x2)] h = EX d 74 0 [(z_R 7080 r0), (z_I x1), (z_I x2), z_U] [] h := rfl
theorem rX9_exchange (d : Nat) (r0 : Nat) (x1 : Int32) (h : z_H) : Rn (d + 1) 75 [(z_R 7080 r0), (z_I x1)] h = EX d 75 0 [(z_R 7080 r0), (z_I x1), z_U] [] h := rfl
theorem rX9_owns (d : Nat) (r0 : Nat) (x1 : Int32) (h : z_H) : Rn (d + 1) 76 [(z_R 7080 r0), (z_I x1)] h = EX d 76 0 [(z_R 7080 r0), (z_I x1), z_U] [] h := rfl
theorem rX9_grown (d : Nat) (r0 : Nat) (x1 : Int32) (x2 : Int32) (x3 : Int32) (h : z_H) : Rn (d + 1) 77 [(z_R 7080 r0), (z_I x1), (z_I x2), (z_I x3)] h = EX d 77 0 [(z_R 7080 r0), (z_I x1), (z_I x2), (z_I x3), z_U, z_U] [] h := rfl
theorem rX9_refresh (d : Nat) (r0 : Nat) (r2 : Nat) (h : z_H) : Rn (d + 1) 78 [(z_R 7080 r0), (z_R 9330131 0), (z_R 7080 r2)] h = EX d 78 0 [(z_R 7080 r0), (z_R 9330131 0), (z_R 7080 r2), z_U, z_U, z_U] [] h := rfl
theorem rX9_refresh_n1 (d : Nat) (r0 : Nat) (h : z_H) : Rn (d + 1) 78 [(z_R 7080 r0), (z_R 9330131 0), z_N] h = EX d 78 0 [(z_R 7080 r0), (z_R 9330131 0), z_N, z_U, z_U, z_U] [] h := rfl
theorem rX9_formAt (d : Nat) (r0 : Nat) (x1 : Int32) (h : z_H) : Rn (d + 1) 79 [(z_R 7080 r0), (z_I x1)] h = EX d 79 0 [(z_R 7080 r0), (z_I x1)] [] h := rfl
theorem rX9_writtenAt (d : Nat) (r0 : Nat) (x1 : Int32) (h : z_H) : Rn (d + 1) 80 [(z_R 7080 r0), (z_I x1)] h = EX d 80 0 [(z_R 7080 r0), (z_I x1)] [] h := rfl
theorem rX10_init (d : Nat)  (h : z_H) : Rn (d + 1) 81 [(z_R 10090 0)] h = EX d 81 0 [(z_R 10090 0), z_U] [] h := rfl
theorem rX10_vowel (d : Nat) (x1 : Int32) (x2 : Int32) (h : z_H) : Rn (d + 1) 82 [(z_R 10090 0), (z_I x1), (z_I x2)] h = EX d 82 0 [(z_R 10090 0), (z_I x1), (z_I x2), z_U, z_U] [] h := rfl
theorem rX10_feed (d : Nat) (w1 : Int64) (x2 : Int32) (h : z_H) : Rn (d + 1) 83 [(z_R 10090 0), (z_L w1), (z_I x2)] h = EX d 83 0 [(z_R 10090 0), (z_L w1), z_U, (z_I x2)] [] h := rfl
theorem rX10_law (d : Nat)  (h : z_H) : Rn (d + 1) 84 [(z_R 10090 0)] h = EX d 84 0 [(z_R 10090 0), z_U] [] h := rfl
theorem rX10_as (d : Nat) (x1 : Int32) (x2 : Int32) (h : z_H) : Rn (d + 1) 85 [(z_R 10090 0), (z_I x1), (z_I x2)] h = EX d 85 0 [(z_R 10090 0), (z_I x1), (z_I x2), z_U, z_U] [] h := rfl
theorem rX10_about (d : Nat) (x1 : Int32) (x2 : Int32) (h : z_H) : Rn (d + 1) 86 [(z_R 10090 0), (z_I x1), (z_I x2)] h = EX d 86 0 [(z_R 10090 0), (z_I x1), (z_I x2)] [] h := rfl
theorem rX10_run (d : Nat) (x1 : Int32) (x2 : Int32) (h : z_H) : Rn (d + 1) 87 [(z_R 10090 0), (z_I x1), (z_I x2)] h = EX d 87 0 [(z_R 10090 0), (z_I x1), (z_I x2), z_U] [] h := rfl
theorem rX10_holds (d : Nat) (x1 : Int32) (x2 : Int32) (h : z_H) : Rn (d + 1) 88 [(z_R 10090 0), (z_I x1), (z_I x2)] h = EX d 88 0 [(z_R 10090 0), (z_I x1), (z_I x2), z_U] [] h := rfl
theorem rX10_tongue (d : Nat) (x1 : Int32) (h : z_H) : Rn (d + 1) 89 [(z_R 10090 0), (z_I x1)] h = EX d 89 0 [(z_R 10090 0), (z_I x1)] [] h := rfl
theorem rX10_take (d : Nat) (x1 : Int32) (x2 : Int32) (h : z_H) : Rn (d + 1) 90 [(z_R 10090 0), (z_I x1), (z_I x2)] h = EX d 90 0 [(z_R 10090 0), (z_I x1), (z_I x2), z_U] [] h := rfl
theorem rX10_leave (d : Nat) (x1 : Int32) (h : z_H) : Rn (d + 1) 91 [(z_R 10090 0), (z_I x1)] h = EX d 91 0 [(z_R 10090 0), (z_I x1), z_U] [] h := rfl
theorem rX10_swap (d : Nat) (x1 : Int32) (x2 : Int32) (h : z_H) : Rn (d + 1) 92 [(z_R 10090 0), (z_I x1), (z_I x2)] h = EX d 92 0 [(z_R 10090 0), (z_I x1), (z_I x2), z_U] [] h := rfl
theorem rX10_own (d : Nat) (x1 : Int32) (x2 : Int32) (h : z_H) : Rn (d + 1) 93 [(z_R 10090 0), (z_I x1), (z_I x2)] h = EX d 93 0 [(z_R 10090 0), (z_I x1), (z_I x2)] [] h := rfl
theorem rX10_form (d : Nat) (x1 : Int32) (x2 : Int32) (h : z_H) : Rn (d + 1) 94 [(z_R 10090 0), (z_I x1), (z_I x2)] h = EX d 94 0 [(z_R 10090 0), (z_I x1), (z_I x2), z_U] [] h := rfl
theorem rX10_order (d : Nat) (x1 : Int32) (x2 : Int32) (h : z_H) : Rn (d + 1) 95 [(z_R 10090 0), (z_I x1), (z_I x2)] h = EX d 95 0 [(z_R 10090 0), (z_I x1), (z_I x2), z_U] [] h := rfl
theorem rX10_script (d : Nat) (x1 : Int32) (x2 : Int32) (x3 : Int32) (h : z_H) : Rn (d + 1) 96 [(z_R 10090 0), (z_I x1), (z_I x2), (z_I x3)] h = EX d 96 0 [(z_R 10090 0), (z_I x1), (z_I x2), (z_I x3), z_U, z_U] [] h := rfl
theorem rX10_written (d : Nat) (x1 : Int32) (x2 : Int32) (h : z_H) : Rn (d + 1) 97 [(z_R 10090 0), (z_I x1), (z_I x2)] h = EX d 97 0 [(z_R 10090 0), (z_I x1), (z_I x2), z_U] [] h := rfl
theorem rX10_back (d : Nat) (x1 : Int32) (x2 : Int32) (h : z_H) : Rn (d + 1) 98 [(z_R 10090 0), (z_I x1), (z_I x2)] h = EX d 98 0 [(z_R 10090 0), (z_I x1), (z_I x2), z_U] [] h := rfl
theorem rX10_stem (d : Nat) (x1 : Int32) (x2 : Int32) (x3 : Int32) (h : z_H) : Rn (d + 1) 99 [(z_R 10090 0), (z_I x1), (z_I x2), (z_I x3)] h = EX d 99 0 [(z_R 10090 0), (z_I x1), (z_I x2), (z_I x3), z_U, z_U] [] h := rfl
theorem rX10_match (d : Nat)  (h : z_H) : Rn (d + 1) 100 [(z_R 10090 0)] h = EX d 100 0 [(z_R 10090 0)] [] h := rfl
theorem rX10_find (d : Nat) (x1 : Int32) (x2 : Int32) (x3 : Int32) (x4 : Int32) (h : z_H) : Rn (d + 1) 101 [(z_R 10090 0), (z_I x1), (z_I x2), (z_I x3), (z_I x4)] h = EX d 101 0 [(z_R 10090 0), (z_I x1), (z_I x2), (z_I x3), (z_I x4), z_U] [] h := rfl
theorem rX10_known (d : Nat) (x1 : Int32) (x2 : Int32) (x3 : Int32) (h : z_H) : Rn (d + 1) 102 [(z_R 10090 0), (z_I x1), (z_I x2), (z_I x3)] h = EX d 102 0 [(z_R 10090 0), (z_I x1), (z_I x2), (z_I x3), z_U] [] h := rfl
theorem rX10_mothers (d : Nat) (x1 : Int32) (x2 : Int32) (h : z_H) : Rn (d + 1) 103 [(z_R 10090 0), (z_I x1), (z_I x2)] h = EX d 103 0 [(z_R 10090 0), (z_I x1), (z_I x2)] [] h := rfl
theorem rX10_mother (d : Nat) (x1 : Int32) (x2 : Int32) (x3 : Int32) (h : z_H) : Rn (d + 1) 104 [(z_R 10090 0), (z_I x1), (z_I x2), (z_I x3)] h = EX d 104 0 [(z_R 10090 0), (z_I x1), (z_I x2), (z_I x3), z_U] [] h := rfl
theorem rX10_doubt (d : Nat) (x1 : Int32) (x2 : Int32) (x3 : Int32) (h : z_H) : Rn (d + 1) 105 [(z_R 10090 0), (z_I x1), (z_I x2), (z_I x3)] h = EX d 105 0 [(z_R 10090 0), (z_I x1), (z_I x2), (z_I x3)] [] h := rfl
theorem rX10_best (d : Nat) (x1 : Int32) (x2 : Int32) (h : z_H) : Rn (d + 1) 106 [(z_R 10090 0), (z_I x1), (z_I x2)] h = EX d 106 0 [(z_R 10090 0), (z_I x1), (z_I x2)] [] h := rfl
theorem rX10_breakers (d : Nat) (x1 : Int32) (x2 : Int32) (h : z_H) : Rn (d + 1) 107 [(z_R 10090 0), (z_I x1), (z_I x2)] h = EX d 107 0 [(z_R 10090 0), (z_I x1), (z_I x2)] [] h := rfl
theorem rX10_lent (d : Nat) (x1 : Int32) (x2 : Int32) (x3 : Int32) (h : z_H) : Rn (d + 1) 108 [(z_R 10090 0), (z_I x1), (z_I x2), (z_I x3)] h = EX d 108 0 [(z_R 10090 0), (z_I x1), (z_I x2), (z_I x3), z_U, z_U] [] h := rfl
theorem rX10_leans (d : Nat) (x1 : Int32) (x2 : Int32) (h : z_H) : Rn (d + 1) 109 [(z_R 10090 0), (z_I x1), (z_I x2)] h = EX d 109 0 [(z_R 10090 0), (z_I x1), (z_I x2)] [] h := rfl
theorem rX10_pair (d : Nat) (x1 : Int32) (x2 : Int32) (h : z_H) : Rn (d + 1) 110 [(z_R 10090 0), (z_I x1), (z_I x2)] h = EX d 110 0 [(z_R 10090 0), (z_I x1), (z_I x2), z_U, z_U] [] h := rfl
theorem rX10_unpair (d : Nat)  (h : z_H) : Rn (d + 1) 111 [(z_R 10090 0)] h = EX d 111 0 [(z_R 10090 0), z_U] [] h := rfl
theorem rX10_fewest (d : Nat)  (h : z_H) : Rn (d + 1) 112 [(z_R 10090 0)] h = EX d 112 0 [(z_R 10090 0)] [] h := rfl
theorem rX10_simple (d : Nat) (x1 : Int32) (x2 : Int32) (h : z_H) : Rn (d + 1) 113 [(z_R 10090 0), (z_I x1), (z_I x2)] h = EX d 113 0 [(z_R 10090 0), (z_I x1), (z_I x2)] [] h := rfl
theorem rX10_proof (d : Nat) (x1 : Int32) (h : z_H) : Rn (d + 1) 114 [(z_R 10090 0), (z_I x1)] h = EX d 114 0 [(z_R 10090 0), (z_I x1)] [] h := rfl
theorem rX10_road (d : Nat) (x1 : Int32) (x2 : Int32) (x3 : Int32) (h : z_H) : Rn (d + 1) 115 [(z_R 10090 0), (z_I x1), (z_I x2), (z_I x3)] h = EX d 115 0 [(z_R 10090 0), (z_I x1), (z_I x2), (z_I x3)] [] h := rfl
theorem rX10_shut (d : Nat) (x1 : Int32) (x2 : Int32) (h : z_H) : Rn (d + 1) 116 [(z_R 10090 0), (z_I x1), (z_I x2)] h = EX d 116 0 [(z_R 10090 0), (z_I x1), (z_I x2)] [] h := rfl
theorem rX10_wave (d : Nat) (x1 : Int32) (x2 : Int32) (x3 : Int32) (h : z_H) : Rn (d + 1) 117 [(z_R 10090 0), (z_I x1), (z_I x2), (z_I x3)] h = EX d 117 0 [(z_R 10090 0), (z_I x1), (z_I x2), (z_I x3)] [] h := rfl
theorem rX10_comes (d : Nat) (x1 : Int32) (x2 : Int32) (h : z_H) : Rn (d + 1) 118 [(z_R 10090 0), (z_I x1), (z_I x2)] h = EX d 118 0 [(z_R 10090 0), (z_I x1), (z_I x2), z_U] [] h := rfl
theorem rX10_speech (d : Nat) (x1 : Int32) (x2 : Int32) (x3 : Int32) (h : z_H) : Rn (d + 1) 119 [(z_R 10090 0), (z_I x1), (z_I x2), (z_I x3)] h = EX d 119 0 [(z_R 10090 0), (z_I x1), (z_I x2), (z_I x3), z_U] [] h := rfl
theorem rX10_list (d : Nat) (x1 : Int32) (h : z_H) : Rn (d + 1) 120 [(z_R 10090 0), (z_I x1)] h = EX d 120 0 [(z_R 10090 0), (z_I x1), z_U] [] h := rfl
theorem rX10_speeches (d : Nat) (x1 : Int32) (h : z_H) : Rn (d + 1) 121 [(z_R 10090 0), (z_I x1)] h = EX d 121 0 [(z_R 10090 0), (z_I x1)] [] h := rfl
theorem rX10_parted (d : Nat) (x1 : Int32) (x2 : Int32) (h : z_H) : Rn (d + 1) 122 [(z_R 10090 0), (z_I x1), (z_I x2)] h = EX d 122 0 [(z_R 10090 0), (z_I x1), (z_I x2), z_U] [] h := rfl
theorem rX10_sheet (d : Nat) (x1 : Int32) (x2 : Int32) (x3 : Int32) (h : z_H) : Rn (d + 1) 123 [(z_R 10090 0), (z_I x1), (z_I x2), (z_I x3)] h = EX d 123 0 [(z_R 10090 0), (z_I x1), (z_I x2), (z_I x3)] [] h := rfl
theorem rX10_write (d : Nat) (x1 : Int32) (x2 : Int32) (x3 : Int32) (h : z_H) : Rn (d + 1) 124 [(z_R 10090 0), (z_I x1), (z_I x2), (z_I x3)] h = EX d 124 0 [(z_R 10090 0), (z_I x1), (z_I x2), (z_I x3), z_U] [] h := rfl
theorem rX10_copy (d : Nat) (x1 : Int32) (x2 : Int32) (x3 : Int32) (x4 : Int32) (x5 : Int32) (h : z_H) : Rn (d + 1) 125 [(z_R 10090 0), (z_I x1), (z_I x2), (z_I x3), (z_I x4), (z_I x5)] h = EX d 125 0 [(z_R 10090 0), (z_I x1), (z_I x2), (z_I x3), (z_I x4), (z_I x5), z_U, z_U] [] h := rfl
theorem rX10_read (d : Nat) (x1 : Int32) (h : z_H) : Rn (d + 1) 126 [(z_R 10090 0), (z_I x1)] h = EX d 126 0 [(z_R 10090 0), (z_I x1), z_U, z_U, z_U] [] h := rfl
theorem rX10_told (d : Nat) (x1 : Int32) (h : z_H) : Rn (d + 1) 127 [(z_R 10090 0), (z_I x1)] h = EX d 127 0 [(z_R 10090 0), (z_I x1)] [] h := rfl
theorem rX10_finding (d : Nat) (x1 : Int32) (h : z_H) : Rn (d + 1) 128 [(z_R 10090 0), (z_I x1)] h = EX d 128 0 [(z_R 10090 0), (z_I x1)] [] h := rfl
theorem rX10_heedVowels (d : Nat)  (h : z_H) : Rn (d + 1) 129 [(z_R 10090 0)] h = EX d 129 0 [(z_R 10090 0), z_U] [] h := rfl
theorem rX10_noLaw (d : Nat) (x1 : Int32) (h : z_H) : Rn (d + 1) 130 [(z_R 10090 0), (z_I x1)] h = EX d 130 0 [(z_R 10090 0), (z_I x1)] [] h := rfl
theorem rX10_noTongue (d : Nat) (x1 : Int32) (h : z_H) : Rn (d + 1) 131 [(z_R 10090 0), (z_I x1)] h = EX d 131 0 [(z_R 10090 0), (z_I x1)] [] h := rfl
theorem rX10_noNeighbours (d : Nat) (x1 : Int32) (x2 : Int32) (h : z_H) : Rn (d + 1) 132 [(z_R 10090 0), (z_I x1), (z_I x2)] h = EX d 132 0 [(z_R 10090 0), (z_I x1), (z_I x2)] [] h := rfl
theorem rX10_noMatch (d : Nat) (x1 : Int32) (x2 : Int32) (h : z_H) : Rn (d + 1) 133 [(z_R 10090 0), (z_I x1), (z_I x2)] h = EX d 133 0 [(z_R 10090 0), (z_I x1), (z_I x2)] [] h := rfl
theorem rX10_noYear (d : Nat) (x1 : Int32) (h : z_H) : Rn (d + 1) 134 [(z_R 10090 0), (z_I x1)] h = EX d 134 0 [(z_R 10090 0), (z_I x1)] [] h := rfl
theorem rX10_noPlace (d : Nat) (x1 : Int32) (h : z_H) : Rn (d + 1) 135 [(z_R 10090 0), (z_I x1)] h = EX d 135 0 [(z_R 10090 0), (z_I x1)] [] h := rfl
theorem rX10_noSheet (d : Nat) (x1 : Int32) (h : z_H) : Rn (d + 1) 136 [(z_R 10090 0), (z_I x1)] h = EX d 136 0 [(z_R 10090 0), (z_I x1)] [] h := rfl
theorem rX11_init (d : Nat)  (h : z_H) : Rn (d + 1) 137 [(z_R 49100 0)] h = EX d 137 0 [(z_R 49100 0), z_U] [] h := rfl
theorem rX11_finding (d : Nat) (x1 : Int32) (h : z_H) : Rn (d + 1) 138 [(z_R 49100 0), (z_I x1)] h = EX d 138 0 [(z_R 49100 0), (z_I x1)] [] h := rfl
theorem rX11_within (d : Nat) (x0 : Int32) (x1 : Int32) (x2 : Int32) (h : z_H) : Rn (d + 1) 139 [(z_I x0), (z_I x1), (z_I x2)] h = EX d 139 0 [(z_I x0), (z_I x1), (z_I x2)] [] h := rfl
theorem rX11_isSound (d : Nat) (x0 : Int32) (h : z_H) : Rn (d + 1) 140 [(z_I x0)] h = EX d 140 0 [(z_I x0)] [] h := rfl
theorem rX11_isYear (d : Nat) (x0 : Int32) (h : z_H) : Rn (d + 1) 141 [(z_I x0)] h = EX d 141 0 [(z_I x0)] [] h := rfl
theorem rX11_isLaw (d : Nat) (x1 : Int32) (h : z_H) : Rn (d + 1) 142 [(z_R 49100 0), (z_I x1)] h = EX d 142 0 [(z_R 49100 0), (z_I x1)] [] h := rfl
theorem rX11_isTongue (d : Nat) (x1 : Int32) (h : z_H) : Rn (d + 1) 143 [(z_R 49100 0), (z_I x1)] h = EX d 143 0 [(z_R 49100 0), (z_I x1)] [] h := rfl
theorem rX11_isMatch (d : Nat) (x1 : Int32) (h : z_H) : Rn (d + 1) 144 [(z_R 49100 0), (z_I x1)] h = EX d 144 0 [(z_R 49100 0), (z_I x1)] [] h := rfl
theorem rX11_isPlace (d : Nat) (x0 : Int32) (h : z_H) : Rn (d + 1) 145 [(z_I x0)] h = EX d 145 0 [(z_I x0)] [] h := rfl
theorem rX11_isWord (d : Nat) (x0 : Int32) (h : z_H) : Rn (d + 1) 146 [(z_I x0)] h = EX d 146 0 [(z_I x0), z_U, z_U] [] h := rfl
theorem rX11_load (d : Nat) (x1 : Int32) (h : z_H) : Rn (d + 1) 147 [(z_R 49100 0), (z_I x1)] h = EX d 147 0 [(z_R 49100 0), (z_I x1), z_U, z_U] [] h := rfl
theorem rX11_number (d : Nat)  (h : z_H) : Rn (d + 1) 148 [(z_R 49100 0)] h = EX d 148 0 [(z_R 49100 0), z_U, z_U] [] h := rfl
theorem rX11_isVowel (d : Nat) (x1 : Int32) (h : z_H) : Rn (d + 1) 149 [(z_R 49100 0), (z_I x1)] h = EX d 149 0 [(z_R 49100 0), (z_I x1)] [] h := rfl
theorem rX11_fitsSound (d : Nat) (x1 : Int32) (x2 : Int32) (h : z_H) : Rn (d + 1) 150 [(z_R 49100 0), (z_I x1), (z_I x2)] h = EX d 150 0 [(z_R 49100 0), (z_I x1), (z_I x2)] [] h := rfl
theorem rX11_fitsAt (d : Nat) (x1 : Int32) (x2 : Int32) (h : z_H) : Rn (d + 1) 151 [(z_R 49100 0), (z_I x1), (z_I x2)] h = EX d 151 0 [(z_R 49100 0), (z_I x1), (z_I x2)] [] h := rfl
theorem rX11_placeFits (d : Nat) (x1 : Int32) (x2 : Int32) (h : z_H) : Rn (d + 1) 152 [(z_R 49100 0), (z_I x1), (z_I x2)] h = EX d 152 0 [(z_R 49100 0), (z_I x1), (z_I x2)] [] h := rfl
theorem rX11_holdsAt (d : Nat) (x1 : Int32) (x2 : Int32) (h : z_H) : Rn (d + 1) 153 [(z_R 49100 0), (z_I x1), (z_I x2)] h = EX d 153 0 [(z_R 49100 0), (z_I x1), (z_I x2), z_U] [] h := rfl
theorem rX11_runLaw (d : Nat) (x1 : Int32) (h : z_H) : Rn (d + 1) 154 [(z_R 49100 0), (z_I x1)] h = EX d 154 0 [(z_R 49100 0), (z_I x1), z_U, z_U] [] h := rfl
theorem rX11_vowel (d : Nat) (x1 : Int32) (x2 : Int32) (h : z_H) : Rn (d + 1) 155 [(z_R 49100 0), (z_I x1), (z_I x2)] h = EX d 155 0 [(z_R 49100 0), (z_I x1), (z_I x2), z_U] [] h := rfl
theorem rX11_feed (d : Nat) (w1 : Int64) (x2 : Int32) (h : z_H) : Rn (d + 1) 156 [(z_R 49100 0), (z_L w1), (z_I x2)] h = EX d 156 0 [(z_R 49100 0), (z_L w1), z_U, (z_I x2), z_U] [] h := rfl
theorem rX11_here (d : Nat)  (h : z_H) : Rn (d + 1) 157 [(z_R 49100 0)] h = EX d 157 0 [(z_R 49100 0)] [] h := rfl
theorem rX11_soundHere (d : Nat)  (h : z_H) : Rn (d + 1) 158 [(z_R 49100 0)] h = EX d 158 0 [(z_R 49100 0)] [] h := rfl
theorem rX11_markHere (d : Nat) (x1 : Int32) (h : z_H) : Rn (d + 1) 159 [(z_R 49100 0), (z_I x1)] h = EX d 159 0 [(z_R 49100 0), (z_I x1), z_U] [] h := rfl
theorem rX11_readsPlace (d : Nat) (x1 : Int32) (h : z_H) : Rn (d + 1) 160 [(z_R 49100 0), (z_I x1)] h = EX d 160 0 [(z_R 49100 0), (z_I x1), z_U] [] h := rfl
theorem rX11_readsTo (d : Nat)  (h : z_H) : Rn (d + 1) 161 [(z_R 49100 0)] h = EX d 161 0 [(z_R 49100 0), z_U] [] h := rfl
theorem rX11_reads (d : Nat)  (h : z_H) : Rn (d + 1) 162 [(z_R 49100 0)] h = EX d 162 0 [(z_R 49100 0)] [] h := rfl
theorem rX11_copyLaw (d : Nat) (x1 : Int32) (h : z_H) : Rn (d + 1) 163 [(z_R 49100 0), (z_I x1)] h = EX d 163 0 [(z_R 49100 0), (z_I x1), z_U] [] h := rfl
theorem rX11_law (d : Nat)  (h : z_H) : Rn (d + 1) 164 [(z_R 49100 0)] h = EX d 164 0 [(z_R 49100 0), z_U] [] h := rfl
theorem rX11_kindOf (d : Nat) (x1 : Int32) (h : z_H) : Rn (d + 1) 165 [(z_R 49100 0), (z_I x1)] h = EX d 165 0 [(z_R 49100 0), (z_I x1)] [] h := rfl
theorem rX11_as (d : Nat) (x1 : Int32) (x2 : Int32) (h : z_H) : Rn (d + 1) 166 [(z_R 49100 0), (z_I x1), (z_I x2)] h = EX d 166 0 [(z_R 49100 0), (z_I x1), (z_I x2), z_U] [] h := rfl
theorem rX11_about (d : Nat) (x1 : Int32) (x2 : Int32) (h : z_H) : Rn (d + 1) 167 [(z_R 49100 0), (z_I x1), (z_I x2)] h = EX d 167 0 [(z_R 49100 0), (z_I x1), (z_I x2)] [] h := rfl
theorem rX11_run (d : Nat) (x1 : Int32) (x2 : Int32) (h : z_H) : Rn (d + 1) 168 [(z_R 49100 0), (z_I x1), (z_I x2)] h = EX d 168 0 [(z_R 49100 0), (z_I x1), (z_I x2)] [] h := rfl
theorem rX11_holds (d : Nat) (x1 : Int32) (x2 : Int32) (h : z_H) : Rn (d + 1) 169 [(z_R 49100 0), (z_I x1), (z_I x2)] h = EX d 169 0 [(z_R 49100 0), (z_I x1), (z_I x2), z_U, z_U] [] h := rfl
theorem rX11_tongue (d : Nat) (x1 : Int32) (h : z_H) : Rn (d + 1) 170 [(z_R 49100 0), (z_I x1)] h = EX d 170 0 [(z_R 49100 0), (z_I x1), z_U] [] h := rfl
theorem rX11_take (d : Nat) (x1 : Int32) (x2 : Int32) (h : z_H) : Rn (d + 1) 171 [(z_R 49100 0), (z_I x1), (z_I x2)] h = EX d 171 0 [(z_R 49100 0), (z_I x1), (z_I x2)] [] h := rfl
theorem rX11_leave (d : Nat) (x1 : Int32) (h : z_H) : Rn (d + 1) 172 [(z_R 49100 0), (z_I x1)] h = EX d 172 0 [(z_R 49100 0), (z_I x1)] [] h := rfl
theorem rX11_hasBoth (d : Nat) (x1 : Int32) (x2 : Int32) (h : z_H) : Rn (d + 1) 173 [(z_R 49100 0), (z_I x1), (z_I x2)] h = EX d 173 0 [(z_R 49100 0), (z_I x1), (z_I x2)] [] h := rfl
theorem rX11_swaps (d : Nat) (x1 : Int32) (x2 : Int32) (h : z_H) : Rn (d + 1) 174 [(z_R 49100 0), (z_I x1), (z_I x2)] h = EX d 174 0 [(z_R 49100 0), (z_I x1), (z_I x2), z_U, z_U] [] h := rfl
theorem rX11_swap (d : Nat) (x1 : Int32) (x2 : Int32) (h : z_H) : Rn (d + 1) 175 [(z_R 49100 0), (z_I x1), (z_I x2)] h = EX d 175 0 [(z_R 49100 0), (z_I x1), (z_I x2)] [] h := rfl
theorem rX11_own (d : Nat) (x1 : Int32) (x2 : Int32) (h : z_H) : Rn (d + 1) 176 [(z_R 49100 0), (z_I x1), (z_I x2)] h = EX d 176 0 [(z_R 49100 0), (z_I x1), (z_I x2)] [] h := rfl
theorem rX11_runOwn (d : Nat) (x1 : Int32) (x2 : Int32) (h : z_H) : Rn (d + 1) 177 [(z_R 49100 0), (z_I x1), (z_I x2)] h = EX d 177 0 [(z_R 49100 0), (z_I x1), (z_I x2), z_U, z_U] [] h := rfl
theorem rX11_goesTo (d : Nat) (x1 : Int32) (h : z_H) : Rn (d + 1) 178 [(z_R 49100 0), (z_I x1)] h = EX d 178 0 [(z_R 49100 0), (z_I x1)] [] h := rfl
theorem rX11_formOf (d : Nat) (x1 : Int32) (x2 : Int32) (h : z_H) : Rn (d + 1) 179 [(z_R 49100 0), (z_I x1), (z_I x2)] h = EX d 179 0 [(z_R 49100 0), (z_I x1), (z_I x2)] [] h := rfl
theorem rX11_form (d : Nat) (x1 : Int32) (x2 : Int32) (h : z_H) : Rn (d + 1) 180 [(z_R 49100 0), (z_I x1), (z_I x2)] h = EX d 180 0 [(z_R 49100 0), (z_I x1), (z_I x2)] [] h := rfl
theorem rX11_nextStem (d : Nat) (x0 : Int32) (h : z_H) : Rn (d + 1) 181 [(z_I x0)] h = EX d 181 0 [(z_I x0), z_U] [] h := rfl
theorem rX11_order (d : Nat) (x1 : Int32) (x2 : Int32) (h : z_H) : Rn (d + 1) 182 [(z_R 49100 0), (z_I x1), (z_I x2)] h = EX d 182 0 [(z_R 49100 0), (z_I x1), (z_I x2), z_U, z_U, z_U] [] h := rfl
theorem rX11_script (d : Nat) (x1 : Int32) (x2 : Int32) (x3 : Int32) (h : z_H) : Rn (d + 1) 183 [(z_R 49100 0), (z_I x1), (z_I x2), (z_I x3)] h = EX d 183 0 [(z_R 49100 0), (z_I x1), (z_I x2), (z_I x3), z_U] [] h := rfl
theorem rX11_writtenIn (d : Nat) (x1 : Int32) (h : z_H) : Rn (d + 1) 184 [(z_R 49100 0), (z_I x1)] h = EX d 184 0 [(z_R 49100 0), (z_I x1), z_U, z_U, z_U] [] h := rfl
theorem rX11_writtenOf (d : Nat) (x1 : Int32) (x2 : Int32) (h : z_H) : Rn (d + 1) 185 [(z_R 49100 0), (z_I x1), (z_I x2)] h = EX d 185 0 [(z_R 49100 0), (z_I x1), (z_I x2)] [] h := rfl
theorem rX11_written (d : Nat) (x1 : Int32) (x2 : Int32) (h : z_H) : Rn (d + 1) 186 [(z_R 49100 0), (z_I x1), (z_I x2)] h = EX d 186 0 [(z_R 49100 0), (z_I x1), (z_I x2)] [] h := rfl
theorem rX11_back (d : Nat) (x1 : Int32) (x2 : Int32) (h : z_H) : Rn (d + 1) 187 [(z_R 49100 0), (z_I x1), (z_I x2)] h = EX d 187 0 [(z_R 49100 0), (z_I x1), (z_I x2), z_U, z_U] [] h := rfl
theorem rX11_stem (d : Nat) (x1 : Int32) (x2 : Int32) (x3 : Int32) (h : z_H) : Rn (d + 1) 188 [(z_R 49100 0), (z_I x1), (z_I x2), (z_I x3)] h = EX d 188 0 [(z_R 49100 0), (z_I x1), (z_I x2), (z_I x3), z_U, z_U] [] h := rfl
theorem rX11_match (d : Nat)  (h : z_H) : Rn (d + 1) 189 [(z_R 49100 0)] h = EX d 189 0 [(z_R 49100 0)] [] h := rfl
theorem rX11_find (d : Nat) (x1 : Int32) (x2 : Int32) (x3 : Int32) (x4 : Int32) (h : z_H) : Rn (d + 1) 190 [(z_R 49100 0), (z_I x1), (z_I x2), (z_I x3), (z_I x4)] h = EX d 190 0 [(z_R 49100 0), (z_I x1), (z_I x2), (z_I x3), (z_I x4)] [] h := rfl
theorem rX11_knownOf (d : Nat) (x1 : Int32) (x2 : Int32) (x3 : Int32) (h : z_H) : Rn (d + 1) 191 [(z_R 49100 0), (z_I x1), (z_I x2), (z_I x3)] h = EX d 191 0 [(z_R 49100 0), (z_I x1), (z_I x2), (z_I x3), z_U, z_U] [] h := rfl
theorem rX11_known (d : Nat) (x1 : Int32) (x2 : Int32) (x3 : Int32) (h : z_H) : Rn (d + 1) 192 [(z_R 49100 0), (z_I x1), (z_I x2), (z_I x3)] h = EX d 192 0 [(z_R 49100 0), (z_I x1), (z_I x2), (z_I x3), z_U] [] h := rfl
theorem rX11_learns (d : Nat) (x1 : Int32) (h : z_H) : Rn (d + 1) 193 [(z_R 49100 0), (z_I x1)] h = EX d 193 0 [(z_R 49100 0), (z_I x1), z_U, z_U] [] h := rfl
theorem rX11_spreads (d : Nat) (x1 : Int32) (h : z_H) : Rn (d + 1) 194 [(z_R 49100 0), (z_I x1)] h = EX d 194 0 [(z_R 49100 0), (z_I x1), z_U] [] h := rfl
theorem rX11_isMother (d : Nat) (x1 : Int32) (h : z_H) : Rn (d + 1) 195 [(z_R 49100 0), (z_I x1)] h = EX d 195 0 [(z_R 49100 0), (z_I x1), z_U, z_U, z_U] [] h := rfl
theorem rX11_agrees (d : Nat) (x1 : Int32) (h : z_H) : Rn (d + 1) 196 [(z_R 49100 0), (z_I x1)] h = EX d 196 0 [(z_R 49100 0), (z_I x1), z_U, z_U] [] h := rfl
theorem rX11_mothers (d : Nat) (x1 : Int32) (x2 : Int32) (h : z_H) : Rn (d + 1) 197 [(z_R 49100 0), (z_I x1), (z_I x2)] h = EX d 197 0 [(z_R 49100 0), (z_I x1), (z_I x2), z_U, z_U] [] h := rfl
theorem rX11_mother (d : Nat) (x1 : Int32) (x2 : Int32) (x3 : Int32) (h : z_H) : Rn (d + 1) 198 [(z_R 49100 0), (z_I x1), (z_I x2), (z_I x3)] h = EX d 198 0 [(z_R 49100 0), (z_I x1), (z_I x2), (z_I x3), z_U, z_U] [] h := rfl
theorem rX11_doubt (d : Nat) (x1 : Int32) (x2 : Int32) (x3 : Int32) (h : z_H) : Rn (d + 1) 199 [(z_R 49100 0), (z_I x1), (z_I x2), (z_I x3)] h = EX d 199 0 [(z_R 49100 0), (z_I x1), (z_I x2), (z_I x3), z_U, z_U] [] h := rfl
theorem rX11_bestOf (d : Nat) (x1 : Int32) (h : z_H) : Rn (d + 1) 200 [(z_R 49100 0), (z_I x1)] h = EX d 200 0 [(z_R 49100 0), (z_I x1), z_U, z_U, z_U, z_U] [] h := rfl
theorem rX11_best (d : Nat) (x1 : Int32) (x2 : Int32) (h : z_H) : Rn (d + 1) 201 [(z_R 49100 0), (z_I x1), (z_I x2)] h = EX d 201 0 [(z_R 49100 0), (z_I x1), (z_I x2)] [] h := rfl
theorem rX11_breakersOf (d : Nat) (x1 : Int32) (h : z_H) : Rn (d + 1) 202 [(z_R 49100 0), (z_I x1)] h = EX d 202 0 [(z_R 49100 0), (z_I x1), z_U, z_U, z_U] [] h := rfl
theorem rX11_breakers (d : Nat) (x1 : Int32) (x2 : Int32) (h : z_H) : Rn (d + 1) 203 [(z_R 49100 0), (z_I x1), (z_I x2)] h = EX d 203 0 [(z_R 49100 0), (z_I x1), (z_I x2)] [] h := rfl
theorem rX11_lent (d : Nat) (x1 : Int32) (x2 : Int32) (x3 : Int32) (h : z_H) : Rn (d + 1) 204 [(z_R 49100 0), (z_I x1), (z_I x2), (z_I x3)] h = EX d 204 0 [(z_R 49100 0), (z_I x1), (z_I x2), (z_I x3), z_U, z_U] [] h := rfl
theorem rX11_leans (d : Nat) (x1 : Int32) (x2 : Int32) (h : z_H) : Rn (d + 1) 205 [(z_R 49100 0), (z_I x1), (z_I x2)] h = EX d 205 0 [(z_R 49100 0), (z_I x1), (z_I x2), z_U, z_U, z_U, z_U] [] h := rfl
theorem rX11_pair (d : Nat) (x1 : Int32) (x2 : Int32) (h : z_H) : Rn (d + 1) 206 [(z_R 49100 0), (z_I x1), (z_I x2)] h = EX d 206 0 [(z_R 49100 0), (z_I x1), (z_I x2)] [] h := rfl
theorem rX11_unpair (d : Nat)  (h : z_H) : Rn (d + 1) 207 [(z_R 49100 0)] h = EX d 207 0 [(z_R 49100 0), z_U] [] h := rfl
theorem rX11_fromOf (d : Nat) (x0 : Int32) (h : z_H) : Rn (d + 1) 208 [(z_I x0)] h = EX d 208 0 [(z_I x0)] [] h := rfl
theorem rX11_toOf (d : Nat) (x0 : Int32) (h : z_H) : Rn (d + 1) 209 [(z_I x0)] h = EX d 209 0 [(z_I x0), z_U] [] h := rfl
theorem rX11_trySimple (d : Nat) (x1 : Int32) (h : z_H) : Rn (d + 1) 210 [(z_R 49100 0), (z_I x1)] h = EX d 210 0 [(z_R 49100 0), (z_I x1), z_U] [] h := rfl
theorem rX11_triedOver (d : Nat) (x1 : Int32) (h : z_H) : Rn (d + 1) 211 [(z_R 49100 0), (z_I x1)] h = EX d 211 0 [(z_R 49100 0), (z_I x1)] [] h := rfl
theorem rX11_makesAll (d : Nat) (x1 : Int32) (h : z_H) : Rn (d + 1) 212 [(z_R 49100 0), (z_I x1)] h = EX d 212 0 [(z_R 49100 0), (z_I x1), z_U, z_U] [] h := rfl
theorem rX11_firstThatMakes (d : Nat)  (h : z_H) : Rn (d + 1) 213 [(z_R 49100 0)] h = EX d 213 0 [(z_R 49100 0), z_U] [] h := rfl
theorem rX11_areMade (d : Nat)  (h : z_H) : Rn (d + 1) 214 [(z_R 49100 0)] h = EX d 214 0 [(z_R 49100 0), z_U, z_U] [] h := rfl
theorem rX11_runFirst (d : Nat) (x1 : Int32) (h : z_H) : Rn (d + 1) 215 [(z_R 49100 0), (z_I x1)] h = EX d 215 0 [(z_R 49100 0), (z_I x1), z_U] [] h := rfl
theorem rX11_seek (d : Nat)  (h : z_H) : Rn (d + 1) 216 [(z_R 49100 0)] h = EX d 216 0 [(z_R 49100 0), z_U, z_U] [] h := rfl
theorem rX11_fewest (d : Nat)  (h : z_H) : Rn (d + 1) 217 [(z_R 49100 0)] h = EX d 217 0 [(z_R 49100 0)] [] h := rfl
theorem rX11_simple (d : Nat) (x1 : Int32) (x2 : Int32) (h : z_H) : Rn (d + 1) 218 [(z_R 49100 0), (z_I x1), (z_I x2)] h = EX d 218 0 [(z_R 49100 0), (z_I x1), (z_I x2), z_U] [] h := rfl
theorem rX11_proof (d : Nat) (x1 : Int32) (h : z_H) : Rn (d + 1) 219 [(z_R 49100 0), (z_I x1)] h = EX d 219 0 [(z_R 49100 0), (z_I x1)] [] h := rfl
theorem rX11_road (d : Nat) (x1 : Int32) (x2 : Int32) (x3 : Int32) (h : z_H) : Rn (d + 1) 220 [(z_R 49100 0), (z_I x1), (z_I x2), (z_I x3)] h = EX d 220 0 [(z_R 49100 0), (z_I x1), (z_I x2), (z_I x3), z_U] [] h := rfl
theorem rX11_shut (d : Nat) (x1 : Int32) (x2 : Int32) (h : z_H) : Rn (d + 1) 221 [(z_R 49100 0), (z_I x1), (z_I x2)] h = EX d 221 0 [(z_R 49100 0), (z_I x1), (z_I x2), z_U] [] h := rfl
theorem rX11_wave (d : Nat) (x1 : Int32) (x2 : Int32) (x3 : Int32) (h : z_H) : Rn (d + 1) 222 [(z_R 49100 0), (z_I x1), (z_I x2), (z_I x3)] h = EX d 222 0 [(z_R 49100 0), (z_I x1), (z_I x2), (z_I x3)] [] h := rfl
theorem rX11_isOpen (d : Nat) (x1 : Int32) (x2 : Int32) (h : z_H) : Rn (d + 1) 223 [(z_R 49100 0), (z_I x1), (z_I x2)] h = EX d 223 0 [(z_R 49100 0), (z_I x1), (z_I x2)] [] h := rfl
theorem rX11_findWave (d : Nat) (x1 : Int32) (h : z_H) : Rn (d + 1) 224 [(z_R 49100 0), (z_I x1)] h = EX d 224 0 [(z_R 49100 0), (z_I x1), z_U, z_U, z_U, z_U, z_U, z_U] [] h := rfl
theorem rX11_findWaves (d : Nat)  (h : z_H) : Rn (d + 1) 225 [(z_R 49100 0)] h = EX d 225 0 [(z_R 49100 0), z_U] [] h := rfl
theorem rX11_comes (d : Nat) (x1 : Int32) (x2 : Int32) (h : z_H) : Rn (d + 1) 226 [(z_R 49100 0), (z_I x1), (z_I x2)] h = EX d 226 0 [(z_R 49100 0), (z_I x1), (z_I x2), z_U] [] h := rfl
theorem rX11_speechOf (d : Nat) (x1 : Int32) (x2 : Int32) (x3 : Int32) (h : z_H) : Rn (d + 1) 227 [(z_R 49100 0), (z_I x1), (z_I x2), (z_I x3)] h = EX d 227 0 [(z_R 49100 0), (z_I x1), (z_I x2), (z_I x3), z_U, z_U, z_U, z_U, z_U, z_U] [] h := rfl
theorem rX11_speech (d : Nat) (x1 : Int32) (x2 : Int32) (x3 : Int32) (h : z_H) : Rn (d + 1) 228 [(z_R 49100 0), (z_I x1), (z_I x2), (z_I x3)] h = EX d 228 0 [(z_R 49100 0), (z_I x1), (z_I x2), (z_I x3)] [] h := rfl
theorem rX11_list (d : Nat) (x1 : Int32) (h : z_H) : Rn (d + 1) 229 [(z_R 49100 0), (z_I x1)] h = EX d 229 0 [(z_R 49100 0), (z_I x1)] [] h := rfl
theorem rX11_speakAlike (d : Nat) (x1 : Int32) (x2 : Int32) (x3 : Int32) (h : z_H) : Rn (d + 1) 230 [(z_R 49100 0), (z_I x1), (z_I x2), (z_I x3)] h = EX d 230 0 [(z_R 49100 0), (z_I x1), (z_I x2), (z_I x3), z_U, z_U] [] h := rfl
theorem rX11_speeches (d : Nat) (x1 : Int32) (h : z_H) : Rn (d + 1) 231 [(z_R 49100 0), (z_I x1)] h = EX d 231 0 [(z_R 49100 0), (z_I x1), z_U, z_U, z_U, z_U] [] h := rfl
theorem rX11_parted (d : Nat) (x1 : Int32) (x2 : Int32) (h : z_H) : Rn (d + 1) 232 [(z_R 49100 0), (z_I x1), (z_I x2)] h = EX d 232 0 [(z_R 49100 0), (z_I x1), (z_I x2), z_U, z_U, z_U] [] h := rfl
theorem rX11_isSheet (d : Nat) (x0 : Int32) (h : z_H) : Rn (d + 1) 233 [(z_I x0)] h = EX d 233 0 [(z_I x0)] [] h := rfl
theorem rX11_sheet (d : Nat) (x1 : Int32) (x2 : Int32) (x3 : Int32) (h : z_H) : Rn (d + 1) 234 [(z_R 49100 0), (z_I x1), (z_I x2), (z_I x3)] h = EX d 234 0 [(z_R 49100 0), (z_I x1), (z_I x2), (z_I x3), z_U] [] h := rfl
theorem rX11_write (d : Nat) (x1 : Int32) (x2 : Int32) (x3 : Int32) (h : z_H) : Rn (d + 1) 235 [(z_R 49100 0), (z_I x1), (z_I x2), (z_I x3)] h = EX d 235 0 [(z_R 49100 0), (z_I x1), (z_I x2), (z_I x3), z_U, z_U] [] h := rfl
theorem rX11_copy (d : Nat) (x1 : Int32) (x2 : Int32) (x3 : Int32) (x4 : Int32) (x5 : Int32) (h : z_H) : Rn (d + 1) 236 [(z_R 49100 0), (z_I x1), (z_I x2), (z_I x3), (z_I x4), (z_I x5)] h = EX d 236 0 [(z_R 49100 0), (z_I x1), (z_I x2), (z_I x3), (z_I x4), (z_I x5), z_U] [] h := rfl
theorem rX11_read (d : Nat) (x1 : Int32) (h : z_H) : Rn (d + 1) 237 [(z_R 49100 0), (z_I x1)] h = EX d 237 0 [(z_R 49100 0), (z_I x1)] [] h := rfl
theorem rX11_told (d : Nat) (x1 : Int32) (h : z_H) : Rn (d + 1) 238 [(z_R 49100 0), (z_I x1)] h = EX d 238 0 [(z_R 49100 0), (z_I x1)] [] h := rfl
theorem rJ7_fill_53178_a (d : Nat) (x1 : Int32) (h : z_H) : Rn (d + 1) 239 [(z_R 8121 0), (z_I x1)] h = EX d 239 0 [(z_R 8121 0), (z_I x1), z_U, z_U] [] h := rfl
theorem rJ7_fill_53178_b (d : Nat) (x1 : Int32) (h : z_H) : Rn (d + 1) 239 [(z_R 9330141 0), (z_I x1)] h = EX d 239 0 [(z_R 9330141 0), (z_I x1), z_U, z_U] [] h := rfl
theorem rJ7_fill_53178_c (d : Nat) (x1 : Int32) (h : z_H) : Rn (d + 1) 239 [(z_R 8241 0), (z_I x1)] h = EX d 239 0 [(z_R 8241 0), (z_I x1), z_U, z_U] [] h := rfl
theorem rJ7_fill_53178_d (d : Nat) (x1 : Int32) (h : z_H) : Rn (d + 1) 239 [(z_R 64221 0), (z_I x1)] h = EX d 239 0 [(z_R 64221 0), (z_I x1), z_U, z_U] [] h := rfl
theorem rJ7_fill_53178_e (d : Nat) (r0 : Nat) (x1 : Int32) (h : z_H) : Rn (d + 1) 239 [(z_R 12351 r0), (z_I x1)] h = EX d 239 0 [(z_R 12351 r0), (z_I x1), z_U, z_U] [] h := rfl
theorem rJ6_bitCount_0f7a4 (d : Nat) (x0 : Int32) (h : z_H) : Rn (d + 1) 240 [(z_I x0)] h = EX d 240 0 [(z_I x0)] [] h := rfl
theorem rJ9_min_7cf53 (d : Nat) (x0 : Int32) (x1 : Int32) (h : z_H) : Rn (d + 1) 241 [(z_I x0), (z_I x1)] h = EX d 241 0 [(z_I x0), (z_I x1)] [] h := rfl
theorem rJ9_max_7cf53 (d : Nat) (x0 : Int32) (x1 : Int32) (h : z_H) : Rn (d + 1) 242 [(z_I x0), (z_I x1)] h = EX d 242 0 [(z_I x0), (z_I x1)] [] h := rfl
theorem rJ0_indexOf_0f7a4 (d : Nat) (r0 : Nat) (x1 : Int32) (h : z_H) : Rn (d + 1) 243 [(z_R 8 r0), (z_I x1)] h = EX d 243 0 [(z_R 8 r0), (z_I x1)] [] h := rfl
theorem rJ0_indexOf_7cf53 (d : Nat) (r0 : Nat) (x1 : Int32) (x2 : Int32) (h : z_H) : Rn (d + 1) 244 [(z_R 8 r0), (z_I x1), (z_I x2)] h = EX d 244 0 [(z_R 8 r0), (z_I x1), (z_I x2)] [] h := rfl
theorem rJ0_isLatin1_aae02 (d : Nat) (r0 : Nat) (h : z_H) : Rn (d + 1) 245 [(z_R 8 r0)] h = EX d 245 0 [(z_R 8 r0)] [] h := rfl
theorem rJ0_length_8abf5 (d : Nat) (r0 : Nat) (h : z_H) : Rn (d + 1) 246 [(z_R 8 r0)] h = EX d 246 0 [(z_R 8 r0)] [] h := rfl
theorem rJ0_coder_7d493 (d : Nat) (r0 : Nat) (h : z_H) : Rn (d + 1) 247 [(z_R 8 r0)] h = EX d 247 0 [(z_R 8 r0)] [] h := rfl
theorem rJ1_indexOf_4cfef (d : Nat) (r0 : Nat) (x1 : Int32) (x2 : Int32) (x3 : Int32) (h : z_H) : Rn (d + 1) 248 [(z_R 9 r0), (z_I x1), (z_I x2), (z_I x3)] h = EX d 248 0 [(z_R 9 r0), (z_I x1), (z_I x2), (z_I x3)] [] h := rfl
theorem rJ1_canEncode_9a6ad (d : Nat) (x0 : Int32) (h : z_H) : Rn (d + 1) 249 [(z_I x0)] h = EX d 249 0 [(z_I x0)] [] h := rfl
theorem rL_law (d : Nat)  (h : z_H) : Rn (d + 1) 250 [(z_R 7 0)] h = EX d 250 0 [(z_R 7 0), z_U, z_U, z_U] [] h := rfl
