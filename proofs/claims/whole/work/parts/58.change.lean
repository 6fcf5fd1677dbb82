/-! ===== Change: which fields hold, and what becomes of a row ===== -/
/-- a mark as a set of digits -/
def digD (V mk : Nat) : Nat := if mk = 0 then 127 else if mk = 7 then V * 2 else if mk = 8 then (63 - V) * 2 else if mk = 9 then 1 else 2 ^ mk
theorem digD_lt : ∀ V, V < 64 → ∀ mk, mk < 10 → digD V mk < 128 := by decide +kernel
theorem digD_fit : ∀ V, V < 64 → ∀ mk, mk < 10 → ∀ c, c < 7 → (digD V mk).testBit c = fitD V mk c := by decide +kernel
theorem digD_from : ∀ V, V < 64 → ∀ mk, mk < 9 → 1 ≤ mk → (digD V mk).testBit 0 = false := by decide +kernel
theorem dig_a : ∀ V, V < 64 → (nI V <<< ((1 : Int32) &&& 31)) = nI (digD V 7) ∧ (((nI V ^^^ (-1)) &&& 63) <<< ((1 : Int32) &&& 31)) = nI (digD V 8) := by decide +kernel
theorem c_digitsOf (d : Nat) {V mk : Nat} (hV : V < 64) (hk : mk < 10) (h : z_H) : Rn (d + 1) 6 [z_I (mkI mk), z_I (nI V)] h = some (some (z_I (nI (digD V mk))), h) := by
  rw [rX6_digitsOf, bX6_digitsOf_0]
  obtain ⟨e7, e8⟩ := dig_a V hV
  have key : mk = 0 ∨ mk = 1 ∨ mk = 2 ∨ mk = 3 ∨ mk = 4 ∨ mk = 5 ∨ mk = 6 ∨ mk = 7 ∨ mk = 8 ∨ mk = 9 := by omega
  rcases key with rfl | rfl | rfl | rfl | rfl | rfl | rfl | rfl | rfl | rfl
  · rw [if_pos (by decide), bX6_digitsOf_56]; rfl
  · rw [if_neg (by decide), if_pos (by decide), bX6_digitsOf_74]; rfl
  · rw [if_neg (by decide), if_neg (by decide), if_pos (by decide), bX6_digitsOf_74]; rfl
  · rw [if_neg (by decide), if_neg (by decide), if_neg (by decide), if_pos (by decide), bX6_digitsOf_74]; rfl
  · rw [if_neg (by decide), if_neg (by decide), if_neg (by decide), if_neg (by decide), if_pos (by decide), bX6_digitsOf_74]; rfl
  · rw [if_neg (by decide), if_neg (by decide), if_neg (by decide), if_neg (by decide), if_neg (by decide), if_pos (by decide), bX6_digitsOf_74]; rfl
  · rw [if_neg (by decide), if_neg (by decide), if_neg (by decide), if_neg (by decide), if_neg (by decide), if_neg (by decide), if_pos (by decide), bX6_digitsOf_74]; rfl
  · rw [if_neg (by decide), if_neg (by decide), if_neg (by decide), if_neg (by decide), if_neg (by decide), if_neg (by decide), if_neg (by decide), if_pos (by decide), bX6_digitsOf_59, e7]
  · rw [if_neg (by decide), if_neg (by decide), if_neg (by decide), if_neg (by decide), if_neg (by decide), if_neg (by decide), if_neg (by decide), if_neg (by decide), if_pos (by decide), bX6_digitsOf_63, e8]
  · rw [if_neg (by decide), if_neg (by decide), if_neg (by decide), if_neg (by decide), if_neg (by decide), if_neg (by decide), if_neg (by decide), if_neg (by decide), if_neg (by decide), if_pos (by decide), bX6_digitsOf_72]; rfl
/-- the laws that are kept: no marks where there is no place -/
def nmL (L : Lw) : Prop := okL L ∧ (L 2 = 0 → L 3 = 0 ∧ L 4 = 0) ∧ (L 5 = 0 → L 6 = 0 ∧ L 7 = 0)
/-- the r-th Change does what the law L does with vowels V -/
def cC (h : z_H) (r V : Nat) (L : Lw) : Prop := gI h 6000 r 0 = nI (digD V (L 0)) ∧ gI h 6000 r 1 = nI (digD V (L 3)) ∧ gI h 6000 r 2 = nI (digD V (L 4)) ∧ gI h 6000 r 3 = nI (if L 5 = 0 then 0 else digD V (L 6)) ∧ gI h 6000 r 4 = nI (if L 5 = 0 then 0 else digD V (L 7)) ∧ gI h 6000 r 5 = nI (rowN (toW (L 1)))
theorem toW_isW {t : Nat} (h : okT t) : isW (toW t) := ⟨Nat.le_trans (toW_len t) (by decide), toW_ok h⟩
theorem toW_num {t : Nat} (h : okT t) : wN (toW t) = t := by
  unfold toW
  split
  · next z => rw [z]; rfl
  · split
    · show 0 * 7 + t = t
      omega
    · show (0 * 7 + t / 7) * 7 + t % 7 = t
      omega
def pC (r : Nat) : Nat → Nat → Nat → Prop := fun p i _ => p = 6000 ∧ i = r
theorem cC_mk {h : z_H} {r V : Nat} {L : Lw} {a0 a1 a2 a3 a4 a5 : Int32} (e0 : a0 = nI (digD V (L 0))) (e1 : a1 = nI (digD V (L 3))) (e2 : a2 = nI (digD V (L 4))) (e3 : a3 = nI (if L 5 = 0 then 0 else digD V (L 6))) (e4 : a4 = nI (if L 5 = 0 then 0 else digD V (L 7))) (e5 : a5 = nI (rowN (toW (L 1)))) :
    cC (pI (pI (pI (pI (pI (pI h 6000 r 0 a0) 6000 r 5 a5) 6000 r 1 a1) 6000 r 2 a2) 6000 r 3 a3) 6000 r 4 a4) r V L ∧ fr (pC r) h (pI (pI (pI (pI (pI (pI h 6000 r 0 a0) 6000 r 5 a5) 6000 r 1 a1) 6000 r 2 a2) 6000 r 3 a3) 6000 r 4 a4) := by
  constructor
  · unfold cC
    simp (disch := first | omega | rfl | assumption) only [q_cl, q_ps, q_pn, bI_t, bI_f, gI_same, gI_ne, gR_pI, gJ_pI, gV_pI, gN_pI, gC_pI, gS_pI, gI_pJ, gR_pJ, gV_pJ, gN_pJ, gJ_same, gJ_ne, gI_pR, gJ_pR, gV_pR, gN_pR, gR_same, gR_ne, zin_t, zin_f, x_ltt, x_ltf, x_let, x_lef, x_eqt, x_eqf, n_0, n_1, n_2, n_3, n_4, n_5, n_6, n_7, n_8, n_9, n_10, n_11, n_12, n_16, n_19, n_20, n_24, n_25, n_32, n_40, n_48, n_50, n_60, n_64, n_80, n_96, n_114, n_684, n_1000, n_9330, n_16806, n_1000000, n_5764800, ↓n_m, m_ltI, m_leI, m_lt', m_le', m_eq, m_eq', m_add, m_sub, mm_lt, mm_le, mm_eq, q_sub, nI_add, q_mul, nI_clamp, q_bz0, q_bz1, q_bzb, q_b0, q_bn, ne_eq, not_true_eq_false, not_false_eq_true, Bool.and_true, Bool.true_and, Bool.not_true, Bool.not_false, ↓reduceIte]
    exact ⟨e0, e1, e2, e3, e4, e5⟩
  · exact fr_trans (fr_trans (fr_trans (fr_trans (fr_trans (fr_pI h _ ⟨rfl, rfl⟩) (fr_pI _ _ ⟨rfl, rfl⟩)) (fr_pI _ _ ⟨rfl, rfl⟩)) (fr_pI _ _ ⟨rfl, rfl⟩)) (fr_pI _ _ ⟨rfl, rfl⟩)) (fr_pI _ _ ⟨rfl, rfl⟩)
/-- facts as a law has them: in a row of ints -/
def fcL (h : z_H) (p i : Nat) (L : Lw) : Prop := gI h p i 1 = mkI (L 0) ∧ gI h p i 2 = nI (L 1) ∧ gI h p i 3 = mkI (L 3) ∧ gI h p i 4 = mkI (L 4) ∧ gI h p i 5 = mkI (L 6) ∧ gI h p i 6 = mkI (L 7) ∧ gI h p i 7 = nI (L 2) ∧ gI h p i 8 = nI (L 5)
theorem c_set_a (d : Nat) {V : Nat} (hV : V < 64) {L : Lw} (hL : nmL L) {h : z_H} (hf : fcL h 9371 0 L) (r : Nat) : ∃ h', Rn (d + 2) 9 [z_R 6000 r, z_R 9371 0, z_I (nI V)] h = some (none, h') ∧ cC h' r V L ∧ fr (pC r) h h' := by
  obtain ⟨f1, f2, f3, f4, f5, f6, f7, f8⟩ := hf
  obtain ⟨⟨l0, l1, l2, l34, l5, l67⟩, n1, n2⟩ := hL
  have ht : rowX (nI (L 1)) = nI (rowN (toW (L 1))) := by
    have := rowX_w (toW_isW l1)
    rw [toW_num l1] at this
    exact this
  rcases l5 with z | z
  · refine ⟨_, ?_, cC_mk (a0 := nI (digD V (L 0))) (a1 := nI (digD V (L 3))) (a2 := nI (digD V (L 4))) (a3 := 0) (a4 := 0) (a5 := nI (rowN (toW (L 1)))) rfl rfl rfl (by rw [if_pos z]; rfl) (by rw [if_pos z]; rfl) rfl⟩
    simp (disch := first | omega | rfl | assumption) only [rX0_set_a, bX0_set_0_a, f1, c_digitsOf d hV (show L 0 < 10 by omega), bX0_set_8_a, f2, c_rowOf, ht, bX0_set_18_a, f3, c_digitsOf d hV (show L 3 < 10 by omega), bX0_set_29_a, f4, c_digitsOf d hV (show L 4 < 10 by omega), bX0_set_40_a, f8, z, bX0_set_55_a, bX0_set_56_a, bX0_set_72_a, bX0_set_73_a, bX0_set_92_a, bX0_set_93_a, q_cl, q_ps, q_pn, bI_t, bI_f, gI_same, gI_ne, gR_pI, gJ_pI, gV_pI, gN_pI, gC_pI, gS_pI, gI_pJ, gR_pJ, gV_pJ, gN_pJ, gJ_same, gJ_ne, gI_pR, gJ_pR, gV_pR, gN_pR, gR_same, gR_ne, zin_t, zin_f, x_ltt, x_ltf, x_let, x_lef, x_eqt, x_eqf, n_0, n_1, n_2, n_3, n_4, n_5, n_6, n_7, n_8, n_9, n_10, n_11, n_12, n_16, n_19, n_20, n_24, n_25, n_32, n_40, n_48, n_50, n_60, n_64, n_80, n_96, n_114, n_684, n_1000, n_9330, n_16806, n_1000000, n_5764800, ↓n_m, m_ltI, m_leI, m_lt', m_le', m_eq, m_eq', m_add, m_sub, mm_lt, mm_le, mm_eq, q_sub, nI_add, q_mul, nI_clamp, q_bz0, q_bz1, q_bzb, q_b0, q_bn, ne_eq, not_true_eq_false, not_false_eq_true, Bool.and_true, Bool.true_and, Bool.not_true, Bool.not_false, ↓reduceIte]
  · refine ⟨_, ?_, cC_mk (a0 := nI (digD V (L 0))) (a1 := nI (digD V (L 3))) (a2 := nI (digD V (L 4))) (a3 := nI (digD V (L 6))) (a4 := nI (digD V (L 7))) (a5 := nI (rowN (toW (L 1)))) rfl rfl rfl (by rw [if_neg (by omega)]) (by rw [if_neg (by omega)]) rfl⟩
    simp (disch := first | omega | rfl | assumption) only [rX0_set_a, bX0_set_0_a, f1, c_digitsOf d hV (show L 0 < 10 by omega), bX0_set_8_a, f2, c_rowOf, ht, bX0_set_18_a, f3, c_digitsOf d hV (show L 3 < 10 by omega), bX0_set_29_a, f4, c_digitsOf d hV (show L 4 < 10 by omega), bX0_set_40_a, f8, z, bX0_set_55_a, bX0_set_56_a, f5, c_digitsOf d hV (show L 6 < 10 by omega), bX0_set_69_a, bX0_set_73_a, f6, c_digitsOf d hV (show L 7 < 10 by omega), bX0_set_89_a, bX0_set_93_a, q_cl, q_ps, q_pn, bI_t, bI_f, gI_same, gI_ne, gR_pI, gJ_pI, gV_pI, gN_pI, gC_pI, gS_pI, gI_pJ, gR_pJ, gV_pJ, gN_pJ, gJ_same, gJ_ne, gI_pR, gJ_pR, gV_pR, gN_pR, gR_same, gR_ne, zin_t, zin_f, x_ltt, x_ltf, x_let, x_lef, x_eqt, x_eqf, n_0, n_1, n_2, n_3, n_4, n_5, n_6, n_7, n_8, n_9, n_10, n_11, n_12, n_16, n_19, n_20, n_24, n_25, n_32, n_40, n_48, n_50, n_60, n_64, n_80, n_96, n_114, n_684, n_1000, n_9330, n_16806, n_1000000, n_5764800, ↓n_m, m_ltI, m_leI, m_lt', m_le', m_eq, m_eq', m_add, m_sub, mm_lt, mm_le, mm_eq, q_sub, nI_add, q_mul, nI_clamp, q_bz0, q_bz1, q_bzb, q_b0, q_bn, ne_eq, not_true_eq_false, not_false_eq_true, Bool.and_true, Bool.true_and, Bool.not_true, Bool.not_false, ↓reduceIte]
