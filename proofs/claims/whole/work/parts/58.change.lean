/-! ===== Change: which fields hold, and what becomes of a row ===== -/
/-- a mark as a set of digits -/
def digD (V mk : Nat) : Nat := if mk = 0 then 127 else if mk = 7 then V * 2 else if mk = 8 then (63 - V) * 2 else if mk = 9 then 1 else 2 ^ mk
theorem digD_lt : ∀ V, V < 64 → ∀ mk, mk < 10 → digD V mk < 128 := by decide +kernel
theorem digD_fit : ∀ V, V < 64 → ∀ mk, mk < 10 → ∀ c, c < 7 → (digD V mk).testBit c = fitD V mk c := by decide +kernel
theorem digD_from : ∀ V, V < 64 → ∀ mk, mk < 9 → 1 ≤ mk → (digD V mk).testBit 0 = false := by decide +kernel
theorem dig_a : ∀ V, V < 64 → (nI V <<< ((1 : Int32) &&& 31)) = nI (digD V 7) ∧ (((nI V ^^^ (-1)) &&& 63) <<< ((1 : Int32) &&& 31)) = nI (digD V 8) := by decide +kernel
theorem c_digitsOf (d : Nat) {V mk : Nat} (hV : V < 64) (hk : mk < 10) (h : z_H) : Rn (d + 1) 6 [z_I (mkI mk), z_I (nI V)] h = some (some (z_I (nI (digD V mk))), h) := by
  rw [rX6_digitsOf, bX6_digitsOf_0]
  obtain ⟨e7, e8⟩ := dig_a V hV
  have key : mk = 0 ∨ mk = 1 ∨ mk = 2 ∨ mk = 3 ∨ mk = 4 ∨ mk = 5 ∨ mk = 6 ∨ mk = 7 ∨ mk = 8 ∨ mk = 9 := by omega
  rcases key with rfl | rfl | rfl | rfl | rfl | rfl | rfl | rfl | rfl | rfl
  · rw [if_pos (by decide), bX6_digitsOf_56]; rfl
  · rw [if_neg (by decide), if_pos (by decide), bX6_digitsOf_74]; rfl
  · rw [if_neg (by decide), if_neg (by decide), if_pos (by decide), bX6_digitsOf_74]; rfl
  · rw [if_neg (by decide), if_neg (by decide), if_neg (by decide), if_pos (by decide), bX6_digitsOf_74]; rfl
  · rw [if_neg (by decide), if_neg (by decide), if_neg (by decide), if_neg (by decide), if_pos (by decide), bX6_digitsOf_74]; rfl
  · rw [if_neg (by decide), if_neg (by decide), if_neg (by decide), if_neg (by decide), if_neg (by decide), if_pos (by decide), bX6_digitsOf_74]; rfl
  · rw [if_neg (by decide), if_neg (by decide), if_neg (by decide), if_neg (by decide), if_neg (by decide), if_neg (by decide), if_pos (by decide), bX6_digitsOf_74]; rfl
  · rw [if_neg (by decide), if_neg (by decide), if_neg (by decide), if_neg (by decide), if_neg (by decide), if_neg (by decide), if_neg (by decide), if_pos (by decide), bX6_digitsOf_59, e7]
  · rw [if_neg (by decide), if_neg (by decide), if_neg (by decide), if_neg (by decide), if_neg (by decide), if_neg (by decide), if_neg (by decide), if_neg (by decide), if_pos (by decide), bX6_digitsOf_63, e8]
  · rw [if_neg (by decide), if_neg (by decide), if_neg (by decide), if_neg (by decide), if_neg (by decide), if_neg (by decide), if_neg (by decide), if_neg (by decide), if_neg (by decide), if_pos (by decide), bX6_digitsOf_72]; rfl
/-- the laws that are kept: no marks where there is no place -/
def nmL (L : Lw) : Prop := okL L ∧ (L 2 = 0 → L 3 = 0 ∧ L 4 = 0) ∧ (L 5 = 0 → L 6 = 0 ∧ L 7 = 0)
/-- the r-th Change does what the law L does with vowels V -/
def cC (h : z_H) (r V : Nat) (L : Lw) : Prop := gI h 6000 r 0 = nI (digD V (L 0)) ∧ gI h 6000 r 1 = nI (digD V (L 3)) ∧ gI h 6000 r 2 = nI (digD V (L 4)) ∧ gI h 6000 r 3 = nI (if L 5 = 0 then 0 else digD V (L 6)) ∧ gI h 6000 r 4 = nI (if L 5 = 0 then 0 else digD V (L 7)) ∧ gI h 6000 r 5 = nI (rowN (toW (L 1)))
theorem toW_isW {t : Nat} (h : okT t) : isW (toW t) := ⟨Nat.le_trans (toW_len t) (by decide), toW_ok h⟩
theorem toW_num {t : Nat} (h : okT t) : wN (toW t) = t := by
  unfold toW
  split
  · next z => rw [z]; rfl
  · split
    · show 0 * 7 + t = t
      omega
    · show (0 * 7 + t / 7) * 7 + t % 7 = t
      omega
def pC (r : Nat) : Nat → Nat → Nat → Prop := fun p i _ => p = 6000 ∧ i = r
theorem cC_mk {h : z_H} {r V : Nat} {L : Lw} {a0 a1 a2 a3 a4 a5 : Int32} (e0 : a0 = nI (digD V (L 0))) (e1 : a1 = nI (digD V (L 3))) (e2 : a2 = nI (digD V (L 4))) (e3 : a3 = nI (if L 5 = 0 then 0 else digD V (L 6))) (e4 : a4 = nI (if L 5 = 0 then 0 else digD V (L 7))) (e5 : a5 = nI (rowN (toW (L 1)))) :
    cC (pI (pI (pI (pI (pI (pI h 6000 r 0 a0) 6000 r 5 a5) 6000 r 1 a1) 6000 r 2 a2) 6000 r 3 a3) 6000 r 4 a4) r V L ∧ fr (pC r) h (pI (pI (pI (pI (pI (pI h 6000 r 0 a0) 6000 r 5 a5) 6000 r 1 a1) 6000 r 2 a2) 6000 r 3 a3) 6000 r 4 a4) := by
  constructor
  · unfold cC
    simp (disch := first | omega | rfl | assumption) only [q_cl, q_ps, q_pn, bI_t, bI_f, gI_same, gI_ne, gR_pI, gJ_pI, gV_pI, gN_pI, gC_pI, gS_pI, gI_pJ, gR_pJ, gV_pJ, gN_pJ, gJ_same, gJ_ne, gI_pR, gJ_pR, gV_pR, gN_pR, gR_same, gR_ne, zin_t, zin_f, x_ltt, x_ltf, x_let, x_lef, x_eqt, x_eqf, n_0, n_1, n_2, n_3, n_4, n_5, n_6, n_7, n_8, n_9, n_10, n_11, n_12, n_16, n_19, n_20, n_24, n_25, n_32, n_40, n_48, n_50, n_60, n_64, n_80, n_96, n_114, n_684, n_1000, n_9330, n_16806, n_1000000, n_5764800, ↓n_m, m_ltI, m_leI, m_lt', m_le', m_eq, m_eq', m_add, m_sub, mm_lt, mm_le, mm_eq, q_sub, nI_add, q_mul, nI_clamp, bz_0, bz_1, q_bzb, b_0, b_1, b_ft, b_tf, ne_eq, not_true_eq_false, not_false_eq_true, decide_true, decide_false, Bool.and_self, Bool.false_and, Bool.and_false, Bool.and_true, Bool.true_and, Bool.not_true, Bool.not_false, ↓reduceIte]
    exact ⟨e0, e1, e2, e3, e4, e5⟩
  · exact fr_trans (fr_trans (fr_trans (fr_trans (fr_trans (fr_pI h _ ⟨rfl, rfl⟩) (fr_pI _ _ ⟨rfl, rfl⟩)) (fr_pI _ _ ⟨rfl, rfl⟩)) (fr_pI _ _ ⟨rfl, rfl⟩)) (fr_pI _ _ ⟨rfl, rfl⟩)) (fr_pI _ _ ⟨rfl, rfl⟩)
/-- facts as a law has them: in a row of ints -/
def fcL (h : z_H) (p i : Nat) (L : Lw) : Prop := gI h p i 1 = mkI (L 0) ∧ gI h p i 2 = nI (L 1) ∧ gI h p i 3 = mkI (L 3) ∧ gI h p i 4 = mkI (L 4) ∧ gI h p i 5 = mkI (L 6) ∧ gI h p i 6 = mkI (L 7) ∧ gI h p i 7 = nI (L 2) ∧ gI h p i 8 = nI (L 5)
theorem c_set_a (d : Nat) {V : Nat} (hV : V < 64) {L : Lw} (hL : nmL L) {h : z_H} (hf : fcL h 9371 0 L) (r : Nat) : ∃ h', Rn (d + 2) 9 [z_R 6000 r, z_R 9371 0, z_I (nI V)] h = some (none, h') ∧ cC h' r V L ∧ fr (pC r) h h' := by
  obtain ⟨f1, f2, f3, f4, f5, f6, f7, f8⟩ := hf
  obtain ⟨⟨l0, l1, l2, l34, l5, l67⟩, n1, n2⟩ := hL
  have ht : rowX (nI (L 1)) = nI (rowN (toW (L 1))) := by
    have := rowX_w (toW_isW l1)
    rw [toW_num l1] at this
    exact this
  rcases l5 with z | z
  · refine ⟨_, ?_, cC_mk (a0 := nI (digD V (L 0))) (a1 := nI (digD V (L 3))) (a2 := nI (digD V (L 4))) (a3 := 0) (a4 := 0) (a5 := nI (rowN (toW (L 1)))) rfl rfl rfl (by rw [if_pos z]; rfl) (by rw [if_pos z]; rfl) rfl⟩
    simp (disch := first | omega | rfl | assumption) only [rX0_set_a, bX0_set_0_a, f1, c_digitsOf d hV (show L 0 < 10 by omega), bX0_set_8_a, f2, c_rowOf, ht, bX0_set_18_a, f3, c_digitsOf d hV (show L 3 < 10 by omega), bX0_set_29_a, f4, c_digitsOf d hV (show L 4 < 10 by omega), bX0_set_40_a, f8, z, bX0_set_55_a, bX0_set_56_a, bX0_set_72_a, bX0_set_73_a, bX0_set_92_a, bX0_set_93_a, q_cl, q_ps, q_pn, bI_t, bI_f, gI_same, gI_ne, gR_pI, gJ_pI, gV_pI, gN_pI, gC_pI, gS_pI, gI_pJ, gR_pJ, gV_pJ, gN_pJ, gJ_same, gJ_ne, gI_pR, gJ_pR, gV_pR, gN_pR, gR_same, gR_ne, zin_t, zin_f, x_ltt, x_ltf, x_let, x_lef, x_eqt, x_eqf, n_0, n_1, n_2, n_3, n_4, n_5, n_6, n_7, n_8, n_9, n_10, n_11, n_12, n_16, n_19, n_20, n_24, n_25, n_32, n_40, n_48, n_50, n_60, n_64, n_80, n_96, n_114, n_684, n_1000, n_9330, n_16806, n_1000000, n_5764800, ↓n_m, m_ltI, m_leI, m_lt', m_le', m_eq, m_eq', m_add, m_sub, mm_lt, mm_le, mm_eq, q_sub, nI_add, q_mul, nI_clamp, bz_0, bz_1, q_bzb, b_0, b_1, b_ft, b_tf, ne_eq, not_true_eq_false, not_false_eq_true, decide_true, decide_false, Bool.and_self, Bool.false_and, Bool.and_false, Bool.and_true, Bool.true_and, Bool.not_true, Bool.not_false, ↓reduceIte]
  · refine ⟨_, ?_, cC_mk (a0 := nI (digD V (L 0))) (a1 := nI (digD V (L 3))) (a2 := nI (digD V (L 4))) (a3 := nI (digD V (L 6))) (a4 := nI (digD V (L 7))) (a5 := nI (rowN (toW (L 1)))) rfl rfl rfl (by rw [if_neg (by omega)]) (by rw [if_neg (by omega)]) rfl⟩
    simp (disch := first | omega | rfl | assumption) only [rX0_set_a, bX0_set_0_a, f1, c_digitsOf d hV (show L 0 < 10 by omega), bX0_set_8_a, f2, c_rowOf, ht, bX0_set_18_a, f3, c_digitsOf d hV (show L 3 < 10 by omega), bX0_set_29_a, f4, c_digitsOf d hV (show L 4 < 10 by omega), bX0_set_40_a, f8, z, bX0_set_55_a, bX0_set_56_a, f5, c_digitsOf d hV (show L 6 < 10 by omega), bX0_set_69_a, bX0_set_73_a, f6, c_digitsOf d hV (show L 7 < 10 by omega), bX0_set_89_a, bX0_set_93_a, q_cl, q_ps, q_pn, bI_t, bI_f, gI_same, gI_ne, gR_pI, gJ_pI, gV_pI, gN_pI, gC_pI, gS_pI, gI_pJ, gR_pJ, gV_pJ, gN_pJ, gJ_same, gJ_ne, gI_pR, gJ_pR, gV_pR, gN_pR, gR_same, gR_ne, zin_t, zin_f, x_ltt, x_ltf, x_let, x_lef, x_eqt, x_eqf, n_0, n_1, n_2, n_3, n_4, n_5, n_6, n_7, n_8, n_9, n_10, n_11, n_12, n_16, n_19, n_20, n_24, n_25, n_32, n_40, n_48, n_50, n_60, n_64, n_80, n_96, n_114, n_684, n_1000, n_9330, n_16806, n_1000000, n_5764800, ↓n_m, m_ltI, m_leI, m_lt', m_le', m_eq, m_eq', m_add, m_sub, mm_lt, mm_le, mm_eq, q_sub, nI_add, q_mul, nI_clamp, bz_0, bz_1, q_bzb, b_0, b_1, b_ft, b_tf, ne_eq, not_true_eq_false, not_false_eq_true, decide_true, decide_false, Bool.and_self, Bool.false_and, Bool.and_false, Bool.and_true, Bool.true_and, Bool.not_true, Bool.not_false, ↓reduceIte]
theorem c_set_b (d : Nat) {V : Nat} (hV : V < 64) {L : Lw} (hL : nmL L) {h : z_H} {j : Nat} (hf : fcL h 9301 j L) (r : Nat) : ∃ h', Rn (d + 2) 9 [z_R 6000 r, z_R 9301 j, z_I (nI V)] h = some (none, h') ∧ cC h' r V L ∧ fr (pC r) h h' := by
  obtain ⟨f1, f2, f3, f4, f5, f6, f7, f8⟩ := hf
  obtain ⟨⟨l0, l1, l2, l34, l5, l67⟩, n1, n2⟩ := hL
  have ht : rowX (nI (L 1)) = nI (rowN (toW (L 1))) := by
    have := rowX_w (toW_isW l1)
    rw [toW_num l1] at this
    exact this
  rcases l5 with z | z
  · refine ⟨_, ?_, cC_mk (a0 := nI (digD V (L 0))) (a1 := nI (digD V (L 3))) (a2 := nI (digD V (L 4))) (a3 := 0) (a4 := 0) (a5 := nI (rowN (toW (L 1)))) rfl rfl rfl (by rw [if_pos z]; rfl) (by rw [if_pos z]; rfl) rfl⟩
    simp (disch := first | omega | rfl | assumption) only [rX0_set_b, bX0_set_0_b, f1, c_digitsOf d hV (show L 0 < 10 by omega), bX0_set_8_b, f2, c_rowOf, ht, bX0_set_18_b, f3, c_digitsOf d hV (show L 3 < 10 by omega), bX0_set_29_b, f4, c_digitsOf d hV (show L 4 < 10 by omega), bX0_set_40_b, f8, z, bX0_set_55_b, bX0_set_56_b, bX0_set_72_b, bX0_set_73_b, bX0_set_92_b, bX0_set_93_b, q_cl, q_ps, q_pn, bI_t, bI_f, gI_same, gI_ne, gR_pI, gJ_pI, gV_pI, gN_pI, gC_pI, gS_pI, gI_pJ, gR_pJ, gV_pJ, gN_pJ, gJ_same, gJ_ne, gI_pR, gJ_pR, gV_pR, gN_pR, gR_same, gR_ne, zin_t, zin_f, x_ltt, x_ltf, x_let, x_lef, x_eqt, x_eqf, n_0, n_1, n_2, n_3, n_4, n_5, n_6, n_7, n_8, n_9, n_10, n_11, n_12, n_16, n_19, n_20, n_24, n_25, n_32, n_40, n_48, n_50, n_60, n_64, n_80, n_96, n_114, n_684, n_1000, n_9330, n_16806, n_1000000, n_5764800, ↓n_m, m_ltI, m_leI, m_lt', m_le', m_eq, m_eq', m_add, m_sub, mm_lt, mm_le, mm_eq, q_sub, nI_add, q_mul, nI_clamp, bz_0, bz_1, q_bzb, b_0, b_1, b_ft, b_tf, ne_eq, not_true_eq_false, not_false_eq_true, decide_true, decide_false, Bool.and_self, Bool.false_and, Bool.and_false, Bool.and_true, Bool.true_and, Bool.not_true, Bool.not_false, ↓reduceIte]
  · refine ⟨_, ?_, cC_mk (a0 := nI (digD V (L 0))) (a1 := nI (digD V (L 3))) (a2 := nI (digD V (L 4))) (a3 := nI (digD V (L 6))) (a4 := nI (digD V (L 7))) (a5 := nI (rowN (toW (L 1)))) rfl rfl rfl (by rw [if_neg (by omega)]) (by rw [if_neg (by omega)]) rfl⟩
    simp (disch := first | omega | rfl | assumption) only [rX0_set_b, bX0_set_0_b, f1, c_digitsOf d hV (show L 0 < 10 by omega), bX0_set_8_b, f2, c_rowOf, ht, bX0_set_18_b, f3, c_digitsOf d hV (show L 3 < 10 by omega), bX0_set_29_b, f4, c_digitsOf d hV (show L 4 < 10 by omega), bX0_set_40_b, f8, z, bX0_set_55_b, bX0_set_56_b, f5, c_digitsOf d hV (show L 6 < 10 by omega), bX0_set_69_b, bX0_set_73_b, f6, c_digitsOf d hV (show L 7 < 10 by omega), bX0_set_89_b, bX0_set_93_b, q_cl, q_ps, q_pn, bI_t, bI_f, gI_same, gI_ne, gR_pI, gJ_pI, gV_pI, gN_pI, gC_pI, gS_pI, gI_pJ, gR_pJ, gV_pJ, gN_pJ, gJ_same, gJ_ne, gI_pR, gJ_pR, gV_pR, gN_pR, gR_same, gR_ne, zin_t, zin_f, x_ltt, x_ltf, x_let, x_lef, x_eqt, x_eqf, n_0, n_1, n_2, n_3, n_4, n_5, n_6, n_7, n_8, n_9, n_10, n_11, n_12, n_16, n_19, n_20, n_24, n_25, n_32, n_40, n_48, n_50, n_60, n_64, n_80, n_96, n_114, n_684, n_1000, n_9330, n_16806, n_1000000, n_5764800, ↓n_m, m_ltI, m_leI, m_lt', m_le', m_eq, m_eq', m_add, m_sub, mm_lt, mm_le, mm_eq, q_sub, nI_add, q_mul, nI_clamp, bz_0, bz_1, q_bzb, b_0, b_1, b_ft, b_tf, ne_eq, not_true_eq_false, not_false_eq_true, decide_true, decide_false, Bool.and_self, Bool.false_and, Bool.and_false, Bool.and_true, Bool.true_and, Bool.not_true, Bool.not_false, ↓reduceIte]
/-- a simple law: FROM, TO, where -/
def smL (f t p : Nat) : Lw := fun k => if k = 0 then f else if k = 1 then t else if k = 2 then (if p = 0 then 0 else 1) else if k = 3 then (if p ≤ 9 then p else 0) else if k = 4 then (if p ≤ 9 then 0 else p - 9) else 0
theorem smL_ok {f t p : Nat} (hf : 1 ≤ f ∧ f ≤ 6) (ht : t ≤ 6) (hp : p < 19) : nmL (smL f t p) := by
  refine ⟨⟨⟨hf.1, by show f ≤ 8; omega⟩, Or.inl ht, ?_, ⟨?_, ?_⟩, Or.inl rfl, ⟨Nat.zero_le _, Nat.zero_le _⟩⟩, ?_, fun _ => ⟨rfl, rfl⟩⟩
  · show (if p = 0 then 0 else 1) = 0 ∨ (if p = 0 then 0 else 1) = 1
    split <;> simp
  · show (if p ≤ 9 then p else 0) ≤ 9
    split <;> omega
  · show (if p ≤ 9 then 0 else p - 9) ≤ 9
    split <;> omega
  · show (if p = 0 then 0 else 1) = 0 → (if p ≤ 9 then p else 0) = 0 ∧ (if p ≤ 9 then 0 else p - 9) = 0
    intro z
    split at z
    · next e => rw [if_pos (by omega), if_pos (by omega)]; omega
    · omega
theorem sm_a : ∀ f, f < 7 → 1 ≤ f → ∀ V, V < 64 → (nI 1 <<< (nI f &&& 31)) = nI (digD V f) := by decide +kernel
theorem toW_row {t : Nat} (ht : t ≤ 6) : rowN (toW t) = t := by
  unfold toW
  split
  · next e => rw [e]; rfl
  · rw [if_pos (by omega)]
    show 0 * 8 + t = t
    omega
theorem cC_mk2 {h : z_H} {r V : Nat} {L : Lw} {a0 a1 a2 a3 a4 a5 b1 : Int32} (e0 : a0 = nI (digD V (L 0))) (e1 : a1 = nI (digD V (L 3))) (e2 : a2 = nI (digD V (L 4))) (e3 : a3 = nI (if L 5 = 0 then 0 else digD V (L 6))) (e4 : a4 = nI (if L 5 = 0 then 0 else digD V (L 7))) (e5 : a5 = nI (rowN (toW (L 1)))) :
    cC (pI (pI (pI (pI (pI (pI (pI h 6000 r 0 a0) 6000 r 5 a5) 6000 r 1 b1) 6000 r 2 a2) 6000 r 1 a1) 6000 r 3 a3) 6000 r 4 a4) r V L ∧ fr (pC r) h (pI (pI (pI (pI (pI (pI (pI h 6000 r 0 a0) 6000 r 5 a5) 6000 r 1 b1) 6000 r 2 a2) 6000 r 1 a1) 6000 r 3 a3) 6000 r 4 a4) := by
  constructor
  · unfold cC
    simp (disch := first | omega | rfl | assumption) only [q_cl, q_ps, q_pn, bI_t, bI_f, gI_same, gI_ne, gR_pI, gJ_pI, gV_pI, gN_pI, gC_pI, gS_pI, gI_pJ, gR_pJ, gV_pJ, gN_pJ, gJ_same, gJ_ne, gI_pR, gJ_pR, gV_pR, gN_pR, gR_same, gR_ne, zin_t, zin_f, x_ltt, x_ltf, x_let, x_lef, x_eqt, x_eqf, n_0, n_1, n_2, n_3, n_4, n_5, n_6, n_7, n_8, n_9, n_10, n_11, n_12, n_16, n_19, n_20, n_24, n_25, n_32, n_40, n_48, n_50, n_60, n_64, n_80, n_96, n_114, n_684, n_1000, n_9330, n_16806, n_1000000, n_5764800, ↓n_m, m_ltI, m_leI, m_lt', m_le', m_eq, m_eq', m_add, m_sub, mm_lt, mm_le, mm_eq, q_sub, nI_add, q_mul, nI_clamp, bz_0, bz_1, q_bzb, b_0, b_1, b_ft, b_tf, ne_eq, not_true_eq_false, not_false_eq_true, decide_true, decide_false, Bool.and_self, Bool.false_and, Bool.and_false, Bool.and_true, Bool.true_and, Bool.not_true, Bool.not_false, ↓reduceIte]
    exact ⟨e0, e1, e2, e3, e4, e5⟩
  · exact fr_trans (fr_trans (fr_trans (fr_trans (fr_trans (fr_trans (fr_pI h _ ⟨rfl, rfl⟩) (fr_pI _ _ ⟨rfl, rfl⟩)) (fr_pI _ _ ⟨rfl, rfl⟩)) (fr_pI _ _ ⟨rfl, rfl⟩)) (fr_pI _ _ ⟨rfl, rfl⟩)) (fr_pI _ _ ⟨rfl, rfl⟩)) (fr_pI _ _ ⟨rfl, rfl⟩)
theorem cC_mk3 {h : z_H} {r V : Nat} {L : Lw} {a0 a1 a2 a3 a4 a5 b2 : Int32} (e0 : a0 = nI (digD V (L 0))) (e1 : a1 = nI (digD V (L 3))) (e2 : a2 = nI (digD V (L 4))) (e3 : a3 = nI (if L 5 = 0 then 0 else digD V (L 6))) (e4 : a4 = nI (if L 5 = 0 then 0 else digD V (L 7))) (e5 : a5 = nI (rowN (toW (L 1)))) :
    cC (pI (pI (pI (pI (pI (pI (pI h 6000 r 0 a0) 6000 r 5 a5) 6000 r 1 a1) 6000 r 2 b2) 6000 r 2 a2) 6000 r 3 a3) 6000 r 4 a4) r V L ∧ fr (pC r) h (pI (pI (pI (pI (pI (pI (pI h 6000 r 0 a0) 6000 r 5 a5) 6000 r 1 a1) 6000 r 2 b2) 6000 r 2 a2) 6000 r 3 a3) 6000 r 4 a4) := by
  constructor
  · unfold cC
    simp (disch := first | omega | rfl | assumption) only [q_cl, q_ps, q_pn, bI_t, bI_f, gI_same, gI_ne, gR_pI, gJ_pI, gV_pI, gN_pI, gC_pI, gS_pI, gI_pJ, gR_pJ, gV_pJ, gN_pJ, gJ_same, gJ_ne, gI_pR, gJ_pR, gV_pR, gN_pR, gR_same, gR_ne, zin_t, zin_f, x_ltt, x_ltf, x_let, x_lef, x_eqt, x_eqf, n_0, n_1, n_2, n_3, n_4, n_5, n_6, n_7, n_8, n_9, n_10, n_11, n_12, n_16, n_19, n_20, n_24, n_25, n_32, n_40, n_48, n_50, n_60, n_64, n_80, n_96, n_114, n_684, n_1000, n_9330, n_16806, n_1000000, n_5764800, ↓n_m, m_ltI, m_leI, m_lt', m_le', m_eq, m_eq', m_add, m_sub, mm_lt, mm_le, mm_eq, q_sub, nI_add, q_mul, nI_clamp, bz_0, bz_1, q_bzb, b_0, b_1, b_ft, b_tf, ne_eq, not_true_eq_false, not_false_eq_true, decide_true, decide_false, Bool.and_self, Bool.false_and, Bool.and_false, Bool.and_true, Bool.true_and, Bool.not_true, Bool.not_false, ↓reduceIte]
    exact ⟨e0, e1, e2, e3, e4, e5⟩
  · exact fr_trans (fr_trans (fr_trans (fr_trans (fr_trans (fr_trans (fr_pI h _ ⟨rfl, rfl⟩) (fr_pI _ _ ⟨rfl, rfl⟩)) (fr_pI _ _ ⟨rfl, rfl⟩)) (fr_pI _ _ ⟨rfl, rfl⟩)) (fr_pI _ _ ⟨rfl, rfl⟩)) (fr_pI _ _ ⟨rfl, rfl⟩)) (fr_pI _ _ ⟨rfl, rfl⟩)
theorem n_127 : (127 : Int32) = nI 127 := rfl
theorem c_setSimple (d : Nat) {V f t p : Nat} (hV : V < 64) (hf : 1 ≤ f ∧ f ≤ 6) (ht : t ≤ 6) (hp : p < 19) (r : Nat) (h : z_H) : ∃ h', Rn (d + 2) 8 [z_R 6000 r, z_I (nI f), z_I (nI t), z_I (nI p), z_I (nI V)] h = some (none, h') ∧ cC h' r V (smL f t p) ∧ fr (pC r) h h' := by
  have e0 : (nI 1 <<< (nI f &&& 31)) = nI (digD V (smL f t p 0)) := sm_a f (by omega) hf.1 V hV
  have e5 : nI t = nI (rowN (toW (smL f t p 1))) := by rw [show smL f t p 1 = t from rfl, toW_row ht]
  have e34 : nI 0 = nI (if smL f t p 5 = 0 then 0 else digD V (smL f t p 6)) := rfl
  by_cases h10 : 10 ≤ p
  · have s3 : smL f t p 3 = 0 := by show (if p ≤ 9 then p else 0) = 0; rw [if_neg (by omega)]
    have s4 : smL f t p 4 = p - 9 := by show (if p ≤ 9 then 0 else p - 9) = _; rw [if_neg (by omega)]
    have em : nI (p - 10) = mkI (p - 9) := by rw [mkI_pos (by omega)]; congr 1
    refine ⟨_, ?_, cC_mk3 (a1 := nI 127) (b2 := nI 127) (a2 := nI (digD V (p - 9))) (a3 := nI 0) (a4 := nI 0) e0 (by rw [s3]; rfl) (by rw [s4]) e34 e34 e5⟩
    simp (disch := first | omega | rfl | assumption) only [rX0_setSimple, bX0_setSimple_0, n_127, em, c_digitsOf d hV (show p - 9 < 10 by omega), bX0_setSimple_40, bX0_setSimple_63, q_cl, q_ps, q_pn, bI_t, bI_f, gI_same, gI_ne, gR_pI, gJ_pI, gV_pI, gN_pI, gC_pI, gS_pI, gI_pJ, gR_pJ, gV_pJ, gN_pJ, gJ_same, gJ_ne, gI_pR, gJ_pR, gV_pR, gN_pR, gR_same, gR_ne, zin_t, zin_f, x_ltt, x_ltf, x_let, x_lef, x_eqt, x_eqf, n_0, n_1, n_2, n_3, n_4, n_5, n_6, n_7, n_8, n_9, n_10, n_11, n_12, n_16, n_19, n_20, n_24, n_25, n_32, n_40, n_48, n_50, n_60, n_64, n_80, n_96, n_114, n_684, n_1000, n_9330, n_16806, n_1000000, n_5764800, ↓n_m, m_ltI, m_leI, m_lt', m_le', m_eq, m_eq', m_add, m_sub, mm_lt, mm_le, mm_eq, q_sub, nI_add, q_mul, nI_clamp, bz_0, bz_1, q_bzb, b_0, b_1, b_ft, b_tf, ne_eq, not_true_eq_false, not_false_eq_true, decide_true, decide_false, Bool.and_self, Bool.false_and, Bool.and_false, Bool.and_true, Bool.true_and, Bool.not_true, Bool.not_false, ↓reduceIte]
  · have s4 : smL f t p 4 = 0 := by show (if p ≤ 9 then 0 else p - 9) = _; rw [if_pos (by omega)]
    have s3 : smL f t p 3 = p := by show (if p ≤ 9 then p else 0) = p; rw [if_pos (by omega)]
    by_cases h1 : 1 ≤ p
    · have em : nI (p - 1) = mkI p := by rw [mkI_pos (by omega)]
      refine ⟨_, ?_, cC_mk2 (b1 := nI 127) (a1 := nI (digD V p)) (a2 := nI 127) (a3 := nI 0) (a4 := nI 0) e0 (by rw [s3]) (by rw [s4]; rfl) e34 e34 e5⟩
      simp (disch := first | omega | rfl | assumption) only [rX0_setSimple, bX0_setSimple_0, n_127, bX0_setSimple_46, em, c_digitsOf d hV (show p < 10 by omega), bX0_setSimple_60, bX0_setSimple_63, q_cl, q_ps, q_pn, bI_t, bI_f, gI_same, gI_ne, gR_pI, gJ_pI, gV_pI, gN_pI, gC_pI, gS_pI, gI_pJ, gR_pJ, gV_pJ, gN_pJ, gJ_same, gJ_ne, gI_pR, gJ_pR, gV_pR, gN_pR, gR_same, gR_ne, zin_t, zin_f, x_ltt, x_ltf, x_let, x_lef, x_eqt, x_eqf, n_0, n_1, n_2, n_3, n_4, n_5, n_6, n_7, n_8, n_9, n_10, n_11, n_12, n_16, n_19, n_20, n_24, n_25, n_32, n_40, n_48, n_50, n_60, n_64, n_80, n_96, n_114, n_684, n_1000, n_9330, n_16806, n_1000000, n_5764800, ↓n_m, m_ltI, m_leI, m_lt', m_le', m_eq, m_eq', m_add, m_sub, mm_lt, mm_le, mm_eq, q_sub, nI_add, q_mul, nI_clamp, bz_0, bz_1, q_bzb, b_0, b_1, b_ft, b_tf, ne_eq, not_true_eq_false, not_false_eq_true, decide_true, decide_false, Bool.and_self, Bool.false_and, Bool.and_false, Bool.and_true, Bool.true_and, Bool.not_true, Bool.not_false, ↓reduceIte]
    · have hp0 : p = 0 := by omega
      refine ⟨_, ?_, cC_mk (a1 := nI 127) (a2 := nI 127) (a3 := nI 0) (a4 := nI 0) e0 (by rw [s3, hp0]; rfl) (by rw [s4]; rfl) e34 e34 e5⟩
      simp (disch := first | omega | rfl | assumption) only [rX0_setSimple, bX0_setSimple_0, n_127, bX0_setSimple_46, bX0_setSimple_63, q_cl, q_ps, q_pn, bI_t, bI_f, gI_same, gI_ne, gR_pI, gJ_pI, gV_pI, gN_pI, gC_pI, gS_pI, gI_pJ, gR_pJ, gV_pJ, gN_pJ, gJ_same, gJ_ne, gI_pR, gJ_pR, gV_pR, gN_pR, gR_same, gR_ne, zin_t, zin_f, x_ltt, x_ltf, x_let, x_lef, x_eqt, x_eqf, n_0, n_1, n_2, n_3, n_4, n_5, n_6, n_7, n_8, n_9, n_10, n_11, n_12, n_16, n_19, n_20, n_24, n_25, n_32, n_40, n_48, n_50, n_60, n_64, n_80, n_96, n_114, n_684, n_1000, n_9330, n_16806, n_1000000, n_5764800, ↓n_m, m_ltI, m_leI, m_lt', m_le', m_eq, m_eq', m_add, m_sub, mm_lt, mm_le, mm_eq, q_sub, nI_add, q_mul, nI_clamp, bz_0, bz_1, q_bzb, b_0, b_1, b_ft, b_tf, ne_eq, not_true_eq_false, not_false_eq_true, decide_true, decide_false, Bool.and_self, Bool.false_and, Bool.and_false, Bool.and_true, Bool.true_and, Bool.not_true, Bool.not_false, ↓reduceIte]
/-! fieldsOf -/
def hB (V : Nat) (L : Lw) (w : List Nat) : Nat := nF (fun i => if holdsK V L w i then 1 else 0) 8
theorem nF_bits {f : Nat → Nat} {n : Nat} (hf : ∀ i, i < n → f i < 8) {i b : Nat} (hi : i < n) (hb : b < 3) : (nF f n).testBit (3 * i + b) = (f i).testBit b := by
  rw [nF_bit n hf, show (3 * i + b) / 3 = i by omega, show (3 * i + b) % 3 = b by omega]
  simp
  omega
theorem row_bits {w : List Nat} (hw : isW w) {i b : Nat} (hi : i < 8) (hb : b < 3) : (rowN w).testBit (3 * i + b) = (cD w (i + 1)).testBit b := by
  rw [rowN_nF hw.1]
  exact nF_bits (f := fun i => cD w (i + 1)) (fun i _ => cD_lt hw _) hi hb
theorem row_bits1 {w : List Nat} (hw : isW w) {i b : Nat} (hi : i < 8) (hb : b < 3) : (rowN w * 8).testBit (3 * i + b) = (cD w i).testBit b := by
  rw [Nat.mul_comm, show (8 : Nat) = 2 ^ 3 from rfl, Nat.testBit_two_pow_mul]
  by_cases h0 : i = 0
  · subst h0
    have : ¬ (3 * 0 + b ≥ 3) := by omega
    simp only [this, decide_false, Bool.false_and]
    show false = (0 : Nat).testBit b
    simp
  · have h1 : 3 * i + b ≥ 3 := by omega
    have e : 3 * i + b - 3 = 3 * (i - 1) + b := by omega
    rw [e, row_bits hw (by omega) hb, show i - 1 + 1 = i by omega]
    simp [h1]
theorem row_bits2 {w : List Nat} (hw : isW w) {i b : Nat} (hi : i < 8) (hb : b < 3) : (rowN w / 8).testBit (3 * i + b) = (cD w (i + 2)).testBit b := by
  have e : rowN w / 8 = rowN w >>> 3 := by rw [Nat.shiftRight_eq_div_pow]
  rw [e, Nat.testBit_shiftRight]
  by_cases h7 : i = 7
  · subst h7
    rw [show 3 + (3 * 7 + b) = 24 + b by omega, cD_big (by have := hw.1; omega)]
    have : (rowN w).testBit (24 + b) = false := Nat.testBit_lt_two_pow (Nat.lt_of_lt_of_le (rowN_lt' hw) (by
      have : 2 ^ 24 ≤ 2 ^ (24 + b) := Nat.pow_le_pow_right (by decide) (by omega)
      omega))
    rw [this]
    simp
  · rw [show 3 + (3 * i + b) = 3 * (i + 1) + b by omega, row_bits hw (by omega) hb]
theorem fB_and {D E : Nat} {f g : Nat → Nat} : fB D f &&& fB E g = nF (fun i => if D.testBit (f i) && E.testBit (g i) then 1 else 0) 8 := by
  unfold fB
  rw [nF_and (fun i _ => by show (if _ then 1 else 0) < 8; split <;> omega) (fun i _ => by show (if _ then 1 else 0) < 8; split <;> omega)]
  apply nF_congr
  intro i _
  cases D.testBit (f i) <;> cases E.testBit (g i) <;> rfl
