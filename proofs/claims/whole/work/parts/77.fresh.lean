/-! ===== forms that are made anew ===== -/
theorem l_bv (n : Nat) : (lN n).toBitVec = BitVec.ofNat 64 n := rfl
theorem l_shl24 (a : Nat) : lN a <<< (Int32.toInt64 (nI 24) &&& 63) = lN (a * 2 ^ 24) := by
  apply Int64.toBitVec_inj.mp
  rw [Int64.toBitVec_shiftLeft, l_bv, l_bv]
  apply BitVec.eq_of_toNat_eq
  rw [BitVec.shiftLeft_eq', BitVec.toNat_shiftLeft, show ((Int32.toInt64 (nI 24) &&& 63).toBitVec.smod 64).toNat = 24 by decide, BitVec.toNat_ofNat, BitVec.toNat_ofNat, Nat.shiftLeft_eq, Nat.mod_mul_mod]
theorem l_or24 {a b : Nat} (ha : a < 2 ^ 24) (hb : b < 2 ^ 24) : lN (a * 2 ^ 24) ||| lN b = lN (a * 2 ^ 24 + b) := by
  apply Int64.toBitVec_inj.mp
  rw [Int64.toBitVec_or, l_bv, l_bv, l_bv]
  apply BitVec.eq_of_toNat_eq
  rw [BitVec.toNat_or, BitVec.toNat_ofNat, BitVec.toNat_ofNat, BitVec.toNat_ofNat, Nat.mod_eq_of_lt (by omega), Nat.mod_eq_of_lt (by omega), Nat.mod_eq_of_lt (by omega), Nat.mul_comm a, Nat.two_pow_add_eq_or_of_lt hb]
theorem pk_val {a b : Nat} (ha : a < 16777216) (hb : b < 16777216) : (Int32.toInt64 (nI a) <<< (Int32.toInt64 (nI 24) &&& 63)) ||| Int32.toInt64 (nI b) = Int64.ofNat (a * 2 ^ 24 + b) := by
  rw [nI_l (n := a) (by omega), nI_l (n := b) (by omega), l_shl24, l_or24 ha hb]
  rfl
theorem l_ush24 {n : Nat} (hn : n < 2 ^ 64) : z_lush (lN n) (nI 24) = lN (n / 2 ^ 24) := by
  unfold z_lush
  apply Int64.toBitVec_inj.mp
  show ((lN n).toUInt64 >>> ((nI 24).toInt64.toUInt64 &&& Int64.toUInt64 63)).toBitVec = _
  rw [UInt64.toBitVec_shiftRight]
  apply BitVec.eq_of_toNat_eq
  rw [BitVec.ushiftRight_eq', BitVec.toNat_ushiftRight, show (((nI 24).toInt64.toUInt64 &&& Int64.toUInt64 63).toBitVec % 64).toNat = 24 by decide, l_bv, BitVec.toNat_ofNat]
  show (BitVec.ofNat 64 n).toNat >>> 24 = _
  rw [BitVec.toNat_ofNat, Nat.mod_eq_of_lt hn, Nat.shiftRight_eq_div_pow, Nat.mod_eq_of_lt]
  exact Nat.lt_of_le_of_lt (Nat.div_le_self _ _) hn
theorem pk_low {a b : Nat} (hb : b < 16777216) : Int64.toInt32 (Int64.ofNat (a * 2 ^ 24 + b)) &&& 16777215 = nI b := by
  rw [show Int64.toInt32 (Int64.ofNat (a * 2 ^ 24 + b)) = nI (a * 2 ^ 24 + b) from lN_i _, show (16777215 : Int32) = nI 16777215 from rfl, q_and, show (a * 2 ^ 24 + b) &&& 16777215 = (a * 2 ^ 24 + b) % 2 ^ 24 from Nat.and_two_pow_sub_one_eq_mod _ 24]
  congr 1
  omega
theorem pk_hi0 {a b : Nat} (ha : a < 16777216) (hb : b < 16777216) : z_lush (Int64.ofNat (a * 2 ^ 24 + b)) (nI 24) = lN a := by
  rw [show Int64.ofNat (a * 2 ^ 24 + b) = lN (a * 2 ^ 24 + b) from rfl, l_ush24 (by omega)]
  congr 1
  omega
theorem pk_hi {a b : Nat} (ha : a < 16777216) (hb : b < 16777216) : Int64.toInt32 (z_lush (Int64.ofNat (a * 2 ^ 24 + b)) (nI 24)) = nI a := by
  rw [pk_hi0 ha hb, lN_i]
theorem pk_cmp {a v : Nat} (ha : a < 16777216) (hv : v < 16777216) : (lg_cmp (lN a) (Int32.toInt64 (nI v)) = nI 0) = (a = v) := by
  rw [nI_l (by omega)]
  exact propext ((lg_cmp_eq _ _).trans (pk_lEQ (by omega) (by omega)))
/-- only longs of one row have changed -/
def frJ (j : Nat) (h h' : z_H) : Prop := h'.1 = h.1 ∧ h'.2.2 = h.2.2 ∧ ∀ p i k, ¬ (p = 9330404 ∧ i = j) → gJ h' p i k = gJ h p i k
theorem frJ_rfl (j : Nat) (h : z_H) : frJ j h h := ⟨rfl, rfl, fun _ _ _ _ => rfl⟩
theorem frJ_trans {j : Nat} {a b c : z_H} (h1 : frJ j a b) (h2 : frJ j b c) : frJ j a c := ⟨h2.1.trans h1.1, h2.2.1.trans h1.2.1, fun p i k q => (h2.2.2 p i k q).trans (h1.2.2 p i k q)⟩
theorem frJ_pJ (h : z_H) (j s : Nat) (v : Int64) : frJ j h (pJ h 9330404 j s v) := ⟨rfl, rfl, fun p i k q => by rw [gJ_pJ, if_neg (fun z => q ⟨z.1, z.2.1⟩)]⟩
theorem frX_frJ {j : Nat} {h h' : z_H} (f : frJ j h h') : frX [4] h h' := by
  obtain ⟨f1, f2, f3⟩ := f
  refine ⟨fun p i k _ => ?_, fun p i k _ => ?_, fun p i k q => f3 p i k (fun z => ?_), fun p i _ => ?_, fun s _ => ?_, fun _ _ _ => ⟨?_, ?_⟩⟩
  · unfold gI; rw [f1]
  · unfold gR; rw [f2]
  · obtain ⟨rfl, -⟩ := z
    exact q (by decide : (4 : Nat) ∈ [4])
  · unfold gV; rw [f2]
  · unfold gN; rw [f2]
  · unfold gC; rw [f2]
  · unfold gS; rw [f2]
theorem c_formAt (d : Nat) {h : z_H} {u s : Nat} (h0 : gR h 7080 u 5 ≠ 0) (hs : s < 9330) {G : Gh} (hJ : gJ h 9330404 (gR h 7080 u 5 - 1) s = pkJ G u s) (hf : isW (frm G 0 u (stW s))) (hw : isW (wrt G 0 u (stW s))) : Rn (d + 1) 79 [z_R 7080 u, z_I (nI s)] h = some (some (z_I (nI (rowN (frm G 0 u (stW s))))), h) := by
  have := pk_low (a := rowN (wrt G 0 u (stW s))) (rowN_lt' hf)
  unfold pkJ at hJ
  simp (disch := first | omega | rfl | assumption) only [bX9_formAt_0, rX9_formAt, h0, hJ, this, q_cl, q_ps, q_pn, bI_t, bI_f, gI_same, gI_ne, gR_pI, gJ_pI, gV_pI, gN_pI, gC_pI, gS_pI, gI_pJ, gR_pJ, gV_pJ, gN_pJ, gJ_same, gJ_ne, gI_pR, gJ_pR, gV_pR, gN_pR, gR_same, gR_ne, zin_t, zin_f, x_ltt, x_ltf, x_let, x_lef, x_eqt, x_eqf, n_0, n_1, n_2, n_3, n_4, n_5, n_6, n_7, n_8, n_9, n_10, n_11, n_12, n_16, n_19, n_20, n_24, n_25, n_32, n_40, n_48, n_50, n_60, n_64, n_80, n_96, n_114, n_684, n_1000, n_9330, n_16806, n_1000000, n_5764800, ↓n_m, m_ltI, m_leI, m_lt', m_le', m_eq, m_eq', m_add, m_sub, mm_lt, mm_le, mm_eq, q_sub, nI_add, q_mul, nI_clamp, bz_0, bz_1, q_bzb, b_0, b_1, b_ft, b_tf, ne_eq, not_true_eq_false, not_false_eq_true, decide_true, decide_false, Bool.and_self, Bool.false_and, Bool.and_false, Bool.and_true, Bool.true_and, Bool.not_true, Bool.not_false, ↓reduceIte]
theorem c_writtenAt (d : Nat) {h : z_H} {u s : Nat} (h0 : gR h 7080 u 5 ≠ 0) (hs : s < 9330) {G : Gh} (hJ : gJ h 9330404 (gR h 7080 u 5 - 1) s = pkJ G u s) (hf : isW (frm G 0 u (stW s))) (hw : isW (wrt G 0 u (stW s))) : Rn (d + 1) 80 [z_R 7080 u, z_I (nI s)] h = some (some (z_I (nI (rowN (wrt G 0 u (stW s))))), h) := by
  have := pk_hi (rowN_lt' hw) (rowN_lt' hf)
  unfold pkJ at hJ
  simp (disch := first | omega | rfl | assumption) only [bX9_writtenAt_0, rX9_writtenAt, h0, hJ, this, q_cl, q_ps, q_pn, bI_t, bI_f, gI_same, gI_ne, gR_pI, gJ_pI, gV_pI, gN_pI, gC_pI, gS_pI, gI_pJ, gR_pJ, gV_pJ, gN_pJ, gJ_same, gJ_ne, gI_pR, gJ_pR, gV_pR, gN_pR, gR_same, gR_ne, zin_t, zin_f, x_ltt, x_ltf, x_let, x_lef, x_eqt, x_eqf, n_0, n_1, n_2, n_3, n_4, n_5, n_6, n_7, n_8, n_9, n_10, n_11, n_12, n_16, n_19, n_20, n_24, n_25, n_32, n_40, n_48, n_50, n_60, n_64, n_80, n_96, n_114, n_684, n_1000, n_9330, n_16806, n_1000000, n_5764800, ↓n_m, m_ltI, m_leI, m_lt', m_le', m_eq, m_eq', m_add, m_sub, mm_lt, mm_le, mm_eq, q_sub, nI_add, q_mul, nI_clamp, bz_0, bz_1, q_bzb, b_0, b_1, b_ft, b_tf, ne_eq, not_true_eq_false, not_false_eq_true, decide_true, decide_false, Bool.and_self, Bool.false_and, Bool.and_false, Bool.and_true, Bool.true_and, Bool.not_true, Bool.not_false, ↓reduceIte]
theorem c_ref_owna (d : Nat) {G : Gh} {h : z_H} (m : cT h G) {t : Nat} (ht : t < gnT G) {u : Nat} (x3 : Int32) : ∀ (r k : Nat) (w : List Nat), k + r = (gow G t).length → isW w →
    EX (d + 3) 78 45 [z_R 7080 t, z_R 9330131 0, z_R 7080 u, z_I x3, z_I (nI (rowN w)), z_I (nI k)] [] h = EX (d + 3) 78 77 [z_R 7080 t, z_R 9330131 0, z_R 7080 u, z_I x3, z_I (nI (rowN (ownR (gvV G) (gLF G) 0 ((gow G t).drop k) w))), z_I (nI (gow G t).length)] [] h := by
  obtain ⟨⟨v3, w3, w4, a3, a5, o6⟩, c, v1, w1, w5, a1, t6⟩ := m
  obtain ⟨b1, b2, b3, b4, b5, b6, b7, b8⟩ := t6 t ht
  obtain ⟨o7, o8, o9⟩ := o6 t ht
  intro r
  induction r with
  | zero =>
    intro k w hk hw
    have hk : k = (gow G t).length := by omega
    subst hk
    rw [bX9_refresh_45]
    simp (disch := first | omega | rfl | assumption) only [b6, q_cl, q_ps, q_pn, bI_t, bI_f, gI_same, gI_ne, gR_pI, gJ_pI, gV_pI, gN_pI, gC_pI, gS_pI, gI_pJ, gR_pJ, gV_pJ, gN_pJ, gJ_same, gJ_ne, gI_pR, gJ_pR, gV_pR, gN_pR, gR_same, gR_ne, zin_t, zin_f, x_ltt, x_ltf, x_let, x_lef, x_eqt, x_eqf, n_0, n_1, n_2, n_3, n_4, n_5, n_6, n_7, n_8, n_9, n_10, n_11, n_12, n_16, n_19, n_20, n_24, n_25, n_32, n_40, n_48, n_50, n_60, n_64, n_80, n_96, n_114, n_684, n_1000, n_9330, n_16806, n_1000000, n_5764800, ↓n_m, m_ltI, m_leI, m_lt', m_le', m_eq, m_eq', m_add, m_sub, mm_lt, mm_le, mm_eq, q_sub, nI_add, q_mul, nI_clamp, bz_0, bz_1, q_bzb, b_0, b_1, b_ft, b_tf, ne_eq, not_true_eq_false, not_false_eq_true, decide_true, decide_false, Bool.and_self, Bool.false_and, Bool.and_false, Bool.and_true, Bool.true_and, Bool.not_true, Bool.not_false, ↓reduceIte]
    rw [List.drop_eq_nil_of_le (Nat.le_refl _)]
    rfl
  | succ r ih =>
    intro k w hk hw
    have hkl : k < (gow G t).length := by omega
    have hx : (gow G t)[k]? = some ((gow G t)[k]) := List.getElem?_eq_getElem hkl
    have ho := b7 k _ hx
    have hxl := o8 _ (List.mem_of_getElem? hx)
    rw [List.drop_eq_getElem_cons hkl]
    generalize (gow G t)[k] = x at hx ho hxl
    have e0 : ∀ w, ownR (gvV G) (gLF G) 0 (x :: (gow G t).drop (k + 1)) w = ownR (gvV G) (gLF G) 0 ((gow G t).drop (k + 1)) (runW (gvV G) (gLF G x) w) := fun w => rfl
    rw [e0]
    obtain ⟨q2, q3, q5, q8⟩ := w5 x hxl
    have ih1 := ih (k + 1) _ (by omega) (runW_ok (V := gvV G) (w4 x hxl).1 hw)
    rw [bX9_refresh_45]
    simp (disch := first | omega | rfl | assumption) only [b6, b4, ho, Nat.add_one_ne_zero, Nat.add_sub_cancel, q5, c_over d v3 (w4 x hxl) q8 hw, bX9_refresh_69, q_cl, q_ps, q_pn, bI_t, bI_f, gI_same, gI_ne, gR_pI, gJ_pI, gV_pI, gN_pI, gC_pI, gS_pI, gI_pJ, gR_pJ, gV_pJ, gN_pJ, gJ_same, gJ_ne, gI_pR, gJ_pR, gV_pR, gN_pR, gR_same, gR_ne, zin_t, zin_f, x_ltt, x_ltf, x_let, x_lef, x_eqt, x_eqf, n_0, n_1, n_2, n_3, n_4, n_5, n_6, n_7, n_8, n_9, n_10, n_11, n_12, n_16, n_19, n_20, n_24, n_25, n_32, n_40, n_48, n_50, n_60, n_64, n_80, n_96, n_114, n_684, n_1000, n_9330, n_16806, n_1000000, n_5764800, ↓n_m, m_ltI, m_leI, m_lt', m_le', m_eq, m_eq', m_add, m_sub, mm_lt, mm_le, mm_eq, q_sub, nI_add, q_mul, nI_clamp, bz_0, bz_1, q_bzb, b_0, b_1, b_ft, b_tf, ne_eq, not_true_eq_false, not_false_eq_true, decide_true, decide_false, Bool.and_self, Bool.false_and, Bool.and_false, Bool.and_true, Bool.true_and, Bool.not_true, Bool.not_false, ↓reduceIte]
    exact ih1
theorem c_ref_loopa (d : Nat) {G : Gh} {t j : Nat} (ht : t < gnT G) {u : Nat} (hab : gab G t = u + 1) (hu : u < gnT G) : ∀ (r s : Nat) (u4 u5 : z_V) (h : z_H), s + r = 9330 → cT h G → rdy h → gR h 7080 t 5 = j + 1 → (gR h 7080 u 5 ≠ 0 ∧ gR h 7080 u 5 - 1 ≠ j ∧ ∀ i, i < 9330 → gJ h 9330404 (gR h 7080 u 5 - 1) i = pkJ G u i) → (∀ i, i < s → gJ h 9330404 j i = pkJ G t i) →
    ∃ h1, EX (d + 3) 78 18 [z_R 7080 t, z_R 9330131 0, z_R 7080 u, z_I (nI s), u4, u5] [] h = some (none, pI h1 7080 t 6 (nI 0)) ∧ (∀ i, i < 9330 → gJ h1 9330404 j i = pkJ G t i) ∧ frJ j h h1 := by
  intro r
  induction r with
  | zero =>
    intro s u4 u5 h hs m hr e1 hU e2
    have : s = 9330 := by omega
    subst this
    refine ⟨h, ?_, e2, frJ_rfl _ _⟩
    rw [bX9_refresh_18]
    simp (disch := first | omega | rfl | assumption) only [bX9_refresh_106, q_cl, q_ps, q_pn, bI_t, bI_f, gI_same, gI_ne, gR_pI, gJ_pI, gV_pI, gN_pI, gC_pI, gS_pI, gI_pJ, gR_pJ, gV_pJ, gN_pJ, gJ_same, gJ_ne, gI_pR, gJ_pR, gV_pR, gN_pR, gR_same, gR_ne, zin_t, zin_f, x_ltt, x_ltf, x_let, x_lef, x_eqt, x_eqf, n_0, n_1, n_2, n_3, n_4, n_5, n_6, n_7, n_8, n_9, n_10, n_11, n_12, n_16, n_19, n_20, n_24, n_25, n_32, n_40, n_48, n_50, n_60, n_64, n_80, n_96, n_114, n_684, n_1000, n_9330, n_16806, n_1000000, n_5764800, ↓n_m, m_ltI, m_leI, m_lt', m_le', m_eq, m_eq', m_add, m_sub, mm_lt, mm_le, mm_eq, q_sub, nI_add, q_mul, nI_clamp, bz_0, bz_1, q_bzb, b_0, b_1, b_ft, b_tf, ne_eq, not_true_eq_false, not_false_eq_true, decide_true, decide_false, Bool.and_self, Bool.false_and, Bool.and_false, Bool.and_true, Bool.true_and, Bool.not_true, Bool.not_false, ↓reduceIte]
  | succ r ih =>
    intro s u4 u5 h hs m hr e1 hU e2
    have hsW : isW (stW s) := st_isW (by omega)
    obtain ⟨b1, b2, b3, b4, b5, b6, b7, b8⟩ := m.2.2.2.2.2.2 t ht
    have hsg := (m.1.2.2.2.2.2 t ht).2.2
    have hfr := frm_eq G 0 (fun t => (m.1.2.2.2.2.1 t).1) t (stW s)
    have hfo := frm_ok m.1 0 t (stW s) ht hsW
    have hwo : isW (wrt G 0 t (stW s)) := signW_ok hsg hfo
    have hfr' : frm G 0 t (stW s) = ownR (gvV G) (gLF G) 0 (gow G t) (frm G 0 u (stW s)) := by
      rw [if_neg (by omega), hab] at hfr
      exact hfr
    have hp := pk_val (rowN_lt' hwo) (rowN_lt' hfo)
    have f0 : frJ j h (pJ h 9330404 j s (pkJ G t s)) := frJ_pJ _ _ _ _
    obtain ⟨h1, q1, q2, q3⟩ := ih (s + 1) (z_I (nI (rowN (frm G 0 t (stW s))))) (z_I (nI (gow G t).length)) (pJ h 9330404 j s (pkJ G t s)) (by omega) (cT_fr (frX_frJ f0) (by decide) (by decide) (by decide) (by decide) m) hr e1 ⟨hU.1, hU.2.1, fun i hi => (f0.2.2 _ _ _ (fun z => hU.2.1 z.2)).trans (hU.2.2 i hi)⟩ (fun i hi => by
      by_cases e : i = s
      · subst e; simp (disch := first | omega | rfl | assumption) only [q_cl, q_ps, q_pn, bI_t, bI_f, gI_same, gI_ne, gR_pI, gJ_pI, gV_pI, gN_pI, gC_pI, gS_pI, gI_pJ, gR_pJ, gV_pJ, gN_pJ, gJ_same, gJ_ne, gI_pR, gJ_pR, gV_pR, gN_pR, gR_same, gR_ne, zin_t, zin_f, x_ltt, x_ltf, x_let, x_lef, x_eqt, x_eqf, n_0, n_1, n_2, n_3, n_4, n_5, n_6, n_7, n_8, n_9, n_10, n_11, n_12, n_16, n_19, n_20, n_24, n_25, n_32, n_40, n_48, n_50, n_60, n_64, n_80, n_96, n_114, n_684, n_1000, n_9330, n_16806, n_1000000, n_5764800, ↓n_m, m_ltI, m_leI, m_lt', m_le', m_eq, m_eq', m_add, m_sub, mm_lt, mm_le, mm_eq, q_sub, nI_add, q_mul, nI_clamp, bz_0, bz_1, q_bzb, b_0, b_1, b_ft, b_tf, ne_eq, not_true_eq_false, not_false_eq_true, decide_true, decide_false, Bool.and_self, Bool.false_and, Bool.and_false, Bool.and_true, Bool.true_and, Bool.not_true, Bool.not_false, ↓reduceIte]
      · simp (disch := first | omega | rfl | assumption) only [e2 i (by omega), q_cl, q_ps, q_pn, bI_t, bI_f, gI_same, gI_ne, gR_pI, gJ_pI, gV_pI, gN_pI, gC_pI, gS_pI, gI_pJ, gR_pJ, gV_pJ, gN_pJ, gJ_same, gJ_ne, gI_pR, gJ_pR, gV_pR, gN_pR, gR_same, gR_ne, zin_t, zin_f, x_ltt, x_ltf, x_let, x_lef, x_eqt, x_eqf, n_0, n_1, n_2, n_3, n_4, n_5, n_6, n_7, n_8, n_9, n_10, n_11, n_12, n_16, n_19, n_20, n_24, n_25, n_32, n_40, n_48, n_50, n_60, n_64, n_80, n_96, n_114, n_684, n_1000, n_9330, n_16806, n_1000000, n_5764800, ↓n_m, m_ltI, m_leI, m_lt', m_le', m_eq, m_eq', m_add, m_sub, mm_lt, mm_le, mm_eq, q_sub, nI_add, q_mul, nI_clamp, bz_0, bz_1, q_bzb, b_0, b_1, b_ft, b_tf, ne_eq, not_true_eq_false, not_false_eq_true, decide_true, decide_false, Bool.and_self, Bool.false_and, Bool.and_false, Bool.and_true, Bool.true_and, Bool.not_true, Bool.not_false, ↓reduceIte])
    refine ⟨h1, ?_, q2, frJ_trans f0 q3⟩
    have own := c_ref_owna d m ht (u := u) (nI s) (gow G t).length 0 (frm G 0 u (stW s)) (by omega) (frm_ok m.1 0 u (stW s) hu hsW)
    rw [List.drop_zero, ← hfr'] at own
    rw [bX9_refresh_18]
    simp (disch := first | omega | rfl | assumption) only [bX9_refresh_35, c_formAt (d + 2) hU.1 (show s < 9330 by omega) (hU.2.2 s (by omega)) (frm_ok m.1 0 u (stW s) hu hsW) (wrt_ok m.1 0 hu hsW), bX9_refresh_40, own, bX9_refresh_77, e1, Nat.add_one_ne_zero, Nat.add_sub_cancel, b5, c_signsOf (d + 2) hsg b8 hfo, bX9_refresh_91, q_cl, q_ps, q_pn, bI_t, bI_f, gI_same, gI_ne, gR_pI, gJ_pI, gV_pI, gN_pI, gC_pI, gS_pI, gI_pJ, gR_pJ, gV_pJ, gN_pJ, gJ_same, gJ_ne, gI_pR, gJ_pR, gV_pR, gN_pR, gR_same, gR_ne, zin_t, zin_f, x_ltt, x_ltf, x_let, x_lef, x_eqt, x_eqf, n_0, n_1, n_2, n_3, n_4, n_5, n_6, n_7, n_8, n_9, n_10, n_11, n_12, n_16, n_19, n_20, n_24, n_25, n_32, n_40, n_48, n_50, n_60, n_64, n_80, n_96, n_114, n_684, n_1000, n_9330, n_16806, n_1000000, n_5764800, ↓n_m, m_ltI, m_leI, m_lt', m_le', m_eq, m_eq', m_add, m_sub, mm_lt, mm_le, mm_eq, q_sub, nI_add, q_mul, nI_clamp, bz_0, bz_1, q_bzb, b_0, b_1, b_ft, b_tf, ne_eq, not_true_eq_false, not_false_eq_true, decide_true, decide_false, Bool.and_self, Bool.false_and, Bool.and_false, Bool.and_true, Bool.true_and, Bool.not_true, Bool.not_false, ↓reduceIte]
    rw [show nI (rowN (signW (gsg G t) (frm G 0 t (stW s)))) = nI (rowN (wrt G 0 t (stW s))) from rfl, hp]
    exact q1
theorem c_ref_ownb (d : Nat) {G : Gh} {h : z_H} (m : cT h G) {t : Nat} (ht : t < gnT G) (x3 : Int32) : ∀ (r k : Nat) (w : List Nat), k + r = (gow G t).length → isW w →
    EX (d + 3) 78 45 [z_R 7080 t, z_R 9330131 0, z_N, z_I x3, z_I (nI (rowN w)), z_I (nI k)] [] h = EX (d + 3) 78 77 [z_R 7080 t, z_R 9330131 0, z_N, z_I x3, z_I (nI (rowN (ownR (gvV G) (gLF G) 0 ((gow G t).drop k) w))), z_I (nI (gow G t).length)] [] h := by
  obtain ⟨⟨v3, w3, w4, a3, a5, o6⟩, c, v1, w1, w5, a1, t6⟩ := m
  obtain ⟨b1, b2, b3, b4, b5, b6, b7, b8⟩ := t6 t ht
  obtain ⟨o7, o8, o9⟩ := o6 t ht
  intro r
  induction r with
  | zero =>
    intro k w hk hw
    have hk : k = (gow G t).length := by omega
    subst hk
    rw [bX9_refresh0_45]
    simp (disch := first | omega | rfl | assumption) only [b6, q_cl, q_ps, q_pn, bI_t, bI_f, gI_same, gI_ne, gR_pI, gJ_pI, gV_pI, gN_pI, gC_pI, gS_pI, gI_pJ, gR_pJ, gV_pJ, gN_pJ, gJ_same, gJ_ne, gI_pR, gJ_pR, gV_pR, gN_pR, gR_same, gR_ne, zin_t, zin_f, x_ltt, x_ltf, x_let, x_lef, x_eqt, x_eqf, n_0, n_1, n_2, n_3, n_4, n_5, n_6, n_7, n_8, n_9, n_10, n_11, n_12, n_16, n_19, n_20, n_24, n_25, n_32, n_40, n_48, n_50, n_60, n_64, n_80, n_96, n_114, n_684, n_1000, n_9330, n_16806, n_1000000, n_5764800, ↓n_m, m_ltI, m_leI, m_lt', m_le', m_eq, m_eq', m_add, m_sub, mm_lt, mm_le, mm_eq, q_sub, nI_add, q_mul, nI_clamp, bz_0, bz_1, q_bzb, b_0, b_1, b_ft, b_tf, ne_eq, not_true_eq_false, not_false_eq_true, decide_true, decide_false, Bool.and_self, Bool.false_and, Bool.and_false, Bool.and_true, Bool.true_and, Bool.not_true, Bool.not_false, ↓reduceIte]
    rw [List.drop_eq_nil_of_le (Nat.le_refl _)]
    rfl
  | succ r ih =>
    intro k w hk hw
    have hkl : k < (gow G t).length := by omega
    have hx : (gow G t)[k]? = some ((gow G t)[k]) := List.getElem?_eq_getElem hkl
    have ho := b7 k _ hx
    have hxl := o8 _ (List.mem_of_getElem? hx)
    rw [List.drop_eq_getElem_cons hkl]
    generalize (gow G t)[k] = x at hx ho hxl
    have e0 : ∀ w, ownR (gvV G) (gLF G) 0 (x :: (gow G t).drop (k + 1)) w = ownR (gvV G) (gLF G) 0 ((gow G t).drop (k + 1)) (runW (gvV G) (gLF G x) w) := fun w => rfl
    rw [e0]
    obtain ⟨q2, q3, q5, q8⟩ := w5 x hxl
    have ih1 := ih (k + 1) _ (by omega) (runW_ok (V := gvV G) (w4 x hxl).1 hw)
    rw [bX9_refresh0_45]
    simp (disch := first | omega | rfl | assumption) only [b6, b4, ho, Nat.add_one_ne_zero, Nat.add_sub_cancel, q5, c_over d v3 (w4 x hxl) q8 hw, bX9_refresh0_69, q_cl, q_ps, q_pn, bI_t, bI_f, gI_same, gI_ne, gR_pI, gJ_pI, gV_pI, gN_pI, gC_pI, gS_pI, gI_pJ, gR_pJ, gV_pJ, gN_pJ, gJ_same, gJ_ne, gI_pR, gJ_pR, gV_pR, gN_pR, gR_same, gR_ne, zin_t, zin_f, x_ltt, x_ltf, x_let, x_lef, x_eqt, x_eqf, n_0, n_1, n_2, n_3, n_4, n_5, n_6, n_7, n_8, n_9, n_10, n_11, n_12, n_16, n_19, n_20, n_24, n_25, n_32, n_40, n_48, n_50, n_60, n_64, n_80, n_96, n_114, n_684, n_1000, n_9330, n_16806, n_1000000, n_5764800, ↓n_m, m_ltI, m_leI, m_lt', m_le', m_eq, m_eq', m_add, m_sub, mm_lt, mm_le, mm_eq, q_sub, nI_add, q_mul, nI_clamp, bz_0, bz_1, q_bzb, b_0, b_1, b_ft, b_tf, ne_eq, not_true_eq_false, not_false_eq_true, decide_true, decide_false, Bool.and_self, Bool.false_and, Bool.and_false, Bool.and_true, Bool.true_and, Bool.not_true, Bool.not_false, ↓reduceIte]
    exact ih1
theorem c_ref_loopb (d : Nat) {G : Gh} {t j : Nat} (ht : t < gnT G) (hab : gab G t = 0) : ∀ (r s : Nat) (u4 u5 : z_V) (h : z_H), s + r = 9330 → cT h G → rdy h → gR h 7080 t 5 = j + 1 → (∀ i, i < s → gJ h 9330404 j i = pkJ G t i) →
    ∃ h1, EX (d + 3) 78 18 [z_R 7080 t, z_R 9330131 0, z_N, z_I (nI s), u4, u5] [] h = some (none, pI h1 7080 t 6 (nI 0)) ∧ (∀ i, i < 9330 → gJ h1 9330404 j i = pkJ G t i) ∧ frJ j h h1 := by
  intro r
  induction r with
  | zero =>
    intro s u4 u5 h hs m hr e1  e2
    have : s = 9330 := by omega
    subst this
    refine ⟨h, ?_, e2, frJ_rfl _ _⟩
    rw [bX9_refresh0_18]
    simp (disch := first | omega | rfl | assumption) only [bX9_refresh0_106, q_cl, q_ps, q_pn, bI_t, bI_f, gI_same, gI_ne, gR_pI, gJ_pI, gV_pI, gN_pI, gC_pI, gS_pI, gI_pJ, gR_pJ, gV_pJ, gN_pJ, gJ_same, gJ_ne, gI_pR, gJ_pR, gV_pR, gN_pR, gR_same, gR_ne, zin_t, zin_f, x_ltt, x_ltf, x_let, x_lef, x_eqt, x_eqf, n_0, n_1, n_2, n_3, n_4, n_5, n_6, n_7, n_8, n_9, n_10, n_11, n_12, n_16, n_19, n_20, n_24, n_25, n_32, n_40, n_48, n_50, n_60, n_64, n_80, n_96, n_114, n_684, n_1000, n_9330, n_16806, n_1000000, n_5764800, ↓n_m, m_ltI, m_leI, m_lt', m_le', m_eq, m_eq', m_add, m_sub, mm_lt, mm_le, mm_eq, q_sub, nI_add, q_mul, nI_clamp, bz_0, bz_1, q_bzb, b_0, b_1, b_ft, b_tf, ne_eq, not_true_eq_false, not_false_eq_true, decide_true, decide_false, Bool.and_self, Bool.false_and, Bool.and_false, Bool.and_true, Bool.true_and, Bool.not_true, Bool.not_false, ↓reduceIte]
  | succ r ih =>
    intro s u4 u5 h hs m hr e1  e2
    have hsW : isW (stW s) := st_isW (by omega)
    obtain ⟨b1, b2, b3, b4, b5, b6, b7, b8⟩ := m.2.2.2.2.2.2 t ht
    have hsg := (m.1.2.2.2.2.2 t ht).2.2
    have hfr := frm_eq G 0 (fun t => (m.1.2.2.2.2.1 t).1) t (stW s)
    have hfo := frm_ok m.1 0 t (stW s) ht hsW
    have hwo : isW (wrt G 0 t (stW s)) := signW_ok hsg hfo
    have hfr' : frm G 0 t (stW s) = ownR (gvV G) (gLF G) 0 (gow G t) (stW s) := by
      rw [if_pos hab] at hfr
      exact hfr
    have hp := pk_val (rowN_lt' hwo) (rowN_lt' hfo)
    have f0 : frJ j h (pJ h 9330404 j s (pkJ G t s)) := frJ_pJ _ _ _ _
    obtain ⟨h1, q1, q2, q3⟩ := ih (s + 1) (z_I (nI (rowN (frm G 0 t (stW s))))) (z_I (nI (gow G t).length)) (pJ h 9330404 j s (pkJ G t s)) (by omega) (cT_fr (frX_frJ f0) (by decide) (by decide) (by decide) (by decide) m) hr e1 (fun i hi => by
      by_cases e : i = s
      · subst e; simp (disch := first | omega | rfl | assumption) only [q_cl, q_ps, q_pn, bI_t, bI_f, gI_same, gI_ne, gR_pI, gJ_pI, gV_pI, gN_pI, gC_pI, gS_pI, gI_pJ, gR_pJ, gV_pJ, gN_pJ, gJ_same, gJ_ne, gI_pR, gJ_pR, gV_pR, gN_pR, gR_same, gR_ne, zin_t, zin_f, x_ltt, x_ltf, x_let, x_lef, x_eqt, x_eqf, n_0, n_1, n_2, n_3, n_4, n_5, n_6, n_7, n_8, n_9, n_10, n_11, n_12, n_16, n_19, n_20, n_24, n_25, n_32, n_40, n_48, n_50, n_60, n_64, n_80, n_96, n_114, n_684, n_1000, n_9330, n_16806, n_1000000, n_5764800, ↓n_m, m_ltI, m_leI, m_lt', m_le', m_eq, m_eq', m_add, m_sub, mm_lt, mm_le, mm_eq, q_sub, nI_add, q_mul, nI_clamp, bz_0, bz_1, q_bzb, b_0, b_1, b_ft, b_tf, ne_eq, not_true_eq_false, not_false_eq_true, decide_true, decide_false, Bool.and_self, Bool.false_and, Bool.and_false, Bool.and_true, Bool.true_and, Bool.not_true, Bool.not_false, ↓reduceIte]
      · simp (disch := first | omega | rfl | assumption) only [e2 i (by omega), q_cl, q_ps, q_pn, bI_t, bI_f, gI_same, gI_ne, gR_pI, gJ_pI, gV_pI, gN_pI, gC_pI, gS_pI, gI_pJ, gR_pJ, gV_pJ, gN_pJ, gJ_same, gJ_ne, gI_pR, gJ_pR, gV_pR, gN_pR, gR_same, gR_ne, zin_t, zin_f, x_ltt, x_ltf, x_let, x_lef, x_eqt, x_eqf, n_0, n_1, n_2, n_3, n_4, n_5, n_6, n_7, n_8, n_9, n_10, n_11, n_12, n_16, n_19, n_20, n_24, n_25, n_32, n_40, n_48, n_50, n_60, n_64, n_80, n_96, n_114, n_684, n_1000, n_9330, n_16806, n_1000000, n_5764800, ↓n_m, m_ltI, m_leI, m_lt', m_le', m_eq, m_eq', m_add, m_sub, mm_lt, mm_le, mm_eq, q_sub, nI_add, q_mul, nI_clamp, bz_0, bz_1, q_bzb, b_0, b_1, b_ft, b_tf, ne_eq, not_true_eq_false, not_false_eq_true, decide_true, decide_false, Bool.and_self, Bool.false_and, Bool.and_false, Bool.and_true, Bool.true_and, Bool.not_true, Bool.not_false, ↓reduceIte])
    refine ⟨h1, ?_, q2, frJ_trans f0 q3⟩
    have own := c_ref_ownb d m ht (nI s) (gow G t).length 0 (stW s) (by omega) hsW
    rw [List.drop_zero, ← hfr'] at own
    rw [bX9_refresh0_18]
    simp (disch := first | omega | rfl | assumption) only [hr.2.2 s (by omega), bX9_refresh0_40, own, bX9_refresh0_77, e1, Nat.add_one_ne_zero, Nat.add_sub_cancel, b5, c_signsOf (d + 2) hsg b8 hfo, bX9_refresh0_91, q_cl, q_ps, q_pn, bI_t, bI_f, gI_same, gI_ne, gR_pI, gJ_pI, gV_pI, gN_pI, gC_pI, gS_pI, gI_pJ, gR_pJ, gV_pJ, gN_pJ, gJ_same, gJ_ne, gI_pR, gJ_pR, gV_pR, gN_pR, gR_same, gR_ne, zin_t, zin_f, x_ltt, x_ltf, x_let, x_lef, x_eqt, x_eqf, n_0, n_1, n_2, n_3, n_4, n_5, n_6, n_7, n_8, n_9, n_10, n_11, n_12, n_16, n_19, n_20, n_24, n_25, n_32, n_40, n_48, n_50, n_60, n_64, n_80, n_96, n_114, n_684, n_1000, n_9330, n_16806, n_1000000, n_5764800, ↓n_m, m_ltI, m_leI, m_lt', m_le', m_eq, m_eq', m_add, m_sub, mm_lt, mm_le, mm_eq, q_sub, nI_add, q_mul, nI_clamp, bz_0, bz_1, q_bzb, b_0, b_1, b_ft, b_tf, ne_eq, not_true_eq_false, not_false_eq_true, decide_true, decide_false, Bool.and_self, Bool.false_and, Bool.and_false, Bool.and_true, Bool.true_and, Bool.not_true, Bool.not_false, ↓reduceIte]
    rw [show nI (rowN (signW (gsg G t) (frm G 0 t (stW s)))) = nI (rowN (wrt G 0 t (stW s))) from rfl, hp]
    exact q1
theorem cF_upd {h h' : z_H} {t : Nat} (h0 : gR h 7080 t 5 = 0) (h1 : gR h' 7080 t 5 ≠ 0) (h2 : ∀ u, u ≠ t → gR h' 7080 u 5 = gR h 7080 u 5) : ∀ n, cF h' n = cF h n + (if t < n then 1 else 0) := by
  intro n
  induction n with
  | zero => rfl
  | succ n ih =>
    show cF h' n + (if gR h' 7080 n 5 = 0 then 0 else 1) = cF h n + (if gR h 7080 n 5 = 0 then 0 else 1) + (if t < n + 1 then 1 else 0)
    rw [ih]
    by_cases e : n = t
    · subst e
      rw [if_neg (Nat.lt_irrefl n), if_neg h1, if_pos h0, if_pos (by omega)]
    · rw [h2 n e]
      generalize (if gR h 7080 n 5 = 0 then 0 else 1) = q
      by_cases e2 : t < n
      · rw [if_pos e2, if_pos (by omega)]; omega
      · rw [if_neg e2, if_neg (by omega)]; omega
section
variable {h : z_H} {N : Nat} {xs : Nat → Int32} {G : Gh} {e : Int32}
set_option maxRecDepth 100000 in
theorem ref_new (hG : InvG h N xs G e) (hr : rdy h) {t : Nat} (ht : t < gnT G) (hst : gI h 7080 t 6 = 1) (h0 : gR h 7080 t 5 = 0) : InvG (pR (nw h 9330404 (gN h 42) 9330 42) 7080 t 5 (gN h 42 + 1)) N xs G e ∧ rdy (pR (nw h 9330404 (gN h 42) 9330 42) 7080 t 5 (gN h 42 + 1)) ∧ frX [4, 16] h (pR (nw h 9330404 (gN h 42) 9330 42) 7080 t 5 (gN h 42 + 1)) := by
  have a3 := (I_T hG).2.2.1
  obtain ⟨z1, z2, z3, z4, z5, z6, z7⟩ := I_F hG
  have F : frX [4, 16] h (pR (nw h 9330404 (gN h 42) 9330 42) 7080 t 5 (gN h 42 + 1)) := frX_trans (frX_nw (fun k => (by decide : (4 : Nat) ∈ [4, 16])) (by decide) (by decide) (by decide) h) (frX_pR2 4 rfl (by decide) _ _)
  have r5 : ∀ u, u ≠ t → gR (pR (nw h 9330404 (gN h 42) 9330 42) 7080 t 5 (gN h 42 + 1)) 7080 u 5 = gR h 7080 u 5 := fun u hu => by simp (disch := first | omega | rfl | assumption) only [gI_nw_ne, gI_nw_eq, gR_nw_ne, gR_nw_eq, gJ_nw_ne, gV_nw_ne, gN_nw_ne, gN_nw_eq, gC_nw, gS_nw, gC_pR, gS_pR, Nat.zero_add, q_cl, q_ps, q_pn, bI_t, bI_f, gI_same, gI_ne, gR_pI, gJ_pI, gV_pI, gN_pI, gC_pI, gS_pI, gI_pJ, gR_pJ, gV_pJ, gN_pJ, gJ_same, gJ_ne, gI_pR, gJ_pR, gV_pR, gN_pR, gR_same, gR_ne, zin_t, zin_f, x_ltt, x_ltf, x_let, x_lef, x_eqt, x_eqf, n_0, n_1, n_2, n_3, n_4, n_5, n_6, n_7, n_8, n_9, n_10, n_11, n_12, n_16, n_19, n_20, n_24, n_25, n_32, n_40, n_48, n_50, n_60, n_64, n_80, n_96, n_114, n_684, n_1000, n_9330, n_16806, n_1000000, n_5764800, ↓n_m, m_ltI, m_leI, m_lt', m_le', m_eq, m_eq', m_add, m_sub, mm_lt, mm_le, mm_eq, q_sub, nI_add, q_mul, nI_clamp, bz_0, bz_1, q_bzb, b_0, b_1, b_ft, b_tf, ne_eq, not_true_eq_false, not_false_eq_true, decide_true, decide_false, Bool.and_self, Bool.false_and, Bool.and_false, Bool.and_true, Bool.true_and, Bool.not_true, Bool.not_false, ↓reduceIte]
  have r5t : gR (pR (nw h 9330404 (gN h 42) 9330 42) 7080 t 5 (gN h 42 + 1)) 7080 t 5 = gN h 42 + 1 := by simp (disch := first | omega | rfl | assumption) only [q_cl, q_ps, q_pn, bI_t, bI_f, gI_same, gI_ne, gR_pI, gJ_pI, gV_pI, gN_pI, gC_pI, gS_pI, gI_pJ, gR_pJ, gV_pJ, gN_pJ, gJ_same, gJ_ne, gI_pR, gJ_pR, gV_pR, gN_pR, gR_same, gR_ne, zin_t, zin_f, x_ltt, x_ltf, x_let, x_lef, x_eqt, x_eqf, n_0, n_1, n_2, n_3, n_4, n_5, n_6, n_7, n_8, n_9, n_10, n_11, n_12, n_16, n_19, n_20, n_24, n_25, n_32, n_40, n_48, n_50, n_60, n_64, n_80, n_96, n_114, n_684, n_1000, n_9330, n_16806, n_1000000, n_5764800, ↓n_m, m_ltI, m_leI, m_lt', m_le', m_eq, m_eq', m_add, m_sub, mm_lt, mm_le, mm_eq, q_sub, nI_add, q_mul, nI_clamp, bz_0, bz_1, q_bzb, b_0, b_1, b_ft, b_tf, ne_eq, not_true_eq_false, not_false_eq_true, decide_true, decide_false, Bool.and_self, Bool.false_and, Bool.and_false, Bool.and_true, Bool.true_and, Bool.not_true, Bool.not_false, ↓reduceIte]
  have n42 : gN (pR (nw h 9330404 (gN h 42) 9330 42) 7080 t 5 (gN h 42 + 1)) 42 = gN h 42 + 1 := by simp (disch := first | omega | rfl | assumption) only [gI_nw_ne, gI_nw_eq, gR_nw_ne, gR_nw_eq, gJ_nw_ne, gV_nw_ne, gN_nw_ne, gN_nw_eq, gC_nw, gS_nw, gC_pR, gS_pR, Nat.zero_add, q_cl, q_ps, q_pn, bI_t, bI_f, gI_same, gI_ne, gR_pI, gJ_pI, gV_pI, gN_pI, gC_pI, gS_pI, gI_pJ, gR_pJ, gV_pJ, gN_pJ, gJ_same, gJ_ne, gI_pR, gJ_pR, gV_pR, gN_pR, gR_same, gR_ne, zin_t, zin_f, x_ltt, x_ltf, x_let, x_lef, x_eqt, x_eqf, n_0, n_1, n_2, n_3, n_4, n_5, n_6, n_7, n_8, n_9, n_10, n_11, n_12, n_16, n_19, n_20, n_24, n_25, n_32, n_40, n_48, n_50, n_60, n_64, n_80, n_96, n_114, n_684, n_1000, n_9330, n_16806, n_1000000, n_5764800, ↓n_m, m_ltI, m_leI, m_lt', m_le', m_eq, m_eq', m_add, m_sub, mm_lt, mm_le, mm_eq, q_sub, nI_add, q_mul, nI_clamp, bz_0, bz_1, q_bzb, b_0, b_1, b_ft, b_tf, ne_eq, not_true_eq_false, not_false_eq_true, decide_true, decide_false, Bool.and_self, Bool.false_and, Bool.and_false, Bool.and_true, Bool.true_and, Bool.not_true, Bool.not_false, ↓reduceIte]
  have rr : rdy (pR (nw h 9330404 (gN h 42) 9330 42) 7080 t 5 (gN h 42 + 1)) := ⟨by simp (disch := first | omega | rfl | assumption) only [gI_nw_ne, gI_nw_eq, gR_nw_ne, gR_nw_eq, gJ_nw_ne, gV_nw_ne, gN_nw_ne, gN_nw_eq, gC_nw, gS_nw, gC_pR, gS_pR, Nat.zero_add, hr.1, q_cl, q_ps, q_pn, bI_t, bI_f, gI_same, gI_ne, gR_pI, gJ_pI, gV_pI, gN_pI, gC_pI, gS_pI, gI_pJ, gR_pJ, gV_pJ, gN_pJ, gJ_same, gJ_ne, gI_pR, gJ_pR, gV_pR, gN_pR, gR_same, gR_ne, zin_t, zin_f, x_ltt, x_ltf, x_let, x_lef, x_eqt, x_eqf, n_0, n_1, n_2, n_3, n_4, n_5, n_6, n_7, n_8, n_9, n_10, n_11, n_12, n_16, n_19, n_20, n_24, n_25, n_32, n_40, n_48, n_50, n_60, n_64, n_80, n_96, n_114, n_684, n_1000, n_9330, n_16806, n_1000000, n_5764800, ↓n_m, m_ltI, m_leI, m_lt', m_le', m_eq, m_eq', m_add, m_sub, mm_lt, mm_le, mm_eq, q_sub, nI_add, q_mul, nI_clamp, bz_0, bz_1, q_bzb, b_0, b_1, b_ft, b_tf, ne_eq, not_true_eq_false, not_false_eq_true, decide_true, decide_false, Bool.and_self, Bool.false_and, Bool.and_false, Bool.and_true, Bool.true_and, Bool.not_true, Bool.not_false, ↓reduceIte], by simp (disch := first | omega | rfl | assumption) only [gI_nw_ne, gI_nw_eq, gR_nw_ne, gR_nw_eq, gJ_nw_ne, gV_nw_ne, gN_nw_ne, gN_nw_eq, gC_nw, gS_nw, gC_pR, gS_pR, Nat.zero_add, hr.2.1, q_cl, q_ps, q_pn, bI_t, bI_f, gI_same, gI_ne, gR_pI, gJ_pI, gV_pI, gN_pI, gC_pI, gS_pI, gI_pJ, gR_pJ, gV_pJ, gN_pJ, gJ_same, gJ_ne, gI_pR, gJ_pR, gV_pR, gN_pR, gR_same, gR_ne, zin_t, zin_f, x_ltt, x_ltf, x_let, x_lef, x_eqt, x_eqf, n_0, n_1, n_2, n_3, n_4, n_5, n_6, n_7, n_8, n_9, n_10, n_11, n_12, n_16, n_19, n_20, n_24, n_25, n_32, n_40, n_48, n_50, n_60, n_64, n_80, n_96, n_114, n_684, n_1000, n_9330, n_16806, n_1000000, n_5764800, ↓n_m, m_ltI, m_leI, m_lt', m_le', m_eq, m_eq', m_add, m_sub, mm_lt, mm_le, mm_eq, q_sub, nI_add, q_mul, nI_clamp, bz_0, bz_1, q_bzb, b_0, b_1, b_ft, b_tf, ne_eq, not_true_eq_false, not_false_eq_true, decide_true, decide_false, Bool.and_self, Bool.false_and, Bool.and_false, Bool.and_true, Bool.true_and, Bool.not_true, Bool.not_false, ↓reduceIte], fun s hs => by simp (disch := first | omega | rfl | assumption) only [gI_nw_ne, gI_nw_eq, gR_nw_ne, gR_nw_eq, gJ_nw_ne, gV_nw_ne, gN_nw_ne, gN_nw_eq, gC_nw, gS_nw, gC_pR, gS_pR, Nat.zero_add, hr.2.2 s hs, q_cl, q_ps, q_pn, bI_t, bI_f, gI_same, gI_ne, gR_pI, gJ_pI, gV_pI, gN_pI, gC_pI, gS_pI, gI_pJ, gR_pJ, gV_pJ, gN_pJ, gJ_same, gJ_ne, gI_pR, gJ_pR, gV_pR, gN_pR, gR_same, gR_ne, zin_t, zin_f, x_ltt, x_ltf, x_let, x_lef, x_eqt, x_eqf, n_0, n_1, n_2, n_3, n_4, n_5, n_6, n_7, n_8, n_9, n_10, n_11, n_12, n_16, n_19, n_20, n_24, n_25, n_32, n_40, n_48, n_50, n_60, n_64, n_80, n_96, n_114, n_684, n_1000, n_9330, n_16806, n_1000000, n_5764800, ↓n_m, m_ltI, m_leI, m_lt', m_le', m_eq, m_eq', m_add, m_sub, mm_lt, mm_le, mm_eq, q_sub, nI_add, q_mul, nI_clamp, bz_0, bz_1, q_bzb, b_0, b_1, b_ft, b_tf, ne_eq, not_true_eq_false, not_false_eq_true, decide_true, decide_false, Bool.and_self, Bool.false_and, Bool.and_false, Bool.and_true, Bool.true_and, Bool.not_true, Bool.not_false, ↓reduceIte]⟩
  refine ⟨Inv_form hG (frX_mono (by decide) F) ?_ ⟨?_, ?_, fun i hi => ?_, fun u => ?_, fun u v q1 q2 => ?_, fun u hu => ?_, fun u hu => ?_⟩, rr, F⟩
  · obtain ⟨r1, r2⟩ := I_rm hG
    unfold iRm
    simp (disch := first | omega | rfl | assumption) only [gI_nw_ne, gI_nw_eq, gR_nw_ne, gR_nw_eq, gJ_nw_ne, gV_nw_ne, gN_nw_ne, gN_nw_eq, gC_nw, gS_nw, gC_pR, gS_pR, Nat.zero_add, q_cl, q_ps, q_pn, bI_t, bI_f, gI_same, gI_ne, gR_pI, gJ_pI, gV_pI, gN_pI, gC_pI, gS_pI, gI_pJ, gR_pJ, gV_pJ, gN_pJ, gJ_same, gJ_ne, gI_pR, gJ_pR, gV_pR, gN_pR, gR_same, gR_ne, zin_t, zin_f, x_ltt, x_ltf, x_let, x_lef, x_eqt, x_eqf, n_0, n_1, n_2, n_3, n_4, n_5, n_6, n_7, n_8, n_9, n_10, n_11, n_12, n_16, n_19, n_20, n_24, n_25, n_32, n_40, n_48, n_50, n_60, n_64, n_80, n_96, n_114, n_684, n_1000, n_9330, n_16806, n_1000000, n_5764800, ↓n_m, m_ltI, m_leI, m_lt', m_le', m_eq, m_eq', m_add, m_sub, mm_lt, mm_le, mm_eq, q_sub, nI_add, q_mul, nI_clamp, bz_0, bz_1, q_bzb, b_0, b_1, b_ft, b_tf, ne_eq, not_true_eq_false, not_false_eq_true, decide_true, decide_false, Bool.and_self, Bool.false_and, Bool.and_false, Bool.and_true, Bool.true_and, Bool.not_true, Bool.not_false, ↓reduceIte]
    constructor <;> omega
  · rcases z1 with ⟨y1, y2, y3, y4, y5⟩ | ⟨y1, y2, y3, y4, y5⟩
    · rw [hr.1] at y1; cases y1
    · exact Or.inr ⟨by simp (disch := first | omega | rfl | assumption) only [gI_nw_ne, gI_nw_eq, gR_nw_ne, gR_nw_eq, gJ_nw_ne, gV_nw_ne, gN_nw_ne, gN_nw_eq, gC_nw, gS_nw, gC_pR, gS_pR, Nat.zero_add, y1, q_cl, q_ps, q_pn, bI_t, bI_f, gI_same, gI_ne, gR_pI, gJ_pI, gV_pI, gN_pI, gC_pI, gS_pI, gI_pJ, gR_pJ, gV_pJ, gN_pJ, gJ_same, gJ_ne, gI_pR, gJ_pR, gV_pR, gN_pR, gR_same, gR_ne, zin_t, zin_f, x_ltt, x_ltf, x_let, x_lef, x_eqt, x_eqf, n_0, n_1, n_2, n_3, n_4, n_5, n_6, n_7, n_8, n_9, n_10, n_11, n_12, n_16, n_19, n_20, n_24, n_25, n_32, n_40, n_48, n_50, n_60, n_64, n_80, n_96, n_114, n_684, n_1000, n_9330, n_16806, n_1000000, n_5764800, ↓n_m, m_ltI, m_leI, m_lt', m_le', m_eq, m_eq', m_add, m_sub, mm_lt, mm_le, mm_eq, q_sub, nI_add, q_mul, nI_clamp, bz_0, bz_1, q_bzb, b_0, b_1, b_ft, b_tf, ne_eq, not_true_eq_false, not_false_eq_true, decide_true, decide_false, Bool.and_self, Bool.false_and, Bool.and_false, Bool.and_true, Bool.true_and, Bool.not_true, Bool.not_false, ↓reduceIte], by simp (disch := first | omega | rfl | assumption) only [gI_nw_ne, gI_nw_eq, gR_nw_ne, gR_nw_eq, gJ_nw_ne, gV_nw_ne, gN_nw_ne, gN_nw_eq, gC_nw, gS_nw, gC_pR, gS_pR, Nat.zero_add, y2, q_cl, q_ps, q_pn, bI_t, bI_f, gI_same, gI_ne, gR_pI, gJ_pI, gV_pI, gN_pI, gC_pI, gS_pI, gI_pJ, gR_pJ, gV_pJ, gN_pJ, gJ_same, gJ_ne, gI_pR, gJ_pR, gV_pR, gN_pR, gR_same, gR_ne, zin_t, zin_f, x_ltt, x_ltf, x_let, x_lef, x_eqt, x_eqf, n_0, n_1, n_2, n_3, n_4, n_5, n_6, n_7, n_8, n_9, n_10, n_11, n_12, n_16, n_19, n_20, n_24, n_25, n_32, n_40, n_48, n_50, n_60, n_64, n_80, n_96, n_114, n_684, n_1000, n_9330, n_16806, n_1000000, n_5764800, ↓n_m, m_ltI, m_leI, m_lt', m_le', m_eq, m_eq', m_add, m_sub, mm_lt, mm_le, mm_eq, q_sub, nI_add, q_mul, nI_clamp, bz_0, bz_1, q_bzb, b_0, b_1, b_ft, b_tf, ne_eq, not_true_eq_false, not_false_eq_true, decide_true, decide_false, Bool.and_self, Bool.false_and, Bool.and_false, Bool.and_true, Bool.true_and, Bool.not_true, Bool.not_false, ↓reduceIte], by simp (disch := first | omega | rfl | assumption) only [gI_nw_ne, gI_nw_eq, gR_nw_ne, gR_nw_eq, gJ_nw_ne, gV_nw_ne, gN_nw_ne, gN_nw_eq, gC_nw, gS_nw, gC_pR, gS_pR, Nat.zero_add, y3, q_cl, q_ps, q_pn, bI_t, bI_f, gI_same, gI_ne, gR_pI, gJ_pI, gV_pI, gN_pI, gC_pI, gS_pI, gI_pJ, gR_pJ, gV_pJ, gN_pJ, gJ_same, gJ_ne, gI_pR, gJ_pR, gV_pR, gN_pR, gR_same, gR_ne, zin_t, zin_f, x_ltt, x_ltf, x_let, x_lef, x_eqt, x_eqf, n_0, n_1, n_2, n_3, n_4, n_5, n_6, n_7, n_8, n_9, n_10, n_11, n_12, n_16, n_19, n_20, n_24, n_25, n_32, n_40, n_48, n_50, n_60, n_64, n_80, n_96, n_114, n_684, n_1000, n_9330, n_16806, n_1000000, n_5764800, ↓n_m, m_ltI, m_leI, m_lt', m_le', m_eq, m_eq', m_add, m_sub, mm_lt, mm_le, mm_eq, q_sub, nI_add, q_mul, nI_clamp, bz_0, bz_1, q_bzb, b_0, b_1, b_ft, b_tf, ne_eq, not_true_eq_false, not_false_eq_true, decide_true, decide_false, Bool.and_self, Bool.false_and, Bool.and_false, Bool.and_true, Bool.true_and, Bool.not_true, Bool.not_false, ↓reduceIte], by simp (disch := first | omega | rfl | assumption) only [gI_nw_ne, gI_nw_eq, gR_nw_ne, gR_nw_eq, gJ_nw_ne, gV_nw_ne, gN_nw_ne, gN_nw_eq, gC_nw, gS_nw, gC_pR, gS_pR, Nat.zero_add, y4, q_cl, q_ps, q_pn, bI_t, bI_f, gI_same, gI_ne, gR_pI, gJ_pI, gV_pI, gN_pI, gC_pI, gS_pI, gI_pJ, gR_pJ, gV_pJ, gN_pJ, gJ_same, gJ_ne, gI_pR, gJ_pR, gV_pR, gN_pR, gR_same, gR_ne, zin_t, zin_f, x_ltt, x_ltf, x_let, x_lef, x_eqt, x_eqf, n_0, n_1, n_2, n_3, n_4, n_5, n_6, n_7, n_8, n_9, n_10, n_11, n_12, n_16, n_19, n_20, n_24, n_25, n_32, n_40, n_48, n_50, n_60, n_64, n_80, n_96, n_114, n_684, n_1000, n_9330, n_16806, n_1000000, n_5764800, ↓n_m, m_ltI, m_leI, m_lt', m_le', m_eq, m_eq', m_add, m_sub, mm_lt, mm_le, mm_eq, q_sub, nI_add, q_mul, nI_clamp, bz_0, bz_1, q_bzb, b_0, b_1, b_ft, b_tf, ne_eq, not_true_eq_false, not_false_eq_true, decide_true, decide_false, Bool.and_self, Bool.false_and, Bool.and_false, Bool.and_true, Bool.true_and, Bool.not_true, Bool.not_false, ↓reduceIte], rr.2.2⟩
  · rw [n42, cF_upd (h := h) (t := t) h0 (by rw [r5t]; omega) r5, if_pos (by omega), z2]
  · rw [n42] at hi
    simp (disch := first | omega | rfl | assumption) only [gI_nw_ne, gI_nw_eq, gR_nw_ne, gR_nw_eq, gJ_nw_ne, gV_nw_ne, gN_nw_ne, gN_nw_eq, gC_nw, gS_nw, gC_pR, gS_pR, Nat.zero_add, z3 i (by omega), q_cl, q_ps, q_pn, bI_t, bI_f, gI_same, gI_ne, gR_pI, gJ_pI, gV_pI, gN_pI, gC_pI, gS_pI, gI_pJ, gR_pJ, gV_pJ, gN_pJ, gJ_same, gJ_ne, gI_pR, gJ_pR, gV_pR, gN_pR, gR_same, gR_ne, zin_t, zin_f, x_ltt, x_ltf, x_let, x_lef, x_eqt, x_eqf, n_0, n_1, n_2, n_3, n_4, n_5, n_6, n_7, n_8, n_9, n_10, n_11, n_12, n_16, n_19, n_20, n_24, n_25, n_32, n_40, n_48, n_50, n_60, n_64, n_80, n_96, n_114, n_684, n_1000, n_9330, n_16806, n_1000000, n_5764800, ↓n_m, m_ltI, m_leI, m_lt', m_le', m_eq, m_eq', m_add, m_sub, mm_lt, mm_le, mm_eq, q_sub, nI_add, q_mul, nI_clamp, bz_0, bz_1, q_bzb, b_0, b_1, b_ft, b_tf, ne_eq, not_true_eq_false, not_false_eq_true, decide_true, decide_false, Bool.and_self, Bool.false_and, Bool.and_false, Bool.and_true, Bool.true_and, Bool.not_true, Bool.not_false, ↓reduceIte]
  · rw [n42]
    by_cases q : u = t
    · subst q; rw [r5t]; exact Nat.le_refl _
    · rw [r5 u q]; have := z4 u; omega
  · by_cases q : u = t
    · by_cases q3 : v = t
      · rw [q, q3]
      · subst q
        rw [r5t, r5 v q3] at q2
        have := z4 v
        omega
    · by_cases q3 : v = t
      · subst q3
        rw [r5t, r5 u q] at q2
        have := z4 u
        omega
      · rw [r5 u q] at q1 q2
        rw [r5 v q3] at q2
        exact z5 u v q1 q2
  · rw [r5 u (by omega)]; exact z6 u hu
  · rcases z7 u hu with q | ⟨q1, q2, q3⟩
    · left; simp (disch := first | omega | rfl | assumption) only [gI_nw_ne, gI_nw_eq, gR_nw_ne, gR_nw_eq, gJ_nw_ne, gV_nw_ne, gN_nw_ne, gN_nw_eq, gC_nw, gS_nw, gC_pR, gS_pR, Nat.zero_add, q, q_cl, q_ps, q_pn, bI_t, bI_f, gI_same, gI_ne, gR_pI, gJ_pI, gV_pI, gN_pI, gC_pI, gS_pI, gI_pJ, gR_pJ, gV_pJ, gN_pJ, gJ_same, gJ_ne, gI_pR, gJ_pR, gV_pR, gN_pR, gR_same, gR_ne, zin_t, zin_f, x_ltt, x_ltf, x_let, x_lef, x_eqt, x_eqf, n_0, n_1, n_2, n_3, n_4, n_5, n_6, n_7, n_8, n_9, n_10, n_11, n_12, n_16, n_19, n_20, n_24, n_25, n_32, n_40, n_48, n_50, n_60, n_64, n_80, n_96, n_114, n_684, n_1000, n_9330, n_16806, n_1000000, n_5764800, ↓n_m, m_ltI, m_leI, m_lt', m_le', m_eq, m_eq', m_add, m_sub, mm_lt, mm_le, mm_eq, q_sub, nI_add, q_mul, nI_clamp, bz_0, bz_1, q_bzb, b_0, b_1, b_ft, b_tf, ne_eq, not_true_eq_false, not_false_eq_true, decide_true, decide_false, Bool.and_self, Bool.false_and, Bool.and_false, Bool.and_true, Bool.true_and, Bool.not_true, Bool.not_false, ↓reduceIte]
    · have hut : u ≠ t := fun z => by subst z; exact q2 h0
      refine Or.inr ⟨by simp (disch := first | omega | rfl | assumption) only [gI_nw_ne, gI_nw_eq, gR_nw_ne, gR_nw_eq, gJ_nw_ne, gV_nw_ne, gN_nw_ne, gN_nw_eq, gC_nw, gS_nw, gC_pR, gS_pR, Nat.zero_add, q1, q_cl, q_ps, q_pn, bI_t, bI_f, gI_same, gI_ne, gR_pI, gJ_pI, gV_pI, gN_pI, gC_pI, gS_pI, gI_pJ, gR_pJ, gV_pJ, gN_pJ, gJ_same, gJ_ne, gI_pR, gJ_pR, gV_pR, gN_pR, gR_same, gR_ne, zin_t, zin_f, x_ltt, x_ltf, x_let, x_lef, x_eqt, x_eqf, n_0, n_1, n_2, n_3, n_4, n_5, n_6, n_7, n_8, n_9, n_10, n_11, n_12, n_16, n_19, n_20, n_24, n_25, n_32, n_40, n_48, n_50, n_60, n_64, n_80, n_96, n_114, n_684, n_1000, n_9330, n_16806, n_1000000, n_5764800, ↓n_m, m_ltI, m_leI, m_lt', m_le', m_eq, m_eq', m_add, m_sub, mm_lt, mm_le, mm_eq, q_sub, nI_add, q_mul, nI_clamp, bz_0, bz_1, q_bzb, b_0, b_1, b_ft, b_tf, ne_eq, not_true_eq_false, not_false_eq_true, decide_true, decide_false, Bool.and_self, Bool.false_and, Bool.and_false, Bool.and_true, Bool.true_and, Bool.not_true, Bool.not_false, ↓reduceIte], by rw [r5 u hut]; exact q2, fun s hs => ?_⟩
      rw [r5 u hut, ← q3 s hs]
      have := z4 u
      simp (disch := first | omega | rfl | assumption) only [gJ_nw_ne, q_cl, q_ps, q_pn, bI_t, bI_f, gI_same, gI_ne, gR_pI, gJ_pI, gV_pI, gN_pI, gC_pI, gS_pI, gI_pJ, gR_pJ, gV_pJ, gN_pJ, gJ_same, gJ_ne, gI_pR, gJ_pR, gV_pR, gN_pR, gR_same, gR_ne, zin_t, zin_f, x_ltt, x_ltf, x_let, x_lef, x_eqt, x_eqf, n_0, n_1, n_2, n_3, n_4, n_5, n_6, n_7, n_8, n_9, n_10, n_11, n_12, n_16, n_19, n_20, n_24, n_25, n_32, n_40, n_48, n_50, n_60, n_64, n_80, n_96, n_114, n_684, n_1000, n_9330, n_16806, n_1000000, n_5764800, ↓n_m, m_ltI, m_leI, m_lt', m_le', m_eq, m_eq', m_add, m_sub, mm_lt, mm_le, mm_eq, q_sub, nI_add, q_mul, nI_clamp, bz_0, bz_1, q_bzb, b_0, b_1, b_ft, b_tf, ne_eq, not_true_eq_false, not_false_eq_true, decide_true, decide_false, Bool.and_self, Bool.false_and, Bool.and_false, Bool.and_true, Bool.true_and, Bool.not_true, Bool.not_false, ↓reduceIte]
set_option maxRecDepth 100000 in
theorem ref_old (hG : InvG h N xs G e) (hr : rdy h) {t j : Nat} (ht : t < gnT G) (hj : gR h 7080 t 5 = j + 1) {h1 : z_H} (f : frJ j h h1) (hJ : ∀ i, i < 9330 → gJ h1 9330404 j i = pkJ G t i) : InvG (pI h1 7080 t 6 (nI 0)) N xs G e ∧ rdy (pI h1 7080 t 6 (nI 0)) ∧ frX [4, 16] h (pI h1 7080 t 6 (nI 0)) := by
  obtain ⟨z1, z2, z3, z4, z5, z6, z7⟩ := I_F hG
  have F0 := frX_frJ f
  have F : frX [4, 16] h (pI h1 7080 t 6 (nI 0)) := frX_trans (frX_mono (by decide) F0) (frX_pI2 16 rfl (by decide) _ _)
  have kI : ∀ p i k, gI h1 p i k = gI h p i k := fun p i k => by unfold gI; rw [f.1]
  have kR : ∀ p i k, gR h1 p i k = gR h p i k := fun p i k => by unfold gR; rw [f.2.1]
  have kV : ∀ p i, gV h1 p i = gV h p i := fun p i => by unfold gV; rw [f.2.1]
  have kN : ∀ s, gN h1 s = gN h s := fun s => by unfold gN; rw [f.2.1]
  have kC : gC h1 = gC h := by unfold gC; rw [f.2.1]
  have kS : gS h1 = gS h := by unfold gS; rw [f.2.1]
  have rr : rdy (pI h1 7080 t 6 (nI 0)) := ⟨by simp (disch := first | omega | rfl | assumption) only [kR, hr.1, q_cl, q_ps, q_pn, bI_t, bI_f, gI_same, gI_ne, gR_pI, gJ_pI, gV_pI, gN_pI, gC_pI, gS_pI, gI_pJ, gR_pJ, gV_pJ, gN_pJ, gJ_same, gJ_ne, gI_pR, gJ_pR, gV_pR, gN_pR, gR_same, gR_ne, zin_t, zin_f, x_ltt, x_ltf, x_let, x_lef, x_eqt, x_eqf, n_0, n_1, n_2, n_3, n_4, n_5, n_6, n_7, n_8, n_9, n_10, n_11, n_12, n_16, n_19, n_20, n_24, n_25, n_32, n_40, n_48, n_50, n_60, n_64, n_80, n_96, n_114, n_684, n_1000, n_9330, n_16806, n_1000000, n_5764800, ↓n_m, m_ltI, m_leI, m_lt', m_le', m_eq, m_eq', m_add, m_sub, mm_lt, mm_le, mm_eq, q_sub, nI_add, q_mul, nI_clamp, bz_0, bz_1, q_bzb, b_0, b_1, b_ft, b_tf, ne_eq, not_true_eq_false, not_false_eq_true, decide_true, decide_false, Bool.and_self, Bool.false_and, Bool.and_false, Bool.and_true, Bool.true_and, Bool.not_true, Bool.not_false, ↓reduceIte], by simp (disch := first | omega | rfl | assumption) only [kR, hr.2.1, q_cl, q_ps, q_pn, bI_t, bI_f, gI_same, gI_ne, gR_pI, gJ_pI, gV_pI, gN_pI, gC_pI, gS_pI, gI_pJ, gR_pJ, gV_pJ, gN_pJ, gJ_same, gJ_ne, gI_pR, gJ_pR, gV_pR, gN_pR, gR_same, gR_ne, zin_t, zin_f, x_ltt, x_ltf, x_let, x_lef, x_eqt, x_eqf, n_0, n_1, n_2, n_3, n_4, n_5, n_6, n_7, n_8, n_9, n_10, n_11, n_12, n_16, n_19, n_20, n_24, n_25, n_32, n_40, n_48, n_50, n_60, n_64, n_80, n_96, n_114, n_684, n_1000, n_9330, n_16806, n_1000000, n_5764800, ↓n_m, m_ltI, m_leI, m_lt', m_le', m_eq, m_eq', m_add, m_sub, mm_lt, mm_le, mm_eq, q_sub, nI_add, q_mul, nI_clamp, bz_0, bz_1, q_bzb, b_0, b_1, b_ft, b_tf, ne_eq, not_true_eq_false, not_false_eq_true, decide_true, decide_false, Bool.and_self, Bool.false_and, Bool.and_false, Bool.and_true, Bool.true_and, Bool.not_true, Bool.not_false, ↓reduceIte], fun s hs => by simp (disch := first | omega | rfl | assumption) only [kI, hr.2.2 s hs, q_cl, q_ps, q_pn, bI_t, bI_f, gI_same, gI_ne, gR_pI, gJ_pI, gV_pI, gN_pI, gC_pI, gS_pI, gI_pJ, gR_pJ, gV_pJ, gN_pJ, gJ_same, gJ_ne, gI_pR, gJ_pR, gV_pR, gN_pR, gR_same, gR_ne, zin_t, zin_f, x_ltt, x_ltf, x_let, x_lef, x_eqt, x_eqf, n_0, n_1, n_2, n_3, n_4, n_5, n_6, n_7, n_8, n_9, n_10, n_11, n_12, n_16, n_19, n_20, n_24, n_25, n_32, n_40, n_48, n_50, n_60, n_64, n_80, n_96, n_114, n_684, n_1000, n_9330, n_16806, n_1000000, n_5764800, ↓n_m, m_ltI, m_leI, m_lt', m_le', m_eq, m_eq', m_add, m_sub, mm_lt, mm_le, mm_eq, q_sub, nI_add, q_mul, nI_clamp, bz_0, bz_1, q_bzb, b_0, b_1, b_ft, b_tf, ne_eq, not_true_eq_false, not_false_eq_true, decide_true, decide_false, Bool.and_self, Bool.false_and, Bool.and_false, Bool.and_true, Bool.true_and, Bool.not_true, Bool.not_false, ↓reduceIte]⟩
  refine ⟨Inv_form hG (frX_mono (by decide) F) ?_ ⟨?_, ?_, fun i hi => ?_, fun u => ?_, fun u v q1 q2 => ?_, fun u hu => ?_, fun u hu => ?_⟩, rr, F⟩
  · have r := I_rm hG
    unfold iRm at r ⊢
    simp (disch := first | omega | rfl | assumption) only [kC, kS, kN, q_cl, q_ps, q_pn, bI_t, bI_f, gI_same, gI_ne, gR_pI, gJ_pI, gV_pI, gN_pI, gC_pI, gS_pI, gI_pJ, gR_pJ, gV_pJ, gN_pJ, gJ_same, gJ_ne, gI_pR, gJ_pR, gV_pR, gN_pR, gR_same, gR_ne, zin_t, zin_f, x_ltt, x_ltf, x_let, x_lef, x_eqt, x_eqf, n_0, n_1, n_2, n_3, n_4, n_5, n_6, n_7, n_8, n_9, n_10, n_11, n_12, n_16, n_19, n_20, n_24, n_25, n_32, n_40, n_48, n_50, n_60, n_64, n_80, n_96, n_114, n_684, n_1000, n_9330, n_16806, n_1000000, n_5764800, ↓n_m, m_ltI, m_leI, m_lt', m_le', m_eq, m_eq', m_add, m_sub, mm_lt, mm_le, mm_eq, q_sub, nI_add, q_mul, nI_clamp, bz_0, bz_1, q_bzb, b_0, b_1, b_ft, b_tf, ne_eq, not_true_eq_false, not_false_eq_true, decide_true, decide_false, Bool.and_self, Bool.false_and, Bool.and_false, Bool.and_true, Bool.true_and, Bool.not_true, Bool.not_false, ↓reduceIte]
    exact r
  · rcases z1 with ⟨y1, y2, y3, y4, y5⟩ | ⟨y1, y2, y3, y4, y5⟩
    · rw [hr.1] at y1; cases y1
    · exact Or.inr ⟨by simp (disch := first | omega | rfl | assumption) only [kR, y1, q_cl, q_ps, q_pn, bI_t, bI_f, gI_same, gI_ne, gR_pI, gJ_pI, gV_pI, gN_pI, gC_pI, gS_pI, gI_pJ, gR_pJ, gV_pJ, gN_pJ, gJ_same, gJ_ne, gI_pR, gJ_pR, gV_pR, gN_pR, gR_same, gR_ne, zin_t, zin_f, x_ltt, x_ltf, x_let, x_lef, x_eqt, x_eqf, n_0, n_1, n_2, n_3, n_4, n_5, n_6, n_7, n_8, n_9, n_10, n_11, n_12, n_16, n_19, n_20, n_24, n_25, n_32, n_40, n_48, n_50, n_60, n_64, n_80, n_96, n_114, n_684, n_1000, n_9330, n_16806, n_1000000, n_5764800, ↓n_m, m_ltI, m_leI, m_lt', m_le', m_eq, m_eq', m_add, m_sub, mm_lt, mm_le, mm_eq, q_sub, nI_add, q_mul, nI_clamp, bz_0, bz_1, q_bzb, b_0, b_1, b_ft, b_tf, ne_eq, not_true_eq_false, not_false_eq_true, decide_true, decide_false, Bool.and_self, Bool.false_and, Bool.and_false, Bool.and_true, Bool.true_and, Bool.not_true, Bool.not_false, ↓reduceIte], by simp (disch := first | omega | rfl | assumption) only [kR, y2, q_cl, q_ps, q_pn, bI_t, bI_f, gI_same, gI_ne, gR_pI, gJ_pI, gV_pI, gN_pI, gC_pI, gS_pI, gI_pJ, gR_pJ, gV_pJ, gN_pJ, gJ_same, gJ_ne, gI_pR, gJ_pR, gV_pR, gN_pR, gR_same, gR_ne, zin_t, zin_f, x_ltt, x_ltf, x_let, x_lef, x_eqt, x_eqf, n_0, n_1, n_2, n_3, n_4, n_5, n_6, n_7, n_8, n_9, n_10, n_11, n_12, n_16, n_19, n_20, n_24, n_25, n_32, n_40, n_48, n_50, n_60, n_64, n_80, n_96, n_114, n_684, n_1000, n_9330, n_16806, n_1000000, n_5764800, ↓n_m, m_ltI, m_leI, m_lt', m_le', m_eq, m_eq', m_add, m_sub, mm_lt, mm_le, mm_eq, q_sub, nI_add, q_mul, nI_clamp, bz_0, bz_1, q_bzb, b_0, b_1, b_ft, b_tf, ne_eq, not_true_eq_false, not_false_eq_true, decide_true, decide_false, Bool.and_self, Bool.false_and, Bool.and_false, Bool.and_true, Bool.true_and, Bool.not_true, Bool.not_false, ↓reduceIte], by simp (disch := first | omega | rfl | assumption) only [kN, y3, q_cl, q_ps, q_pn, bI_t, bI_f, gI_same, gI_ne, gR_pI, gJ_pI, gV_pI, gN_pI, gC_pI, gS_pI, gI_pJ, gR_pJ, gV_pJ, gN_pJ, gJ_same, gJ_ne, gI_pR, gJ_pR, gV_pR, gN_pR, gR_same, gR_ne, zin_t, zin_f, x_ltt, x_ltf, x_let, x_lef, x_eqt, x_eqf, n_0, n_1, n_2, n_3, n_4, n_5, n_6, n_7, n_8, n_9, n_10, n_11, n_12, n_16, n_19, n_20, n_24, n_25, n_32, n_40, n_48, n_50, n_60, n_64, n_80, n_96, n_114, n_684, n_1000, n_9330, n_16806, n_1000000, n_5764800, ↓n_m, m_ltI, m_leI, m_lt', m_le', m_eq, m_eq', m_add, m_sub, mm_lt, mm_le, mm_eq, q_sub, nI_add, q_mul, nI_clamp, bz_0, bz_1, q_bzb, b_0, b_1, b_ft, b_tf, ne_eq, not_true_eq_false, not_false_eq_true, decide_true, decide_false, Bool.and_self, Bool.false_and, Bool.and_false, Bool.and_true, Bool.true_and, Bool.not_true, Bool.not_false, ↓reduceIte], by simp (disch := first | omega | rfl | assumption) only [kN, y4, q_cl, q_ps, q_pn, bI_t, bI_f, gI_same, gI_ne, gR_pI, gJ_pI, gV_pI, gN_pI, gC_pI, gS_pI, gI_pJ, gR_pJ, gV_pJ, gN_pJ, gJ_same, gJ_ne, gI_pR, gJ_pR, gV_pR, gN_pR, gR_same, gR_ne, zin_t, zin_f, x_ltt, x_ltf, x_let, x_lef, x_eqt, x_eqf, n_0, n_1, n_2, n_3, n_4, n_5, n_6, n_7, n_8, n_9, n_10, n_11, n_12, n_16, n_19, n_20, n_24, n_25, n_32, n_40, n_48, n_50, n_60, n_64, n_80, n_96, n_114, n_684, n_1000, n_9330, n_16806, n_1000000, n_5764800, ↓n_m, m_ltI, m_leI, m_lt', m_le', m_eq, m_eq', m_add, m_sub, mm_lt, mm_le, mm_eq, q_sub, nI_add, q_mul, nI_clamp, bz_0, bz_1, q_bzb, b_0, b_1, b_ft, b_tf, ne_eq, not_true_eq_false, not_false_eq_true, decide_true, decide_false, Bool.and_self, Bool.false_and, Bool.and_false, Bool.and_true, Bool.true_and, Bool.not_true, Bool.not_false, ↓reduceIte], rr.2.2⟩
  · have : cF (pI h1 7080 t 6 (nI 0)) 8 = cF h 8 := cF_congr (fun u => by simp (disch := first | omega | rfl | assumption) only [kR, q_cl, q_ps, q_pn, bI_t, bI_f, gI_same, gI_ne, gR_pI, gJ_pI, gV_pI, gN_pI, gC_pI, gS_pI, gI_pJ, gR_pJ, gV_pJ, gN_pJ, gJ_same, gJ_ne, gI_pR, gJ_pR, gV_pR, gN_pR, gR_same, gR_ne, zin_t, zin_f, x_ltt, x_ltf, x_let, x_lef, x_eqt, x_eqf, n_0, n_1, n_2, n_3, n_4, n_5, n_6, n_7, n_8, n_9, n_10, n_11, n_12, n_16, n_19, n_20, n_24, n_25, n_32, n_40, n_48, n_50, n_60, n_64, n_80, n_96, n_114, n_684, n_1000, n_9330, n_16806, n_1000000, n_5764800, ↓n_m, m_ltI, m_leI, m_lt', m_le', m_eq, m_eq', m_add, m_sub, mm_lt, mm_le, mm_eq, q_sub, nI_add, q_mul, nI_clamp, bz_0, bz_1, q_bzb, b_0, b_1, b_ft, b_tf, ne_eq, not_true_eq_false, not_false_eq_true, decide_true, decide_false, Bool.and_self, Bool.false_and, Bool.and_false, Bool.and_true, Bool.true_and, Bool.not_true, Bool.not_false, ↓reduceIte]) 8
    rw [this]
    simp (disch := first | omega | rfl | assumption) only [kN, z2, q_cl, q_ps, q_pn, bI_t, bI_f, gI_same, gI_ne, gR_pI, gJ_pI, gV_pI, gN_pI, gC_pI, gS_pI, gI_pJ, gR_pJ, gV_pJ, gN_pJ, gJ_same, gJ_ne, gI_pR, gJ_pR, gV_pR, gN_pR, gR_same, gR_ne, zin_t, zin_f, x_ltt, x_ltf, x_let, x_lef, x_eqt, x_eqf, n_0, n_1, n_2, n_3, n_4, n_5, n_6, n_7, n_8, n_9, n_10, n_11, n_12, n_16, n_19, n_20, n_24, n_25, n_32, n_40, n_48, n_50, n_60, n_64, n_80, n_96, n_114, n_684, n_1000, n_9330, n_16806, n_1000000, n_5764800, ↓n_m, m_ltI, m_leI, m_lt', m_le', m_eq, m_eq', m_add, m_sub, mm_lt, mm_le, mm_eq, q_sub, nI_add, q_mul, nI_clamp, bz_0, bz_1, q_bzb, b_0, b_1, b_ft, b_tf, ne_eq, not_true_eq_false, not_false_eq_true, decide_true, decide_false, Bool.and_self, Bool.false_and, Bool.and_false, Bool.and_true, Bool.true_and, Bool.not_true, Bool.not_false, ↓reduceIte]
  · simp (disch := first | omega | rfl | assumption) only [kN, q_cl, q_ps, q_pn, bI_t, bI_f, gI_same, gI_ne, gR_pI, gJ_pI, gV_pI, gN_pI, gC_pI, gS_pI, gI_pJ, gR_pJ, gV_pJ, gN_pJ, gJ_same, gJ_ne, gI_pR, gJ_pR, gV_pR, gN_pR, gR_same, gR_ne, zin_t, zin_f, x_ltt, x_ltf, x_let, x_lef, x_eqt, x_eqf, n_0, n_1, n_2, n_3, n_4, n_5, n_6, n_7, n_8, n_9, n_10, n_11, n_12, n_16, n_19, n_20, n_24, n_25, n_32, n_40, n_48, n_50, n_60, n_64, n_80, n_96, n_114, n_684, n_1000, n_9330, n_16806, n_1000000, n_5764800, ↓n_m, m_ltI, m_leI, m_lt', m_le', m_eq, m_eq', m_add, m_sub, mm_lt, mm_le, mm_eq, q_sub, nI_add, q_mul, nI_clamp, bz_0, bz_1, q_bzb, b_0, b_1, b_ft, b_tf, ne_eq, not_true_eq_false, not_false_eq_true, decide_true, decide_false, Bool.and_self, Bool.false_and, Bool.and_false, Bool.and_true, Bool.true_and, Bool.not_true, Bool.not_false, ↓reduceIte] at hi
    simp (disch := first | omega | rfl | assumption) only [kV, z3 i hi, q_cl, q_ps, q_pn, bI_t, bI_f, gI_same, gI_ne, gR_pI, gJ_pI, gV_pI, gN_pI, gC_pI, gS_pI, gI_pJ, gR_pJ, gV_pJ, gN_pJ, gJ_same, gJ_ne, gI_pR, gJ_pR, gV_pR, gN_pR, gR_same, gR_ne, zin_t, zin_f, x_ltt, x_ltf, x_let, x_lef, x_eqt, x_eqf, n_0, n_1, n_2, n_3, n_4, n_5, n_6, n_7, n_8, n_9, n_10, n_11, n_12, n_16, n_19, n_20, n_24, n_25, n_32, n_40, n_48, n_50, n_60, n_64, n_80, n_96, n_114, n_684, n_1000, n_9330, n_16806, n_1000000, n_5764800, ↓n_m, m_ltI, m_leI, m_lt', m_le', m_eq, m_eq', m_add, m_sub, mm_lt, mm_le, mm_eq, q_sub, nI_add, q_mul, nI_clamp, bz_0, bz_1, q_bzb, b_0, b_1, b_ft, b_tf, ne_eq, not_true_eq_false, not_false_eq_true, decide_true, decide_false, Bool.and_self, Bool.false_and, Bool.and_false, Bool.and_true, Bool.true_and, Bool.not_true, Bool.not_false, ↓reduceIte]
  · simp (disch := first | omega | rfl | assumption) only [kR, kN, q_cl, q_ps, q_pn, bI_t, bI_f, gI_same, gI_ne, gR_pI, gJ_pI, gV_pI, gN_pI, gC_pI, gS_pI, gI_pJ, gR_pJ, gV_pJ, gN_pJ, gJ_same, gJ_ne, gI_pR, gJ_pR, gV_pR, gN_pR, gR_same, gR_ne, zin_t, zin_f, x_ltt, x_ltf, x_let, x_lef, x_eqt, x_eqf, n_0, n_1, n_2, n_3, n_4, n_5, n_6, n_7, n_8, n_9, n_10, n_11, n_12, n_16, n_19, n_20, n_24, n_25, n_32, n_40, n_48, n_50, n_60, n_64, n_80, n_96, n_114, n_684, n_1000, n_9330, n_16806, n_1000000, n_5764800, ↓n_m, m_ltI, m_leI, m_lt', m_le', m_eq, m_eq', m_add, m_sub, mm_lt, mm_le, mm_eq, q_sub, nI_add, q_mul, nI_clamp, bz_0, bz_1, q_bzb, b_0, b_1, b_ft, b_tf, ne_eq, not_true_eq_false, not_false_eq_true, decide_true, decide_false, Bool.and_self, Bool.false_and, Bool.and_false, Bool.and_true, Bool.true_and, Bool.not_true, Bool.not_false, ↓reduceIte]
    exact z4 u
  · simp (disch := first | omega | rfl | assumption) only [kR, q_cl, q_ps, q_pn, bI_t, bI_f, gI_same, gI_ne, gR_pI, gJ_pI, gV_pI, gN_pI, gC_pI, gS_pI, gI_pJ, gR_pJ, gV_pJ, gN_pJ, gJ_same, gJ_ne, gI_pR, gJ_pR, gV_pR, gN_pR, gR_same, gR_ne, zin_t, zin_f, x_ltt, x_ltf, x_let, x_lef, x_eqt, x_eqf, n_0, n_1, n_2, n_3, n_4, n_5, n_6, n_7, n_8, n_9, n_10, n_11, n_12, n_16, n_19, n_20, n_24, n_25, n_32, n_40, n_48, n_50, n_60, n_64, n_80, n_96, n_114, n_684, n_1000, n_9330, n_16806, n_1000000, n_5764800, ↓n_m, m_ltI, m_leI, m_lt', m_le', m_eq, m_eq', m_add, m_sub, mm_lt, mm_le, mm_eq, q_sub, nI_add, q_mul, nI_clamp, bz_0, bz_1, q_bzb, b_0, b_1, b_ft, b_tf, ne_eq, not_true_eq_false, not_false_eq_true, decide_true, decide_false, Bool.and_self, Bool.false_and, Bool.and_false, Bool.and_true, Bool.true_and, Bool.not_true, Bool.not_false, ↓reduceIte] at q1 q2
    exact z5 u v q1 q2
  · simp (disch := first | omega | rfl | assumption) only [kR, q_cl, q_ps, q_pn, bI_t, bI_f, gI_same, gI_ne, gR_pI, gJ_pI, gV_pI, gN_pI, gC_pI, gS_pI, gI_pJ, gR_pJ, gV_pJ, gN_pJ, gJ_same, gJ_ne, gI_pR, gJ_pR, gV_pR, gN_pR, gR_same, gR_ne, zin_t, zin_f, x_ltt, x_ltf, x_let, x_lef, x_eqt, x_eqf, n_0, n_1, n_2, n_3, n_4, n_5, n_6, n_7, n_8, n_9, n_10, n_11, n_12, n_16, n_19, n_20, n_24, n_25, n_32, n_40, n_48, n_50, n_60, n_64, n_80, n_96, n_114, n_684, n_1000, n_9330, n_16806, n_1000000, n_5764800, ↓n_m, m_ltI, m_leI, m_lt', m_le', m_eq, m_eq', m_add, m_sub, mm_lt, mm_le, mm_eq, q_sub, nI_add, q_mul, nI_clamp, bz_0, bz_1, q_bzb, b_0, b_1, b_ft, b_tf, ne_eq, not_true_eq_false, not_false_eq_true, decide_true, decide_false, Bool.and_self, Bool.false_and, Bool.and_false, Bool.and_true, Bool.true_and, Bool.not_true, Bool.not_false, ↓reduceIte]
    exact z6 u hu
  · by_cases q : u = t
    · subst q
      refine Or.inr ⟨by simp (disch := first | omega | rfl | assumption) only [q_cl, q_ps, q_pn, bI_t, bI_f, gI_same, gI_ne, gR_pI, gJ_pI, gV_pI, gN_pI, gC_pI, gS_pI, gI_pJ, gR_pJ, gV_pJ, gN_pJ, gJ_same, gJ_ne, gI_pR, gJ_pR, gV_pR, gN_pR, gR_same, gR_ne, zin_t, zin_f, x_ltt, x_ltf, x_let, x_lef, x_eqt, x_eqf, n_0, n_1, n_2, n_3, n_4, n_5, n_6, n_7, n_8, n_9, n_10, n_11, n_12, n_16, n_19, n_20, n_24, n_25, n_32, n_40, n_48, n_50, n_60, n_64, n_80, n_96, n_114, n_684, n_1000, n_9330, n_16806, n_1000000, n_5764800, ↓n_m, m_ltI, m_leI, m_lt', m_le', m_eq, m_eq', m_add, m_sub, mm_lt, mm_le, mm_eq, q_sub, nI_add, q_mul, nI_clamp, bz_0, bz_1, q_bzb, b_0, b_1, b_ft, b_tf, ne_eq, not_true_eq_false, not_false_eq_true, decide_true, decide_false, Bool.and_self, Bool.false_and, Bool.and_false, Bool.and_true, Bool.true_and, Bool.not_true, Bool.not_false, ↓reduceIte], by simp (disch := first | omega | rfl | assumption) only [kR, hj, q_cl, q_ps, q_pn, bI_t, bI_f, gI_same, gI_ne, gR_pI, gJ_pI, gV_pI, gN_pI, gC_pI, gS_pI, gI_pJ, gR_pJ, gV_pJ, gN_pJ, gJ_same, gJ_ne, gI_pR, gJ_pR, gV_pR, gN_pR, gR_same, gR_ne, zin_t, zin_f, x_ltt, x_ltf, x_let, x_lef, x_eqt, x_eqf, n_0, n_1, n_2, n_3, n_4, n_5, n_6, n_7, n_8, n_9, n_10, n_11, n_12, n_16, n_19, n_20, n_24, n_25, n_32, n_40, n_48, n_50, n_60, n_64, n_80, n_96, n_114, n_684, n_1000, n_9330, n_16806, n_1000000, n_5764800, ↓n_m, m_ltI, m_leI, m_lt', m_le', m_eq, m_eq', m_add, m_sub, mm_lt, mm_le, mm_eq, q_sub, nI_add, q_mul, nI_clamp, bz_0, bz_1, q_bzb, b_0, b_1, b_ft, b_tf, ne_eq, not_true_eq_false, not_false_eq_true, decide_true, decide_false, Bool.and_self, Bool.false_and, Bool.and_false, Bool.and_true, Bool.true_and, Bool.not_true, Bool.not_false, ↓reduceIte]; omega, fun s hs => ?_⟩
      simp (disch := first | omega | rfl | assumption) only [kR, hj, Nat.add_sub_cancel, q_cl, q_ps, q_pn, bI_t, bI_f, gI_same, gI_ne, gR_pI, gJ_pI, gV_pI, gN_pI, gC_pI, gS_pI, gI_pJ, gR_pJ, gV_pJ, gN_pJ, gJ_same, gJ_ne, gI_pR, gJ_pR, gV_pR, gN_pR, gR_same, gR_ne, zin_t, zin_f, x_ltt, x_ltf, x_let, x_lef, x_eqt, x_eqf, n_0, n_1, n_2, n_3, n_4, n_5, n_6, n_7, n_8, n_9, n_10, n_11, n_12, n_16, n_19, n_20, n_24, n_25, n_32, n_40, n_48, n_50, n_60, n_64, n_80, n_96, n_114, n_684, n_1000, n_9330, n_16806, n_1000000, n_5764800, ↓n_m, m_ltI, m_leI, m_lt', m_le', m_eq, m_eq', m_add, m_sub, mm_lt, mm_le, mm_eq, q_sub, nI_add, q_mul, nI_clamp, bz_0, bz_1, q_bzb, b_0, b_1, b_ft, b_tf, ne_eq, not_true_eq_false, not_false_eq_true, decide_true, decide_false, Bool.and_self, Bool.false_and, Bool.and_false, Bool.and_true, Bool.true_and, Bool.not_true, Bool.not_false, ↓reduceIte]
      exact hJ s hs
    · rcases z7 u hu with y | ⟨q1, q2, q3⟩
      · left; simp (disch := first | omega | rfl | assumption) only [kI, y, q_cl, q_ps, q_pn, bI_t, bI_f, gI_same, gI_ne, gR_pI, gJ_pI, gV_pI, gN_pI, gC_pI, gS_pI, gI_pJ, gR_pJ, gV_pJ, gN_pJ, gJ_same, gJ_ne, gI_pR, gJ_pR, gV_pR, gN_pR, gR_same, gR_ne, zin_t, zin_f, x_ltt, x_ltf, x_let, x_lef, x_eqt, x_eqf, n_0, n_1, n_2, n_3, n_4, n_5, n_6, n_7, n_8, n_9, n_10, n_11, n_12, n_16, n_19, n_20, n_24, n_25, n_32, n_40, n_48, n_50, n_60, n_64, n_80, n_96, n_114, n_684, n_1000, n_9330, n_16806, n_1000000, n_5764800, ↓n_m, m_ltI, m_leI, m_lt', m_le', m_eq, m_eq', m_add, m_sub, mm_lt, mm_le, mm_eq, q_sub, nI_add, q_mul, nI_clamp, bz_0, bz_1, q_bzb, b_0, b_1, b_ft, b_tf, ne_eq, not_true_eq_false, not_false_eq_true, decide_true, decide_false, Bool.and_self, Bool.false_and, Bool.and_false, Bool.and_true, Bool.true_and, Bool.not_true, Bool.not_false, ↓reduceIte]
      · refine Or.inr ⟨by simp (disch := first | omega | rfl | assumption) only [kI, q1, q_cl, q_ps, q_pn, bI_t, bI_f, gI_same, gI_ne, gR_pI, gJ_pI, gV_pI, gN_pI, gC_pI, gS_pI, gI_pJ, gR_pJ, gV_pJ, gN_pJ, gJ_same, gJ_ne, gI_pR, gJ_pR, gV_pR, gN_pR, gR_same, gR_ne, zin_t, zin_f, x_ltt, x_ltf, x_let, x_lef, x_eqt, x_eqf, n_0, n_1, n_2, n_3, n_4, n_5, n_6, n_7, n_8, n_9, n_10, n_11, n_12, n_16, n_19, n_20, n_24, n_25, n_32, n_40, n_48, n_50, n_60, n_64, n_80, n_96, n_114, n_684, n_1000, n_9330, n_16806, n_1000000, n_5764800, ↓n_m, m_ltI, m_leI, m_lt', m_le', m_eq, m_eq', m_add, m_sub, mm_lt, mm_le, mm_eq, q_sub, nI_add, q_mul, nI_clamp, bz_0, bz_1, q_bzb, b_0, b_1, b_ft, b_tf, ne_eq, not_true_eq_false, not_false_eq_true, decide_true, decide_false, Bool.and_self, Bool.false_and, Bool.and_false, Bool.and_true, Bool.true_and, Bool.not_true, Bool.not_false, ↓reduceIte], by simp (disch := first | omega | rfl | assumption) only [kR, q_cl, q_ps, q_pn, bI_t, bI_f, gI_same, gI_ne, gR_pI, gJ_pI, gV_pI, gN_pI, gC_pI, gS_pI, gI_pJ, gR_pJ, gV_pJ, gN_pJ, gJ_same, gJ_ne, gI_pR, gJ_pR, gV_pR, gN_pR, gR_same, gR_ne, zin_t, zin_f, x_ltt, x_ltf, x_let, x_lef, x_eqt, x_eqf, n_0, n_1, n_2, n_3, n_4, n_5, n_6, n_7, n_8, n_9, n_10, n_11, n_12, n_16, n_19, n_20, n_24, n_25, n_32, n_40, n_48, n_50, n_60, n_64, n_80, n_96, n_114, n_684, n_1000, n_9330, n_16806, n_1000000, n_5764800, ↓n_m, m_ltI, m_leI, m_lt', m_le', m_eq, m_eq', m_add, m_sub, mm_lt, mm_le, mm_eq, q_sub, nI_add, q_mul, nI_clamp, bz_0, bz_1, q_bzb, b_0, b_1, b_ft, b_tf, ne_eq, not_true_eq_false, not_false_eq_true, decide_true, decide_false, Bool.and_self, Bool.false_and, Bool.and_false, Bool.and_true, Bool.true_and, Bool.not_true, Bool.not_false, ↓reduceIte]; exact q2, fun s hs => ?_⟩
        have hne : gR h 7080 u 5 - 1 ≠ j := fun z => q (z5 u t q2 (by omega))
        simp (disch := first | omega | rfl | assumption) only [kR, q_cl, q_ps, q_pn, bI_t, bI_f, gI_same, gI_ne, gR_pI, gJ_pI, gV_pI, gN_pI, gC_pI, gS_pI, gI_pJ, gR_pJ, gV_pJ, gN_pJ, gJ_same, gJ_ne, gI_pR, gJ_pR, gV_pR, gN_pR, gR_same, gR_ne, zin_t, zin_f, x_ltt, x_ltf, x_let, x_lef, x_eqt, x_eqf, n_0, n_1, n_2, n_3, n_4, n_5, n_6, n_7, n_8, n_9, n_10, n_11, n_12, n_16, n_19, n_20, n_24, n_25, n_32, n_40, n_48, n_50, n_60, n_64, n_80, n_96, n_114, n_684, n_1000, n_9330, n_16806, n_1000000, n_5764800, ↓n_m, m_ltI, m_leI, m_lt', m_le', m_eq, m_eq', m_add, m_sub, mm_lt, mm_le, mm_eq, q_sub, nI_add, q_mul, nI_clamp, bz_0, bz_1, q_bzb, b_0, b_1, b_ft, b_tf, ne_eq, not_true_eq_false, not_false_eq_true, decide_true, decide_false, Bool.and_self, Bool.false_and, Bool.and_false, Bool.and_true, Bool.true_and, Bool.not_true, Bool.not_false, ↓reduceIte]
        rw [f.2.2 _ _ _ (fun z => hne z.2)]
        exact q3 s hs
theorem c_refresh (d : Nat) (hG : InvG h N xs G e) (hr : rdy h) {t : Nat} (ht : t < gnT G) (hst : gI h 7080 t 6 = 1) (hup : gab G t = 0 ∨ ∃ u, gab G t = u + 1 ∧ gI h 7080 u 6 = 0) :
    ∃ h', (gab G t = 0 → Rn (d + 4) 78 [z_R 7080 t, z_R 9330131 0, z_N] h = some (none, h')) ∧ (∀ u, gab G t = u + 1 → Rn (d + 4) 78 [z_R 7080 t, z_R 9330131 0, z_R 7080 u] h = some (none, h')) ∧ InvG h' N xs G e ∧ rdy h' ∧ gI h' 7080 t 6 = 0 ∧ (∀ p i k, ¬ (p = 7080 ∧ i = t ∧ k = 6) → p ≠ 9330404 → gI h' p i k = gI h p i k) ∧ frX [4, 16] h h' := by
  have key : ∃ hA j, (∀ UP, (UP = z_N ∨ ∃ u, UP = z_R 7080 u) → Rn (d + 4) 78 [z_R 7080 t, z_R 9330131 0, UP] h = EX (d + 3) 78 16 [z_R 7080 t, z_R 9330131 0, UP, z_U, z_U, z_U] [] hA) ∧ InvG hA N xs G e ∧ rdy hA ∧ frX [4, 16] h hA ∧ gR hA 7080 t 5 = j + 1 ∧ (∀ p i k, p ≠ 9330404 → gI hA p i k = gI h p i k) := by
    by_cases h0 : gR h 7080 t 5 = 0
    · obtain ⟨i1, i2, i3⟩ := ref_new hG hr ht hst h0
      have hv := (I_F hG).2.2.1 (gN h 42) (Nat.le_refl _)
      refine ⟨_, gN h 42, ?_, i1, i2, i3, by simp (disch := first | omega | rfl | assumption) only [q_cl, q_ps, q_pn, bI_t, bI_f, gI_same, gI_ne, gR_pI, gJ_pI, gV_pI, gN_pI, gC_pI, gS_pI, gI_pJ, gR_pJ, gV_pJ, gN_pJ, gJ_same, gJ_ne, gI_pR, gJ_pR, gV_pR, gN_pR, gR_same, gR_ne, zin_t, zin_f, x_ltt, x_ltf, x_let, x_lef, x_eqt, x_eqf, n_0, n_1, n_2, n_3, n_4, n_5, n_6, n_7, n_8, n_9, n_10, n_11, n_12, n_16, n_19, n_20, n_24, n_25, n_32, n_40, n_48, n_50, n_60, n_64, n_80, n_96, n_114, n_684, n_1000, n_9330, n_16806, n_1000000, n_5764800, ↓n_m, m_ltI, m_leI, m_lt', m_le', m_eq, m_eq', m_add, m_sub, mm_lt, mm_le, mm_eq, q_sub, nI_add, q_mul, nI_clamp, bz_0, bz_1, q_bzb, b_0, b_1, b_ft, b_tf, ne_eq, not_true_eq_false, not_false_eq_true, decide_true, decide_false, Bool.and_self, Bool.false_and, Bool.and_false, Bool.and_true, Bool.true_and, Bool.not_true, Bool.not_false, ↓reduceIte], fun p i k q => by simp (disch := first | omega | rfl | assumption) only [gI_nw_ne, gI_nw_eq, gR_nw_ne, gR_nw_eq, gJ_nw_ne, gV_nw_ne, gN_nw_ne, gN_nw_eq, gC_nw, gS_nw, gC_pR, gS_pR, Nat.zero_add, q_cl, q_ps, q_pn, bI_t, bI_f, gI_same, gI_ne, gR_pI, gJ_pI, gV_pI, gN_pI, gC_pI, gS_pI, gI_pJ, gR_pJ, gV_pJ, gN_pJ, gJ_same, gJ_ne, gI_pR, gJ_pR, gV_pR, gN_pR, gR_same, gR_ne, zin_t, zin_f, x_ltt, x_ltf, x_let, x_lef, x_eqt, x_eqf, n_0, n_1, n_2, n_3, n_4, n_5, n_6, n_7, n_8, n_9, n_10, n_11, n_12, n_16, n_19, n_20, n_24, n_25, n_32, n_40, n_48, n_50, n_60, n_64, n_80, n_96, n_114, n_684, n_1000, n_9330, n_16806, n_1000000, n_5764800, ↓n_m, m_ltI, m_leI, m_lt', m_le', m_eq, m_eq', m_add, m_sub, mm_lt, mm_le, mm_eq, q_sub, nI_add, q_mul, nI_clamp, bz_0, bz_1, q_bzb, b_0, b_1, b_ft, b_tf, ne_eq, not_true_eq_false, not_false_eq_true, decide_true, decide_false, Bool.and_self, Bool.false_and, Bool.and_false, Bool.and_true, Bool.true_and, Bool.not_true, Bool.not_false, ↓reduceIte]⟩
      rintro UP (rfl | ⟨u, rfl⟩)
      · rw [rX9_refresh_n1, bX9_refresh0_0]
        simp (disch := first | omega | rfl | assumption) only [h0, Nat.zero_add, hv, q_cl, q_ps, q_pn, bI_t, bI_f, gI_same, gI_ne, gR_pI, gJ_pI, gV_pI, gN_pI, gC_pI, gS_pI, gI_pJ, gR_pJ, gV_pJ, gN_pJ, gJ_same, gJ_ne, gI_pR, gJ_pR, gV_pR, gN_pR, gR_same, gR_ne, zin_t, zin_f, x_ltt, x_ltf, x_let, x_lef, x_eqt, x_eqf, n_0, n_1, n_2, n_3, n_4, n_5, n_6, n_7, n_8, n_9, n_10, n_11, n_12, n_16, n_19, n_20, n_24, n_25, n_32, n_40, n_48, n_50, n_60, n_64, n_80, n_96, n_114, n_684, n_1000, n_9330, n_16806, n_1000000, n_5764800, ↓n_m, m_ltI, m_leI, m_lt', m_le', m_eq, m_eq', m_add, m_sub, mm_lt, mm_le, mm_eq, q_sub, nI_add, q_mul, nI_clamp, bz_0, bz_1, q_bzb, b_0, b_1, b_ft, b_tf, ne_eq, not_true_eq_false, not_false_eq_true, decide_true, decide_false, Bool.and_self, Bool.false_and, Bool.and_false, Bool.and_true, Bool.true_and, Bool.not_true, Bool.not_false, ↓reduceIte]
      · rw [rX9_refresh, bX9_refresh_0]
        simp (disch := first | omega | rfl | assumption) only [h0, Nat.zero_add, hv, q_cl, q_ps, q_pn, bI_t, bI_f, gI_same, gI_ne, gR_pI, gJ_pI, gV_pI, gN_pI, gC_pI, gS_pI, gI_pJ, gR_pJ, gV_pJ, gN_pJ, gJ_same, gJ_ne, gI_pR, gJ_pR, gV_pR, gN_pR, gR_same, gR_ne, zin_t, zin_f, x_ltt, x_ltf, x_let, x_lef, x_eqt, x_eqf, n_0, n_1, n_2, n_3, n_4, n_5, n_6, n_7, n_8, n_9, n_10, n_11, n_12, n_16, n_19, n_20, n_24, n_25, n_32, n_40, n_48, n_50, n_60, n_64, n_80, n_96, n_114, n_684, n_1000, n_9330, n_16806, n_1000000, n_5764800, ↓n_m, m_ltI, m_leI, m_lt', m_le', m_eq, m_eq', m_add, m_sub, mm_lt, mm_le, mm_eq, q_sub, nI_add, q_mul, nI_clamp, bz_0, bz_1, q_bzb, b_0, b_1, b_ft, b_tf, ne_eq, not_true_eq_false, not_false_eq_true, decide_true, decide_false, Bool.and_self, Bool.false_and, Bool.and_false, Bool.and_true, Bool.true_and, Bool.not_true, Bool.not_false, ↓reduceIte]
    · refine ⟨h, gR h 7080 t 5 - 1, ?_, hG, hr, frX_rfl _ _, by omega, fun _ _ _ _ => rfl⟩
      rintro UP (rfl | ⟨u, rfl⟩)
      · rw [rX9_refresh_n1, bX9_refresh0_0, if_neg h0]
      · rw [rX9_refresh, bX9_refresh_0, if_neg h0]
  obtain ⟨hA, j, k1, k2, k3, k4, k5, k6⟩ := key
  have hct := cT_of k2
  rcases hup with hab | ⟨u, hab, hu⟩
  · obtain ⟨h1, q1, q2, q3⟩ := c_ref_loopb d ht hab 9330 0 z_U z_U hA (by omega) hct k3 k5 (fun i hi => by omega)
    obtain ⟨j1, j2, j3⟩ := ref_old k2 k3 ht k5 q3 q2
    refine ⟨_, fun _ => ?_, fun v hv => by omega, j1, j2, by simp (disch := first | omega | rfl | assumption) only [q_cl, q_ps, q_pn, bI_t, bI_f, gI_same, gI_ne, gR_pI, gJ_pI, gV_pI, gN_pI, gC_pI, gS_pI, gI_pJ, gR_pJ, gV_pJ, gN_pJ, gJ_same, gJ_ne, gI_pR, gJ_pR, gV_pR, gN_pR, gR_same, gR_ne, zin_t, zin_f, x_ltt, x_ltf, x_let, x_lef, x_eqt, x_eqf, n_0, n_1, n_2, n_3, n_4, n_5, n_6, n_7, n_8, n_9, n_10, n_11, n_12, n_16, n_19, n_20, n_24, n_25, n_32, n_40, n_48, n_50, n_60, n_64, n_80, n_96, n_114, n_684, n_1000, n_9330, n_16806, n_1000000, n_5764800, ↓n_m, m_ltI, m_leI, m_lt', m_le', m_eq, m_eq', m_add, m_sub, mm_lt, mm_le, mm_eq, q_sub, nI_add, q_mul, nI_clamp, bz_0, bz_1, q_bzb, b_0, b_1, b_ft, b_tf, ne_eq, not_true_eq_false, not_false_eq_true, decide_true, decide_false, Bool.and_self, Bool.false_and, Bool.and_false, Bool.and_true, Bool.true_and, Bool.not_true, Bool.not_false, ↓reduceIte], fun p i k n1 n2 => ?_, frX_trans k4 j3⟩
    · rw [k1 z_N (Or.inl rfl), bX9_refresh0_16]
      exact q1
    · rw [gI_ne (by omega)]
      have : gI h1 p i k = gI hA p i k := by unfold gI; rw [q3.1]
      rw [this, k6 p i k n2]
  · have ha := (okG_of hG).2.2.2.2.1 t
    have hul : u < gnT G := by omega
    have huA : gI hA 7080 u 6 = 0 := by rw [k6 _ _ _ (by decide)]; exact hu
    obtain ⟨z1, z2, z3, z4, z5, z6, z7⟩ := I_F k2
    have hU : gR hA 7080 u 5 ≠ 0 ∧ gR hA 7080 u 5 - 1 ≠ j ∧ ∀ i, i < 9330 → gJ hA 9330404 (gR hA 7080 u 5 - 1) i = pkJ G u i := by
      rcases z7 u hul with q | ⟨q1, q2, q3⟩
      · rw [huA] at q; cases q
      · refine ⟨q2, fun z => ?_, q3⟩
        have := z5 u t q2 (by omega)
        omega
    obtain ⟨h1, q1, q2, q3⟩ := c_ref_loopa d (u := u) ht hab hul 9330 0 z_U z_U hA (by omega) hct k3 k5 hU (fun i hi => by omega)
    obtain ⟨j1, j2, j3⟩ := ref_old k2 k3 ht k5 q3 q2
    refine ⟨_, fun z => by omega, fun v hv => ?_, j1, j2, by simp (disch := first | omega | rfl | assumption) only [q_cl, q_ps, q_pn, bI_t, bI_f, gI_same, gI_ne, gR_pI, gJ_pI, gV_pI, gN_pI, gC_pI, gS_pI, gI_pJ, gR_pJ, gV_pJ, gN_pJ, gJ_same, gJ_ne, gI_pR, gJ_pR, gV_pR, gN_pR, gR_same, gR_ne, zin_t, zin_f, x_ltt, x_ltf, x_let, x_lef, x_eqt, x_eqf, n_0, n_1, n_2, n_3, n_4, n_5, n_6, n_7, n_8, n_9, n_10, n_11, n_12, n_16, n_19, n_20, n_24, n_25, n_32, n_40, n_48, n_50, n_60, n_64, n_80, n_96, n_114, n_684, n_1000, n_9330, n_16806, n_1000000, n_5764800, ↓n_m, m_ltI, m_leI, m_lt', m_le', m_eq, m_eq', m_add, m_sub, mm_lt, mm_le, mm_eq, q_sub, nI_add, q_mul, nI_clamp, bz_0, bz_1, q_bzb, b_0, b_1, b_ft, b_tf, ne_eq, not_true_eq_false, not_false_eq_true, decide_true, decide_false, Bool.and_self, Bool.false_and, Bool.and_false, Bool.and_true, Bool.true_and, Bool.not_true, Bool.not_false, ↓reduceIte], fun p i k n1 n2 => ?_, frX_trans k4 j3⟩
    · have : v = u := by omega
      subst this
      rw [k1 (z_R 7080 v) (Or.inr ⟨v, rfl⟩), bX9_refresh_16]
      exact q1
    · rw [gI_ne (by omega)]
      have : gI h1 p i k = gI hA p i k := by unfold gI; rw [q3.1]
      rw [this, k6 p i k n2]
end
theorem ch_sub {G : Gh} (hc : okCh G) : ∀ t k v, (gch G t).testBit k = true → (gch G k).testBit v = true → (gch G t).testBit v = true := by
  intro t
  induction t using Nat.strongRecOn with
  | ind t ih =>
    intro k v h1 h2
    rw [ch_bit hc] at h1
    by_cases e : k = t
    · subst e; exact h2
    · have h0 : gab G t ≠ 0 ∧ (gch G (gab G t - 1)).testBit k = true := by
        simp [e] at h1
        exact h1
      have := (hc t).1
      have h3 := ih (gab G t - 1) (by omega) k v h0.2 h2
      rw [ch_bit hc t v]
      simp [h0.1, h3]
theorem c_fresh_loop (d : Nat) {N : Nat} {xs : Nat → Int32} {G : Gh} {e : Int32} {t : Nat} (ht : t < gnT G) : ∀ (r k : Nat) (u4 : z_V) (h : z_H), k + r = t + 1 → InvG h N xs G e → rdy h → (∀ v, v < k → (gch G t).testBit v = true → gI h 7080 v 6 = 0) →
    ∃ h', EX (d + 4) 18 16 [z_R 9010 0, z_I (nI t), z_I (nI (gch G t)), z_I (nI k), u4] [] h = some (some (z_R 7080 t), h') ∧ InvG h' N xs G e ∧ rdy h' ∧ (∀ v, v < t + 1 → (gch G t).testBit v = true → gI h' 7080 v 6 = 0) ∧ (∀ v, gI h 7080 v 6 = 0 → gI h' 7080 v 6 = 0) ∧ (∀ p i k, p ≠ 7080 → p ≠ 9330404 → gI h' p i k = gI h p i k) ∧ frX [4, 16] h h' := by
  intro r
  induction r with
  | zero =>
    intro k u4 h hk hG hr hv
    have hk : k = t + 1 := by omega
    subst hk
    have ct := cT_of hG
    have a3 := ct.1.2.2.2.1
    refine ⟨h, ?_, hG, hr, hv, fun v q => q, fun _ _ _ _ _ => rfl, frX_rfl _ _⟩
    rw [bX1_freshened_16]
    simp (disch := first | omega | rfl | assumption) only [bX1_freshened_82, ct.2.1.1 9010 0 rfl, (ct.2.2.2.2.2.2 t ht).1, q_cl, q_ps, q_pn, bI_t, bI_f, gI_same, gI_ne, gR_pI, gJ_pI, gV_pI, gN_pI, gC_pI, gS_pI, gI_pJ, gR_pJ, gV_pJ, gN_pJ, gJ_same, gJ_ne, gI_pR, gJ_pR, gV_pR, gN_pR, gR_same, gR_ne, zin_t, zin_f, x_ltt, x_ltf, x_let, x_lef, x_eqt, x_eqf, n_0, n_1, n_2, n_3, n_4, n_5, n_6, n_7, n_8, n_9, n_10, n_11, n_12, n_16, n_19, n_20, n_24, n_25, n_32, n_40, n_48, n_50, n_60, n_64, n_80, n_96, n_114, n_684, n_1000, n_9330, n_16806, n_1000000, n_5764800, ↓n_m, m_ltI, m_leI, m_lt', m_le', m_eq, m_eq', m_add, m_sub, mm_lt, mm_le, mm_eq, q_sub, nI_add, q_mul, nI_clamp, bz_0, bz_1, q_bzb, b_0, b_1, b_ft, b_tf, ne_eq, not_true_eq_false, not_false_eq_true, decide_true, decide_false, Bool.and_self, Bool.false_and, Bool.and_false, Bool.and_true, Bool.true_and, Bool.not_true, Bool.not_false, ↓reduceIte]
  | succ r ih =>
    intro k u4 h hk hG hr hv
    have ct := cT_of hG
    have a3 := ct.1.2.2.2.1
    have hc := ct.1.2.2.2.2.1
    have hcl := ch_lt hc t
    have h28 : 2 ^ (t + 1) ≤ 2 ^ 8 := Nat.pow_le_pow_right (by decide) (by omega)
    have hb : z_ush (nI (gch G t)) (nI k) &&& nI 1 = bI ((gch G t).testBit k) := q_bit (by omega) (by omega)
    have hkn : k < gnT G := by omega
    obtain ⟨b1, b2, b3, -⟩ := ct.2.2.2.2.2.2 k hkn
    by_cases hgo : (gch G t).testBit k = true ∧ gI h 7080 k 6 = 1
    · have hup : gab G k = 0 ∨ ∃ u, gab G k = u + 1 ∧ gI h 7080 u 6 = 0 := by
        by_cases h0 : gab G k = 0
        · exact Or.inl h0
        · refine Or.inr ⟨gab G k - 1, by omega, hv _ (by have := (hc k).1; omega) (ch_sub hc t k _ hgo.1 ?_)⟩
          rw [ch_bit hc k]
          simp [h0, ch_self hc]
      obtain ⟨h1, q1, q2, q3, q4, q5, q6, q7⟩ := c_refresh d hG hr hkn hgo.2 hup
      obtain ⟨h', p1, p2, p3, p4, p5, p6, p7⟩ := ih (k + 1) (z_R 7080 k) h1 (by omega) q3 q4 (fun v h1 h2 => by
        by_cases e : v = k
        · subst e; exact q5
        · rw [q6 _ _ _ (by omega) (by decide)]; exact hv v (by omega) h2)
      refine ⟨h', ?_, p2, p3, p4, fun v hv0 => ?_, fun p i k n1 n2 => ?_, frX_trans q7 p7⟩
      · have hs : (gI h 7080 k 6 = nI 0) = False := eq_false (by rw [hgo.2]; decide)
        rw [bX1_freshened_16]
        by_cases h0 : gab G k = 0
        · have e1 := q1 h0
          rw [h0] at b2
          simp (disch := first | omega | rfl | assumption) only [ct.2.1.1 9010 0 rfl, b1, hb, hgo.1, hs, hr.1, one_ne, Nat.sub_self, b2, mk_0, bX1_freshened_73_n1, e1, bX1_freshened_76, q_cl, q_ps, q_pn, bI_t, bI_f, gI_same, gI_ne, gR_pI, gJ_pI, gV_pI, gN_pI, gC_pI, gS_pI, gI_pJ, gR_pJ, gV_pJ, gN_pJ, gJ_same, gJ_ne, gI_pR, gJ_pR, gV_pR, gN_pR, gR_same, gR_ne, zin_t, zin_f, x_ltt, x_ltf, x_let, x_lef, x_eqt, x_eqf, n_0, n_1, n_2, n_3, n_4, n_5, n_6, n_7, n_8, n_9, n_10, n_11, n_12, n_16, n_19, n_20, n_24, n_25, n_32, n_40, n_48, n_50, n_60, n_64, n_80, n_96, n_114, n_684, n_1000, n_9330, n_16806, n_1000000, n_5764800, ↓n_m, m_ltI, m_leI, m_lt', m_le', m_eq, m_eq', m_add, m_sub, mm_lt, mm_le, mm_eq, q_sub, nI_add, q_mul, nI_clamp, bz_0, bz_1, q_bzb, b_0, b_1, b_ft, b_tf, ne_eq, not_true_eq_false, not_false_eq_true, decide_true, decide_false, Bool.and_self, Bool.false_and, Bool.and_false, Bool.and_true, Bool.true_and, Bool.not_true, Bool.not_false, ↓reduceIte]
          exact p1
        · obtain ⟨u, hu⟩ : ∃ u, gab G k = u + 1 := ⟨gab G k - 1, by omega⟩
          have e1 := q2 u hu
          have := (hc k).1
          obtain ⟨d1, -⟩ := ct.2.2.2.2.2.2 u (by omega)
          rw [hu, mkI_pos (by omega), Nat.add_sub_cancel] at b2
          simp (disch := first | omega | rfl | assumption) only [ct.2.1.1 9010 0 rfl, b1, hb, hgo.1, hs, hr.1, one_ne, Nat.sub_self, b2, bX1_freshened_63, d1, bX1_freshened_73, e1, bX1_freshened_76, q_cl, q_ps, q_pn, bI_t, bI_f, gI_same, gI_ne, gR_pI, gJ_pI, gV_pI, gN_pI, gC_pI, gS_pI, gI_pJ, gR_pJ, gV_pJ, gN_pJ, gJ_same, gJ_ne, gI_pR, gJ_pR, gV_pR, gN_pR, gR_same, gR_ne, zin_t, zin_f, x_ltt, x_ltf, x_let, x_lef, x_eqt, x_eqf, n_0, n_1, n_2, n_3, n_4, n_5, n_6, n_7, n_8, n_9, n_10, n_11, n_12, n_16, n_19, n_20, n_24, n_25, n_32, n_40, n_48, n_50, n_60, n_64, n_80, n_96, n_114, n_684, n_1000, n_9330, n_16806, n_1000000, n_5764800, ↓n_m, m_ltI, m_leI, m_lt', m_le', m_eq, m_eq', m_add, m_sub, mm_lt, mm_le, mm_eq, q_sub, nI_add, q_mul, nI_clamp, bz_0, bz_1, q_bzb, b_0, b_1, b_ft, b_tf, ne_eq, not_true_eq_false, not_false_eq_true, decide_true, decide_false, Bool.and_self, Bool.false_and, Bool.and_false, Bool.and_true, Bool.true_and, Bool.not_true, Bool.not_false, ↓reduceIte]
          exact p1
      · refine p5 v ?_
        by_cases e : v = k
        · subst e; exact q5
        · rw [q6 _ _ _ (by omega) (by decide)]; exact hv0
      · rw [p6 p i k n1 n2, q6 _ _ _ (fun z => n1 z.1) n2]
    · obtain ⟨h', p1, p2, p3, p4, p5, p6, p7⟩ := ih (k + 1) (z_R 7080 k) h (by omega) hG hr (fun v h1 h2 => by
        by_cases e : v = k
        · subst e
          rcases (I_F hG).2.2.2.2.2.2 v hkn with q | ⟨q, -⟩
          · exact absurd ⟨h2, q⟩ hgo
          · exact q
        · exact hv v (by omega) h2)
      refine ⟨h', ?_, p2, p3, p4, p5, p6, p7⟩
      rw [bX1_freshened_16]
      cases hbit : (gch G t).testBit k with
      | false =>
        simp (disch := first | omega | rfl | assumption) only [ct.2.1.1 9010 0 rfl, b1, hb, hbit, bX1_freshened_76, q_cl, q_ps, q_pn, bI_t, bI_f, gI_same, gI_ne, gR_pI, gJ_pI, gV_pI, gN_pI, gC_pI, gS_pI, gI_pJ, gR_pJ, gV_pJ, gN_pJ, gJ_same, gJ_ne, gI_pR, gJ_pR, gV_pR, gN_pR, gR_same, gR_ne, zin_t, zin_f, x_ltt, x_ltf, x_let, x_lef, x_eqt, x_eqf, n_0, n_1, n_2, n_3, n_4, n_5, n_6, n_7, n_8, n_9, n_10, n_11, n_12, n_16, n_19, n_20, n_24, n_25, n_32, n_40, n_48, n_50, n_60, n_64, n_80, n_96, n_114, n_684, n_1000, n_9330, n_16806, n_1000000, n_5764800, ↓n_m, m_ltI, m_leI, m_lt', m_le', m_eq, m_eq', m_add, m_sub, mm_lt, mm_le, mm_eq, q_sub, nI_add, q_mul, nI_clamp, bz_0, bz_1, q_bzb, b_0, b_1, b_ft, b_tf, ne_eq, not_true_eq_false, not_false_eq_true, decide_true, decide_false, Bool.and_self, Bool.false_and, Bool.and_false, Bool.and_true, Bool.true_and, Bool.not_true, Bool.not_false, ↓reduceIte]
        exact p1
      | true =>
        have hs : gI h 7080 k 6 = nI 0 := by
          rcases (I_F hG).2.2.2.2.2.2 k hkn with q | ⟨q, -⟩
          · exact absurd ⟨hbit, q⟩ hgo
          · exact q
        simp (disch := first | omega | rfl | assumption) only [ct.2.1.1 9010 0 rfl, b1, hb, hbit, hs, bX1_freshened_76, q_cl, q_ps, q_pn, bI_t, bI_f, gI_same, gI_ne, gR_pI, gJ_pI, gV_pI, gN_pI, gC_pI, gS_pI, gI_pJ, gR_pJ, gV_pJ, gN_pJ, gJ_same, gJ_ne, gI_pR, gJ_pR, gV_pR, gN_pR, gR_same, gR_ne, zin_t, zin_f, x_ltt, x_ltf, x_let, x_lef, x_eqt, x_eqf, n_0, n_1, n_2, n_3, n_4, n_5, n_6, n_7, n_8, n_9, n_10, n_11, n_12, n_16, n_19, n_20, n_24, n_25, n_32, n_40, n_48, n_50, n_60, n_64, n_80, n_96, n_114, n_684, n_1000, n_9330, n_16806, n_1000000, n_5764800, ↓n_m, m_ltI, m_leI, m_lt', m_le', m_eq, m_eq', m_add, m_sub, mm_lt, mm_le, mm_eq, q_sub, nI_add, q_mul, nI_clamp, bz_0, bz_1, q_bzb, b_0, b_1, b_ft, b_tf, ne_eq, not_true_eq_false, not_false_eq_true, decide_true, decide_false, Bool.and_self, Bool.false_and, Bool.and_false, Bool.and_true, Bool.true_and, Bool.not_true, Bool.not_false, ↓reduceIte]
        exact p1
theorem c_freshened (d : Nat) {h hp : z_H} {N : Nat} {xs : Nat → Int32} {G : Gh} {e : Int32} {t : Nat} (ht : t < gnT G) (e0 : Rn (d + 4) 17 [z_R 9010 0] h = some (none, hp)) (hG : InvG hp N xs G e) (hr : rdy hp) :
    ∃ h', Rn (d + 5) 18 [z_R 9010 0, z_I (nI t)] h = some (some (z_R 7080 t), h') ∧ InvG h' N xs G e ∧ rdy h' ∧ (∀ v, v < t + 1 → (gch G t).testBit v = true → gI h' 7080 v 6 = 0) ∧ (∀ v, gI hp 7080 v 6 = 0 → gI h' 7080 v 6 = 0) ∧ (∀ p i k, p ≠ 7080 → p ≠ 9330404 → gI h' p i k = gI hp p i k) ∧ frX [4, 16] hp h' := by
  have ct := cT_of hG
  have a3 := ct.1.2.2.2.1
  obtain ⟨b1, b2, b3, -⟩ := ct.2.2.2.2.2.2 t ht
  obtain ⟨h', p1, p2⟩ := c_fresh_loop d ht (t + 1) 0 z_U hp (by omega) hG hr (fun v hv => by omega)
  refine ⟨h', ?_, p2⟩
  rw [rX1_freshened, bX1_freshened_0]
  simp (disch := first | omega | rfl | assumption) only [e0, bX1_freshened_4, ct.2.1.1 9010 0 rfl, b1, b3, q_cl, q_ps, q_pn, bI_t, bI_f, gI_same, gI_ne, gR_pI, gJ_pI, gV_pI, gN_pI, gC_pI, gS_pI, gI_pJ, gR_pJ, gV_pJ, gN_pJ, gJ_same, gJ_ne, gI_pR, gJ_pR, gV_pR, gN_pR, gR_same, gR_ne, zin_t, zin_f, x_ltt, x_ltf, x_let, x_lef, x_eqt, x_eqf, n_0, n_1, n_2, n_3, n_4, n_5, n_6, n_7, n_8, n_9, n_10, n_11, n_12, n_16, n_19, n_20, n_24, n_25, n_32, n_40, n_48, n_50, n_60, n_64, n_80, n_96, n_114, n_684, n_1000, n_9330, n_16806, n_1000000, n_5764800, ↓n_m, m_ltI, m_leI, m_lt', m_le', m_eq, m_eq', m_add, m_sub, mm_lt, mm_le, mm_eq, q_sub, nI_add, q_mul, nI_clamp, bz_0, bz_1, q_bzb, b_0, b_1, b_ft, b_tf, ne_eq, not_true_eq_false, not_false_eq_true, decide_true, decide_false, Bool.and_self, Bool.false_and, Bool.and_false, Bool.and_true, Bool.true_and, Bool.not_true, Bool.not_false, ↓reduceIte]
  exact p1
theorem c_prep_rdy (d : Nat) {h : z_H} (hr : rdy h) : Rn (d + 1) 17 [z_R 9010 0] h = some (none, h) := by
  rw [rX1_prepareStems, bX1_prepareStems_0, if_neg (by rw [hr.1]; decide)]
