/-! ===== lent ===== -/
theorem bt_sar (x : Int32) {k : Nat} (hk : k < 32) {i : Nat} (hi : i < 32) : bt (x >>> (nI k &&& 31)) i = if k + i < 32 then bt x (k + i) else bt x 31 := by
  unfold bt
  rw [Int32.toBitVec_shiftRight, BitVec.sshiftRight_eq', q_shk k hk, BitVec.getLsbD_sshiftRight, BitVec.msb_eq_getLsbD_last]
  have h1 : ¬ 32 ≤ i := by omega
  simp [h1]
theorem q_sar {a k : Nat} (ha : a < 2 ^ 31) (hk : k < 32) : nI a >>> (nI k &&& 31) = nI (a / 2 ^ k) := by
  apply bt_ext
  intro i hi
  rw [bt_sar _ hk hi, bt_nI _ hi, Nat.testBit_div_two_pow]
  by_cases h : k + i < 32
  · rw [if_pos h, bt_nI _ h, Nat.add_comm]
  · rw [if_neg h, bt_nI _ (by omega), Nat.testBit_lt_two_pow ha, Nat.testBit_lt_two_pow]
    exact Nat.lt_of_lt_of_le ha (Nat.pow_le_pow_right (by decide) (by omega))
theorem q_bitS {c k : Nat} (hc : c < 2 ^ 31) (hk : k < 32) : (nI c >>> (nI k &&& 31)) &&& nI 1 = bI (c.testBit k) := by
  have := q_bit (c := c) (k := k) (by omega) hk
  rw [q_ush (by omega) hk] at this
  rw [q_sar hc hk, this]
/-- behind how many laws; from which tongue -/
def lnK (G : Gh) (t : Nat) (v w : List Nat) : Nat → Nat → Option Nat
  | 0, _ => none
  | r + 1, k => if signW (gsg G t) (ownR (gvV G) (gLF G) 0 ((gow G t).drop k) w) = v then some k else lnK G t v w r (k + 1)
def lnU (G : Gh) (t : Nat) (v : List Nat) (b : Nat) : Nat → Nat → Option Nat
  | 0, _ => none
  | r + 1, u => if u = t then lnU G t v b r (u + 1) else match lnK G t v (frm G 0 u (stW b)) ((gow G t).length + 1) 0 with
    | some k => some (10 * u + k)
    | none => lnU G t v b r (u + 1)
theorem lnK_lt {G : Gh} {t : Nat} {v w : List Nat} : ∀ r k j, lnK G t v w r k = some j → j < k + r := by
  intro r
  induction r with
  | zero => intro k j h; cases h
  | succ r ih =>
    intro k j h
    have h' : (if signW (gsg G t) (ownR (gvV G) (gLF G) 0 ((gow G t).drop k) w) = v then some k else lnK G t v w r (k + 1)) = some j := h
    split at h'
    · cases h'; omega
    · have := ih _ _ h'; omega
theorem c_lnK (d : Nat) {G : Gh} {h : z_H} (m : cT h G) {t u : Nat} (ht : t < gnT G) (hu : u < 8) {v w : List Nat} (hv : isW v) (hw : isW w) (hwt : gI h 8121 0 t = nI (rowN v)) (x2 : Int32) : ∀ (r k : Nat), k + r = (gow G t).length + 1 →
    EX (d + 4) 27 37 [z_R 9010 0, z_I (nI t), z_I x2, z_R 7080 t, z_I (nI u), z_I (nI (rowN w)), z_I (nI k)] [] h = (match lnK G t v w r k with | some j => some (some (z_I (nI (10 * u + j))), h) | none => EX (d + 4) 27 86 [z_R 9010 0, z_I (nI t), z_I x2, z_R 7080 t, z_I (nI u), z_I (nI (rowN w)), z_I (nI ((gow G t).length + 1))] [] h) := by
  obtain ⟨b1, b2, b3, b4, b5, b6, b7, b8⟩ := m.2.2.2.2.2.2 t ht
  obtain ⟨o7, o8, o9⟩ := m.1.2.2.2.2.2 t ht
  have h8 := m.1.2.2.2.1
  intro r
  induction r with
  | zero =>
    intro k hk
    have : k = (gow G t).length + 1 := by omega
    subst this
    rw [bX1_lenderOf_37]
    simp (disch := first | omega | rfl | assumption) only [b6, q_cl, q_ps, q_pn, bI_t, bI_f, gI_same, gI_ne, gR_pI, gJ_pI, gV_pI, gN_pI, gC_pI, gS_pI, gI_pJ, gR_pJ, gV_pJ, gN_pJ, gJ_same, gJ_ne, gI_pR, gJ_pR, gV_pR, gN_pR, gR_same, gR_ne, zin_t, zin_f, x_ltt, x_ltf, x_let, x_lef, x_eqt, x_eqf, n_0, n_1, n_2, n_3, n_4, n_5, n_6, n_7, n_8, n_9, n_10, n_11, n_12, n_16, n_19, n_20, n_24, n_25, n_32, n_40, n_48, n_50, n_60, n_64, n_80, n_96, n_114, n_684, n_1000, n_9330, n_16806, n_1000000, n_5764800, ↓n_m, m_ltI, m_leI, m_lt', m_le', m_eq, m_eq', m_add, m_sub, mm_lt, mm_le, mm_eq, q_sub, nI_add, q_mul, nI_clamp, bz_0, bz_1, q_bzb, b_0, b_1, b_ft, b_tf, ne_eq, not_true_eq_false, not_false_eq_true, decide_true, decide_false, Bool.and_self, Bool.false_and, Bool.and_false, Bool.and_true, Bool.true_and, Bool.not_true, Bool.not_false, ↓reduceIte]
    rfl
  | succ r ih =>
    intro k hk
    have e1 := c_grown d m ht (mu := 0) (by decide) (k := k) (by omega) hw
    rw [mk_0] at e1
    have hoW : isW (ownR (gvV G) (gLF G) 0 ((gow G t).drop k) w) := ownR_ok m.1.2.2.1 _ _ (fun x hx => o8 x (List.mem_of_mem_drop hx)) hw
    have hsW := signW_ok o9 hoW
    have e2 := c_signsOf (d + 3) o9 b8 hoW
    have l1 := rowN_lt' hsW
    have l2 := rowN_lt' hv
    have e3 : lnK G t v w (r + 1) k = if signW (gsg G t) (ownR (gvV G) (gLF G) 0 ((gow G t).drop k) w) = v then some k else lnK G t v w r (k + 1) := rfl
    rw [bX1_lenderOf_37]
    by_cases hq : signW (gsg G t) (ownR (gvV G) (gLF G) 0 ((gow G t).drop k) w) = v
    · rw [if_pos hq] at e3
      rw [e3]
      rw [hq] at e2
      simp (disch := first | omega | rfl | assumption) only [b6, e1, bX1_lenderOf_55, b5, e2, bX1_lenderOf_62, m.2.1.1 9010 1 rfl, hwt, q_cl, q_ps, q_pn, bI_t, bI_f, gI_same, gI_ne, gR_pI, gJ_pI, gV_pI, gN_pI, gC_pI, gS_pI, gI_pJ, gR_pJ, gV_pJ, gN_pJ, gJ_same, gJ_ne, gI_pR, gJ_pR, gV_pR, gN_pR, gR_same, gR_ne, zin_t, zin_f, x_ltt, x_ltf, x_let, x_lef, x_eqt, x_eqf, n_0, n_1, n_2, n_3, n_4, n_5, n_6, n_7, n_8, n_9, n_10, n_11, n_12, n_16, n_19, n_20, n_24, n_25, n_32, n_40, n_48, n_50, n_60, n_64, n_80, n_96, n_114, n_684, n_1000, n_9330, n_16806, n_1000000, n_5764800, ↓n_m, m_ltI, m_leI, m_lt', m_le', m_eq, m_eq', m_add, m_sub, mm_lt, mm_le, mm_eq, q_sub, nI_add, q_mul, nI_clamp, bz_0, bz_1, q_bzb, b_0, b_1, b_ft, b_tf, ne_eq, not_true_eq_false, not_false_eq_true, decide_true, decide_false, Bool.and_self, Bool.false_and, Bool.and_false, Bool.and_true, Bool.true_and, Bool.not_true, Bool.not_false, ↓reduceIte]
    · rw [if_neg hq] at e3
      have hq2 : ¬ rowN (signW (gsg G t) (ownR (gvV G) (gLF G) 0 ((gow G t).drop k) w)) = rowN v := fun z => hq (rowN_inj _ _ hsW.2 hv.2 z)
      rw [e3, ← ih (k + 1) (by omega)]
      simp (disch := first | omega | rfl | assumption) only [b6, e1, bX1_lenderOf_55, b5, e2, bX1_lenderOf_62, m.2.1.1 9010 1 rfl, hwt, bX1_lenderOf_80, q_cl, q_ps, q_pn, bI_t, bI_f, gI_same, gI_ne, gR_pI, gJ_pI, gV_pI, gN_pI, gC_pI, gS_pI, gI_pJ, gR_pJ, gV_pJ, gN_pJ, gJ_same, gJ_ne, gI_pR, gJ_pR, gV_pR, gN_pR, gR_same, gR_ne, zin_t, zin_f, x_ltt, x_ltf, x_let, x_lef, x_eqt, x_eqf, n_0, n_1, n_2, n_3, n_4, n_5, n_6, n_7, n_8, n_9, n_10, n_11, n_12, n_16, n_19, n_20, n_24, n_25, n_32, n_40, n_48, n_50, n_60, n_64, n_80, n_96, n_114, n_684, n_1000, n_9330, n_16806, n_1000000, n_5764800, ↓n_m, m_ltI, m_leI, m_lt', m_le', m_eq, m_eq', m_add, m_sub, mm_lt, mm_le, mm_eq, q_sub, nI_add, q_mul, nI_clamp, bz_0, bz_1, q_bzb, b_0, b_1, b_ft, b_tf, ne_eq, not_true_eq_false, not_false_eq_true, decide_true, decide_false, Bool.and_self, Bool.false_and, Bool.and_false, Bool.and_true, Bool.true_and, Bool.not_true, Bool.not_false, ↓reduceIte]
theorem c_lnU (d : Nat) {G : Gh} {h : z_H} (m : cT h G) {t b : Nat} (ht : t < gnT G) {v : List Nat} (hv : isW v) (hb : isW (stW b)) (hwt : gI h 8121 0 t = nI (rowN v)) : ∀ (r u : Nat) (u5 u6 : z_V), u + r = gnT G →
    EX (d + 5) 27 10 [z_R 9010 0, z_I (nI t), z_I (nI (rowN (stW b))), z_R 7080 t, z_I (nI u), u5, u6] [] h = some (some (z_I (match lnU G t v b r u with | some x => nI x | none => mI)), h) := by
  have h8 := m.1.2.2.2.1
  intro r
  induction r with
  | zero =>
    intro u u5 u6 hu
    rw [bX1_lenderOf_10]
    simp (disch := first | omega | rfl | assumption) only [m.2.2.2.2.2.1, bX1_lenderOf_92, q_cl, q_ps, q_pn, bI_t, bI_f, gI_same, gI_ne, gR_pI, gJ_pI, gV_pI, gN_pI, gC_pI, gS_pI, gI_pJ, gR_pJ, gV_pJ, gN_pJ, gJ_same, gJ_ne, gI_pR, gJ_pR, gV_pR, gN_pR, gR_same, gR_ne, zin_t, zin_f, x_ltt, x_ltf, x_let, x_lef, x_eqt, x_eqf, n_0, n_1, n_2, n_3, n_4, n_5, n_6, n_7, n_8, n_9, n_10, n_11, n_12, n_16, n_19, n_20, n_24, n_25, n_32, n_40, n_48, n_50, n_60, n_64, n_80, n_96, n_114, n_684, n_1000, n_9330, n_16806, n_1000000, n_5764800, ↓n_m, m_ltI, m_leI, m_lt', m_le', m_eq, m_eq', m_add, m_sub, mm_lt, mm_le, mm_eq, q_sub, nI_add, q_mul, nI_clamp, bz_0, bz_1, q_bzb, b_0, b_1, b_ft, b_tf, ne_eq, not_true_eq_false, not_false_eq_true, decide_true, decide_false, Bool.and_self, Bool.false_and, Bool.and_false, Bool.and_true, Bool.true_and, Bool.not_true, Bool.not_false, ↓reduceIte]
    rfl
  | succ r ih =>
    intro u u5 u6 hu
    have e3 : lnU G t v b (r + 1) u = if u = t then lnU G t v b r (u + 1) else match lnK G t v (frm G 0 u (stW b)) ((gow G t).length + 1) 0 with
      | some k => some (10 * u + k)
      | none => lnU G t v b r (u + 1) := rfl
    rw [bX1_lenderOf_10]
    by_cases hq : u = t
    · rw [if_pos hq] at e3
      rw [e3, ← ih (u + 1) u5 u6 (by omega)]
      simp (disch := first | omega | rfl | assumption) only [m.2.2.2.2.2.1, bX1_lenderOf_86, q_cl, q_ps, q_pn, bI_t, bI_f, gI_same, gI_ne, gR_pI, gJ_pI, gV_pI, gN_pI, gC_pI, gS_pI, gI_pJ, gR_pJ, gV_pJ, gN_pJ, gJ_same, gJ_ne, gI_pR, gJ_pR, gV_pR, gN_pR, gR_same, gR_ne, zin_t, zin_f, x_ltt, x_ltf, x_let, x_lef, x_eqt, x_eqf, n_0, n_1, n_2, n_3, n_4, n_5, n_6, n_7, n_8, n_9, n_10, n_11, n_12, n_16, n_19, n_20, n_24, n_25, n_32, n_40, n_48, n_50, n_60, n_64, n_80, n_96, n_114, n_684, n_1000, n_9330, n_16806, n_1000000, n_5764800, ↓n_m, m_ltI, m_leI, m_lt', m_le', m_eq, m_eq', m_add, m_sub, mm_lt, mm_le, mm_eq, q_sub, nI_add, q_mul, nI_clamp, bz_0, bz_1, q_bzb, b_0, b_1, b_ft, b_tf, ne_eq, not_true_eq_false, not_false_eq_true, decide_true, decide_false, Bool.and_self, Bool.false_and, Bool.and_false, Bool.and_true, Bool.true_and, Bool.not_true, Bool.not_false, ↓reduceIte]
    · rw [if_neg hq] at e3
      have hun : u < gnT G := by omega
      have e1 := c_rowIn d m hun hb
      have e2 := c_lnK (d + 1) m ht (show u < 8 by omega) hv (frm_ok m.1 0 u (stW b) hun hb) hwt (nI (rowN (stW b))) ((gow G t).length + 1) 0 (by omega)
      rw [e3]
      cases hk : lnK G t v (frm G 0 u (stW b)) ((gow G t).length + 1) 0 with
      | some j =>
        rw [hk] at e2
        simp (disch := first | omega | rfl | assumption) only [m.2.2.2.2.2.1, e1, bX1_lenderOf_32, e2, q_cl, q_ps, q_pn, bI_t, bI_f, gI_same, gI_ne, gR_pI, gJ_pI, gV_pI, gN_pI, gC_pI, gS_pI, gI_pJ, gR_pJ, gV_pJ, gN_pJ, gJ_same, gJ_ne, gI_pR, gJ_pR, gV_pR, gN_pR, gR_same, gR_ne, zin_t, zin_f, x_ltt, x_ltf, x_let, x_lef, x_eqt, x_eqf, n_0, n_1, n_2, n_3, n_4, n_5, n_6, n_7, n_8, n_9, n_10, n_11, n_12, n_16, n_19, n_20, n_24, n_25, n_32, n_40, n_48, n_50, n_60, n_64, n_80, n_96, n_114, n_684, n_1000, n_9330, n_16806, n_1000000, n_5764800, ↓n_m, m_ltI, m_leI, m_lt', m_le', m_eq, m_eq', m_add, m_sub, mm_lt, mm_le, mm_eq, q_sub, nI_add, q_mul, nI_clamp, bz_0, bz_1, q_bzb, b_0, b_1, b_ft, b_tf, ne_eq, not_true_eq_false, not_false_eq_true, decide_true, decide_false, Bool.and_self, Bool.false_and, Bool.and_false, Bool.and_true, Bool.true_and, Bool.not_true, Bool.not_false, ↓reduceIte]
      | none =>
        rw [hk] at e2
        show _ = some (some (z_I (match lnU G t v b r (u + 1) with | some x => nI x | none => mI)), h)
        rw [← ih (u + 1) (z_I (nI (rowN (frm G 0 u (stW b))))) (z_I (nI ((gow G t).length + 1))) (by omega)]
        simp (disch := first | omega | rfl | assumption) only [m.2.2.2.2.2.1, e1, bX1_lenderOf_32, e2, bX1_lenderOf_86, q_cl, q_ps, q_pn, bI_t, bI_f, gI_same, gI_ne, gR_pI, gJ_pI, gV_pI, gN_pI, gC_pI, gS_pI, gI_pJ, gR_pJ, gV_pJ, gN_pJ, gJ_same, gJ_ne, gI_pR, gJ_pR, gV_pR, gN_pR, gR_same, gR_ne, zin_t, zin_f, x_ltt, x_ltf, x_let, x_lef, x_eqt, x_eqf, n_0, n_1, n_2, n_3, n_4, n_5, n_6, n_7, n_8, n_9, n_10, n_11, n_12, n_16, n_19, n_20, n_24, n_25, n_32, n_40, n_48, n_50, n_60, n_64, n_80, n_96, n_114, n_684, n_1000, n_9330, n_16806, n_1000000, n_5764800, ↓n_m, m_ltI, m_leI, m_lt', m_le', m_eq, m_eq', m_add, m_sub, mm_lt, mm_le, mm_eq, q_sub, nI_add, q_mul, nI_clamp, bz_0, bz_1, q_bzb, b_0, b_1, b_ft, b_tf, ne_eq, not_true_eq_false, not_false_eq_true, decide_true, decide_false, Bool.and_self, Bool.false_and, Bool.and_false, Bool.and_true, Bool.true_and, Bool.not_true, Bool.not_false, ↓reduceIte]
theorem c_lender (d : Nat) {G : Gh} {h : z_H} (m : cT h G) {t b : Nat} (ht : t < gnT G) {v : List Nat} (hv : isW v) (hb : isW (stW b)) (hwt : gI h 8121 0 t = nI (rowN v)) : Rn (d + 6) 27 [z_R 9010 0, z_I (nI t), z_I (nI (rowN (stW b)))] h = some (some (z_I (match lnU G t v b (gnT G) 0 with | some x => nI x | none => mI)), h) := by
  have h8 := m.1.2.2.2.1
  rw [rX1_lenderOf, bX1_lenderOf_0]
  simp (disch := first | omega | rfl | assumption) only [m.2.1.1 9010 0 rfl, (m.2.2.2.2.2.2 t ht).1, q_cl, q_ps, q_pn, bI_t, bI_f, gI_same, gI_ne, gR_pI, gJ_pI, gV_pI, gN_pI, gC_pI, gS_pI, gI_pJ, gR_pJ, gV_pJ, gN_pJ, gJ_same, gJ_ne, gI_pR, gJ_pR, gV_pR, gN_pR, gR_same, gR_ne, zin_t, zin_f, x_ltt, x_ltf, x_let, x_lef, x_eqt, x_eqf, n_0, n_1, n_2, n_3, n_4, n_5, n_6, n_7, n_8, n_9, n_10, n_11, n_12, n_16, n_19, n_20, n_24, n_25, n_32, n_40, n_48, n_50, n_60, n_64, n_80, n_96, n_114, n_684, n_1000, n_9330, n_16806, n_1000000, n_5764800, ↓n_m, m_ltI, m_leI, m_lt', m_le', m_eq, m_eq', m_add, m_sub, mm_lt, mm_le, mm_eq, q_sub, nI_add, q_mul, nI_clamp, bz_0, bz_1, q_bzb, b_0, b_1, b_ft, b_tf, ne_eq, not_true_eq_false, not_false_eq_true, decide_true, decide_false, Bool.and_self, Bool.false_and, Bool.and_false, Bool.and_true, Bool.true_and, Bool.not_true, Bool.not_false, ↓reduceIte]
  exact c_lnU d m ht hv hb hwt (gnT G) 0 _ _ (by omega)
/-! the reference -/
theorem spr_tW {h h' : z_H} (f : fr tW h h') {G : Gh} {mu : Nat} {w : List Nat} (s : spr h G mu w) : spr h' G mu w := fun t ht => ⟨(f.2 _ _ _ (tW_no rfl)).trans (s t ht).1, (f.2 _ _ _ (tW_no rfl)).trans (s t ht).2⟩
theorem m_lnK (d : Nat) {G : Gh} {nM a t u b : Nat} {K : Nat → Nat → Option (List Nat)} (ha : a < nM) (ht : t < gnT G) (hun : u < gnT G) (hut : u ≠ t) {v : List Nat} (hv : isW v) (hK : K a t = some v) (hb : isW (stW b)) (x2 : Int32) : ∀ (r k : Nat) (h : z_H), k + r = (gow G t).length + 1 → mT h G 0 → kn h G nM K → spr h G 0 (stW b) →
    ∃ h', EX (d + 20) 204 70 [z_R 49100 0, z_I (nI a), z_I x2, z_I (nI t), z_I (nI u), z_I (nI k)] [] h = (match lnK G t v (frm G 0 u (stW b)) r k with | some j => some (some (z_I (nI (10 * u + j))), h') | none => EX (d + 20) 204 139 [z_R 49100 0, z_I (nI a), z_I x2, z_I (nI t), z_I (nI u), z_I (nI ((gow G t).length + 1))] [] h') ∧ fr tW h h' := by
  intro r
  induction r with
  | zero =>
    intro k h hk m kk hs
    have : k = (gow G t).length + 1 := by omega
    subst this
    have h8 := m.1.2.2.2.1
    have o7 := (m.1.2.2.2.2.2 t ht).1
    obtain ⟨d2, d3, o3, d4⟩ := m.2.2.2.2.2.2.1 t ht
    refine ⟨h, ?_, fr_rfl _ _⟩
    rw [bX11_lent_70]
    simp (disch := first | omega | rfl | assumption) only [m.2.1 11 rfl, d3, q_cl, q_ps, q_pn, bI_t, bI_f, gI_same, gI_ne, gR_pI, gJ_pI, gV_pI, gN_pI, gC_pI, gS_pI, gI_pJ, gR_pJ, gV_pJ, gN_pJ, gJ_same, gJ_ne, gI_pR, gJ_pR, gV_pR, gN_pR, gR_same, gR_ne, zin_t, zin_f, x_ltt, x_ltf, x_let, x_lef, x_eqt, x_eqf, n_0, n_1, n_2, n_3, n_4, n_5, n_6, n_7, n_8, n_9, n_10, n_11, n_12, n_16, n_19, n_20, n_24, n_25, n_32, n_40, n_48, n_50, n_60, n_64, n_80, n_96, n_114, n_684, n_1000, n_9330, n_16806, n_1000000, n_5764800, ↓n_m, m_ltI, m_leI, m_lt', m_le', m_eq, m_eq', m_add, m_sub, mm_lt, mm_le, mm_eq, q_sub, nI_add, q_mul, nI_clamp, bz_0, bz_1, q_bzb, b_0, b_1, b_ft, b_tf, ne_eq, not_true_eq_false, not_false_eq_true, decide_true, decide_false, Bool.and_self, Bool.false_and, Bool.and_false, Bool.and_true, Bool.true_and, Bool.not_true, Bool.not_false, ↓reduceIte]
    rfl
  | succ r ih =>
    intro k h hk m kk hs
    have h8 := m.1.2.2.2.1
    have h10 := kk.1
    obtain ⟨o7, o8, o9⟩ := m.1.2.2.2.2.2 t ht
    obtain ⟨d2, d3, o3, d4⟩ := m.2.2.2.2.2.2.1 t ht
    have hfu := frm_ok m.1 0 u (stW b) hun hb
    have s1 := (hs u hun).1
    obtain ⟨h1, e1, e2, e3⟩ := m_load (d + 19) m.2.1 hfu
    have m1 := mT_tW e3 m
    obtain ⟨h2, f1, f2, f3⟩ := m_runOwn (d + 13) ht (mu := 0) (by decide) (k := k) (by omega) m1 hfu e2
    have m2 := mT_tW f3 m1
    have hoW : isW (ownR (gvV G) (gLF G) 0 ((gow G t).drop k) (frm G 0 u (stW b))) := ownR_ok m.1.2.2.1 _ _ (fun x hx => o8 x (List.mem_of_mem_drop hx)) hfu
    have hsW := signW_ok o9 hoW
    have e8 := m_writtenIn (d + 19) m2.2.1 o9 (show t < 8 by omega) (m2.2.2.2.2.2.2.1 t ht).2.2.2 hoW f2
    have fT := fr_trans e3 f3
    have k2 := kn_tM (tM_tW fT) kk
    have ke := (k2.2 a ha t ht).2
    rw [hK] at ke
    have l1 := wN_lt hsW
    have l2 := wN_lt hv
    have el : lnK G t v (frm G 0 u (stW b)) (r + 1) k = if signW (gsg G t) (ownR (gvV G) (gLF G) 0 ((gow G t).drop k) (frm G 0 u (stW b))) = v then some k else lnK G t v (frm G 0 u (stW b)) r (k + 1) := rfl
    by_cases hq : signW (gsg G t) (ownR (gvV G) (gLF G) 0 ((gow G t).drop k) (frm G 0 u (stW b))) = v
    · rw [if_pos hq] at el
      rw [el]
      refine ⟨h2, ?_, fT⟩
      rw [hq] at e8
      rw [bX11_lent_70]
      simp (disch := first | omega | rfl | assumption) only [m.2.1 11 rfl, d3, m.2.1 42 rfl, s1, e1, bX11_lent_98, f1, bX11_lent_105, e8, bX11_lent_110, m2.2.1 41 rfl, ke, numO_some, q_cl, q_ps, q_pn, bI_t, bI_f, gI_same, gI_ne, gR_pI, gJ_pI, gV_pI, gN_pI, gC_pI, gS_pI, gI_pJ, gR_pJ, gV_pJ, gN_pJ, gJ_same, gJ_ne, gI_pR, gJ_pR, gV_pR, gN_pR, gR_same, gR_ne, zin_t, zin_f, x_ltt, x_ltf, x_let, x_lef, x_eqt, x_eqf, n_0, n_1, n_2, n_3, n_4, n_5, n_6, n_7, n_8, n_9, n_10, n_11, n_12, n_16, n_19, n_20, n_24, n_25, n_32, n_40, n_48, n_50, n_60, n_64, n_80, n_96, n_114, n_684, n_1000, n_9330, n_16806, n_1000000, n_5764800, ↓n_m, m_ltI, m_leI, m_lt', m_le', m_eq, m_eq', m_add, m_sub, mm_lt, mm_le, mm_eq, q_sub, nI_add, q_mul, nI_clamp, bz_0, bz_1, q_bzb, b_0, b_1, b_ft, b_tf, ne_eq, not_true_eq_false, not_false_eq_true, decide_true, decide_false, Bool.and_self, Bool.false_and, Bool.and_false, Bool.and_true, Bool.true_and, Bool.not_true, Bool.not_false, ↓reduceIte]
    · rw [if_neg hq] at el
      have hq2 : ¬ wN (signW (gsg G t) (ownR (gvV G) (gLF G) 0 ((gow G t).drop k) (frm G 0 u (stW b)))) = wN v := fun z => hq (wN_inj hsW hv z)
      obtain ⟨h', q1, q2⟩ := ih (k + 1) h2 (by omega) m2 k2 (spr_tW fT hs)
      rw [el]
      refine ⟨h', ?_, fr_trans fT q2⟩
      rw [← q1, bX11_lent_70]
      simp (disch := first | omega | rfl | assumption) only [m.2.1 11 rfl, d3, m.2.1 42 rfl, s1, e1, bX11_lent_98, f1, bX11_lent_105, e8, bX11_lent_110, m2.2.1 41 rfl, ke, numO_some, bX11_lent_133, q_cl, q_ps, q_pn, bI_t, bI_f, gI_same, gI_ne, gR_pI, gJ_pI, gV_pI, gN_pI, gC_pI, gS_pI, gI_pJ, gR_pJ, gV_pJ, gN_pJ, gJ_same, gJ_ne, gI_pR, gJ_pR, gV_pR, gN_pR, gR_same, gR_ne, zin_t, zin_f, x_ltt, x_ltf, x_let, x_lef, x_eqt, x_eqf, n_0, n_1, n_2, n_3, n_4, n_5, n_6, n_7, n_8, n_9, n_10, n_11, n_12, n_16, n_19, n_20, n_24, n_25, n_32, n_40, n_48, n_50, n_60, n_64, n_80, n_96, n_114, n_684, n_1000, n_9330, n_16806, n_1000000, n_5764800, ↓n_m, m_ltI, m_leI, m_lt', m_le', m_eq, m_eq', m_add, m_sub, mm_lt, mm_le, mm_eq, q_sub, nI_add, q_mul, nI_clamp, bz_0, bz_1, q_bzb, b_0, b_1, b_ft, b_tf, ne_eq, not_true_eq_false, not_false_eq_true, decide_true, decide_false, Bool.and_self, Bool.false_and, Bool.and_false, Bool.and_true, Bool.true_and, Bool.not_true, Bool.not_false, ↓reduceIte]
theorem m_lnU (d : Nat) {G : Gh} {nM a t b : Nat} {K : Nat → Nat → Option (List Nat)} (ha : a < nM) (ht : t < gnT G) {v : List Nat} (hv : isW v) (hK : K a t = some v) (hb : isW (stW b)) (x2 : Int32) : ∀ (r u : Nat) (u5 : z_V) (h : z_H), u + r = gnT G → mT h G 0 → kn h G nM K → spr h G 0 (stW b) →
    ∃ h', EX (d + 20) 204 58 [z_R 49100 0, z_I (nI a), z_I x2, z_I (nI t), z_I (nI u), u5] [] h = (match lnU G t v b r u with | some x => some (some (z_I (nI x)), h') | none => some (some (z_I (-1000004)), pI h' 49100 0 35 (gI h' 49100 0 35 + nI 1))) ∧ fr tW h h' := by
  intro r
  induction r with
  | zero =>
    intro u u5 h hu m kk hs
    have h8 := m.1.2.2.2.1
    refine ⟨h, ?_, fr_rfl _ _⟩
    rw [bX11_lent_58]
    simp (disch := first | omega | rfl | assumption) only [m.2.2.2.2.2.1, bX11_lent_145, m_finding, bX11_lent_151, q_cl, q_ps, q_pn, bI_t, bI_f, gI_same, gI_ne, gR_pI, gJ_pI, gV_pI, gN_pI, gC_pI, gS_pI, gI_pJ, gR_pJ, gV_pJ, gN_pJ, gJ_same, gJ_ne, gI_pR, gJ_pR, gV_pR, gN_pR, gR_same, gR_ne, zin_t, zin_f, x_ltt, x_ltf, x_let, x_lef, x_eqt, x_eqf, n_0, n_1, n_2, n_3, n_4, n_5, n_6, n_7, n_8, n_9, n_10, n_11, n_12, n_16, n_19, n_20, n_24, n_25, n_32, n_40, n_48, n_50, n_60, n_64, n_80, n_96, n_114, n_684, n_1000, n_9330, n_16806, n_1000000, n_5764800, ↓n_m, m_ltI, m_leI, m_lt', m_le', m_eq, m_eq', m_add, m_sub, mm_lt, mm_le, mm_eq, q_sub, nI_add, q_mul, nI_clamp, bz_0, bz_1, q_bzb, b_0, b_1, b_ft, b_tf, ne_eq, not_true_eq_false, not_false_eq_true, decide_true, decide_false, Bool.and_self, Bool.false_and, Bool.and_false, Bool.and_true, Bool.true_and, Bool.not_true, Bool.not_false, ↓reduceIte]
    rfl
  | succ r ih =>
    intro u u5 h hu m kk hs
    have h8 := m.1.2.2.2.1
    have hun : u < gnT G := by omega
    have o7 := (m.1.2.2.2.2.2 t ht).1
    obtain ⟨d2, d3, o3, d4⟩ := m.2.2.2.2.2.2.1 t ht
    have e3 : lnU G t v b (r + 1) u = if u = t then lnU G t v b r (u + 1) else match lnK G t v (frm G 0 u (stW b)) ((gow G t).length + 1) 0 with
      | some k => some (10 * u + k)
      | none => lnU G t v b r (u + 1) := rfl
    by_cases hq : u = t
    · rw [if_pos hq] at e3
      obtain ⟨h', q1, q2⟩ := ih (u + 1) (z_I (nI 0)) h (by omega) m kk hs
      rw [e3]
      refine ⟨h', ?_, q2⟩
      rw [← q1, bX11_lent_58]
      simp (disch := first | omega | rfl | assumption) only [m.2.2.2.2.2.1, bX11_lent_70, m.2.1 11 rfl, d3, bX11_lent_139, q_cl, q_ps, q_pn, bI_t, bI_f, gI_same, gI_ne, gR_pI, gJ_pI, gV_pI, gN_pI, gC_pI, gS_pI, gI_pJ, gR_pJ, gV_pJ, gN_pJ, gJ_same, gJ_ne, gI_pR, gJ_pR, gV_pR, gN_pR, gR_same, gR_ne, zin_t, zin_f, x_ltt, x_ltf, x_let, x_lef, x_eqt, x_eqf, n_0, n_1, n_2, n_3, n_4, n_5, n_6, n_7, n_8, n_9, n_10, n_11, n_12, n_16, n_19, n_20, n_24, n_25, n_32, n_40, n_48, n_50, n_60, n_64, n_80, n_96, n_114, n_684, n_1000, n_9330, n_16806, n_1000000, n_5764800, ↓n_m, m_ltI, m_leI, m_lt', m_le', m_eq, m_eq', m_add, m_sub, mm_lt, mm_le, mm_eq, q_sub, nI_add, q_mul, nI_clamp, bz_0, bz_1, q_bzb, b_0, b_1, b_ft, b_tf, ne_eq, not_true_eq_false, not_false_eq_true, decide_true, decide_false, Bool.and_self, Bool.false_and, Bool.and_false, Bool.and_true, Bool.true_and, Bool.not_true, Bool.not_false, ↓reduceIte]
    · rw [if_neg hq] at e3
      obtain ⟨h1, p1, p2⟩ := m_lnK d ha ht hun hq hv hK hb x2 ((gow G t).length + 1) 0 h (by omega) m kk hs
      rw [e3]
      cases hk : lnK G t v (frm G 0 u (stW b)) ((gow G t).length + 1) 0 with
      | some j =>
        rw [hk] at p1
        refine ⟨h1, ?_, p2⟩
        rw [bX11_lent_58]
        simp (disch := first | omega | rfl | assumption) only [m.2.2.2.2.2.1, q_cl, q_ps, q_pn, bI_t, bI_f, gI_same, gI_ne, gR_pI, gJ_pI, gV_pI, gN_pI, gC_pI, gS_pI, gI_pJ, gR_pJ, gV_pJ, gN_pJ, gJ_same, gJ_ne, gI_pR, gJ_pR, gV_pR, gN_pR, gR_same, gR_ne, zin_t, zin_f, x_ltt, x_ltf, x_let, x_lef, x_eqt, x_eqf, n_0, n_1, n_2, n_3, n_4, n_5, n_6, n_7, n_8, n_9, n_10, n_11, n_12, n_16, n_19, n_20, n_24, n_25, n_32, n_40, n_48, n_50, n_60, n_64, n_80, n_96, n_114, n_684, n_1000, n_9330, n_16806, n_1000000, n_5764800, ↓n_m, m_ltI, m_leI, m_lt', m_le', m_eq, m_eq', m_add, m_sub, mm_lt, mm_le, mm_eq, q_sub, nI_add, q_mul, nI_clamp, bz_0, bz_1, q_bzb, b_0, b_1, b_ft, b_tf, ne_eq, not_true_eq_false, not_false_eq_true, decide_true, decide_false, Bool.and_self, Bool.false_and, Bool.and_false, Bool.and_true, Bool.true_and, Bool.not_true, Bool.not_false, ↓reduceIte]
        exact p1
      | none =>
        rw [hk] at p1
        obtain ⟨h', q1, q2⟩ := ih (u + 1) (z_I (nI ((gow G t).length + 1))) h1 (by omega) (mT_tW p2 m) (kn_tM (tM_tW p2) kk) (spr_tW p2 hs)
        refine ⟨h', ?_, fr_trans p2 q2⟩
        have p1' : EX (d + 20) 204 70 [z_R 49100 0, z_I (nI a), z_I x2, z_I (nI t), z_I (nI u), z_I (nI 0)] [] h = EX (d + 20) 204 139 [z_R 49100 0, z_I (nI a), z_I x2, z_I (nI t), z_I (nI u), z_I (nI ((gow G t).length + 1))] [] h1 := p1
        rw [← q1, bX11_lent_58]
        simp (disch := first | omega | rfl | assumption) only [m.2.2.2.2.2.1, p1', bX11_lent_139, q_cl, q_ps, q_pn, bI_t, bI_f, gI_same, gI_ne, gR_pI, gJ_pI, gV_pI, gN_pI, gC_pI, gS_pI, gI_pJ, gR_pJ, gV_pJ, gN_pJ, gJ_same, gJ_ne, gI_pR, gJ_pR, gV_pR, gN_pR, gR_same, gR_ne, zin_t, zin_f, x_ltt, x_ltf, x_let, x_lef, x_eqt, x_eqf, n_0, n_1, n_2, n_3, n_4, n_5, n_6, n_7, n_8, n_9, n_10, n_11, n_12, n_16, n_19, n_20, n_24, n_25, n_32, n_40, n_48, n_50, n_60, n_64, n_80, n_96, n_114, n_684, n_1000, n_9330, n_16806, n_1000000, n_5764800, ↓n_m, m_ltI, m_leI, m_lt', m_le', m_eq, m_eq', m_add, m_sub, mm_lt, mm_le, mm_eq, q_sub, nI_add, q_mul, nI_clamp, bz_0, bz_1, q_bzb, b_0, b_1, b_ft, b_tf, ne_eq, not_true_eq_false, not_false_eq_true, decide_true, decide_false, Bool.and_self, Bool.false_and, Bool.and_false, Bool.and_true, Bool.true_and, Bool.not_true, Bool.not_false, ↓reduceIte]
theorem lnU_lt0 {G : Gh} {t : Nat} {v : List Nat} {b : Nat} (ho : (gow G t).length ≤ 6) : ∀ r u x, lnU G t v b r u = some x → x < 10 * (u + r) + 10 := by
  intro r
  induction r with
  | zero => intro u x h; cases h
  | succ r ih =>
    intro u x h
    have h' : (if u = t then lnU G t v b r (u + 1) else match lnK G t v (frm G 0 u (stW b)) ((gow G t).length + 1) 0 with
      | some k => some (10 * u + k)
      | none => lnU G t v b r (u + 1)) = some x := h
    split at h'
    · have := ih _ _ h'; omega
    · cases hk : lnK G t v (frm G 0 u (stW b)) ((gow G t).length + 1) 0 with
      | some k =>
        rw [hk] at h'
        have h2 := Option.some.inj h'
        have := lnK_lt _ _ _ hk
        omega
      | none =>
        rw [hk] at h'
        have := ih _ _ h'; omega
theorem lnU_lt {G : Gh} {t : Nat} {v : List Nat} {b x : Nat} (h : lnU G t v b (gnT G) 0 = some x) (hn : gnT G ≤ 8) (ho : (gow G t).length ≤ 6) : x < 2 ^ 31 := by
  have := lnU_lt0 ho _ _ _ h
  omega
theorem op_lent {N : Nat} {xs : Nat → Int32} (d : Nat) {h : z_H} (hI : Inv h N xs) (x1 x2 x3 : Int32) : OKc N xs (d + 60) 108 204 [z_I x1, z_I x2, z_I x3] h := by
  obtain ⟨G, hG⟩ := hI
  have m := I_m hG
  have c := I_c hG
  obtain ⟨a1, a2, a3, -⟩ := I_T hG
  have nl : gnT G < 2 ^ 31 := by omega
  obtain ⟨nM, nF, fm, ft, fy, fw, hF⟩ := I_fn hG
  have l1 := hF.1
  have l3 := hF.2.2.1
  have l4 := hF.2.2.2.1
  have nm : nM < 2 ^ 31 := by omega
  cases g1 : z_in x1 nM with
  | false => exact OK_ref2 hG (-1000001) (by simp (disch := first | omega | rfl | assumption) only [bX10_lent_0, bX10_lent_6, bX10_lent_14, bX10_lent_17, bX10_lent_23, bX10_lent_24, bX10_lent_40, bX10_lent_47, bX10_lent_54, bX10_lent_65, bX10_lent_78, bX10_lent_79, bX10_lent_97, bX10_lent_111, bX10_lent_114, bX10_lent_116, rX10_lent, c_noMatch _ c nm l3, g1, c_finding, q_cl, q_ps, q_pn, bI_t, bI_f, gI_same, gI_ne, gR_pI, gJ_pI, gV_pI, gN_pI, gC_pI, gS_pI, gI_pJ, gR_pJ, gV_pJ, gN_pJ, gJ_same, gJ_ne, gI_pR, gJ_pR, gV_pR, gN_pR, gR_same, gR_ne, zin_t, zin_f, x_ltt, x_ltf, x_let, x_lef, x_eqt, x_eqf, n_0, n_1, n_2, n_3, n_4, n_5, n_6, n_7, n_8, n_9, n_10, n_11, n_12, n_16, n_19, n_20, n_24, n_25, n_32, n_40, n_48, n_50, n_60, n_64, n_80, n_96, n_114, n_684, n_1000, n_9330, n_16806, n_1000000, n_5764800, ↓n_m, m_ltI, m_leI, m_lt', m_le', m_eq, m_eq', m_add, m_sub, mm_lt, mm_le, mm_eq, q_sub, nI_add, q_mul, nI_clamp, bz_0, bz_1, q_bzb, b_0, b_1, b_ft, b_tf, ne_eq, not_true_eq_false, not_false_eq_true, decide_true, decide_false, Bool.and_self, Bool.false_and, Bool.and_false, Bool.and_true, Bool.true_and, Bool.not_true, Bool.not_false, ↓reduceIte]) (by simp (disch := first | omega | rfl | assumption) only [bX11_lent_0, bX11_lent_5, bX11_lent_12, bX11_lent_20, bX11_lent_23, bX11_lent_29, bX11_lent_30, bX11_lent_35, bX11_lent_40, bX11_lent_54, bX11_lent_55, bX11_lent_98, bX11_lent_105, bX11_lent_110, bX11_lent_133, bX11_lent_139, bX11_lent_145, bX11_lent_151, rX11_lent, m_isMatch (h := (pI h 10090 0 9 (gI h 10090 0 9 + nI 1))) _ nm (by simp (disch := first | omega | rfl | assumption) only [l4, q_cl, q_ps, q_pn, bI_t, bI_f, gI_same, gI_ne, gR_pI, gJ_pI, gV_pI, gN_pI, gC_pI, gS_pI, gI_pJ, gR_pJ, gV_pJ, gN_pJ, gJ_same, gJ_ne, gI_pR, gJ_pR, gV_pR, gN_pR, gR_same, gR_ne, zin_t, zin_f, x_ltt, x_ltf, x_let, x_lef, x_eqt, x_eqf, n_0, n_1, n_2, n_3, n_4, n_5, n_6, n_7, n_8, n_9, n_10, n_11, n_12, n_16, n_19, n_20, n_24, n_25, n_32, n_40, n_48, n_50, n_60, n_64, n_80, n_96, n_114, n_684, n_1000, n_9330, n_16806, n_1000000, n_5764800, ↓n_m, m_ltI, m_leI, m_lt', m_le', m_eq, m_eq', m_add, m_sub, mm_lt, mm_le, mm_eq, q_sub, nI_add, q_mul, nI_clamp, bz_0, bz_1, q_bzb, b_0, b_1, b_ft, b_tf, ne_eq, not_true_eq_false, not_false_eq_true, decide_true, decide_false, Bool.and_self, Bool.false_and, Bool.and_false, Bool.and_true, Bool.true_and, Bool.not_true, Bool.not_false, ↓reduceIte]), g1, m_finding, q_cl, q_ps, q_pn, bI_t, bI_f, gI_same, gI_ne, gR_pI, gJ_pI, gV_pI, gN_pI, gC_pI, gS_pI, gI_pJ, gR_pJ, gV_pJ, gN_pJ, gJ_same, gJ_ne, gI_pR, gJ_pR, gV_pR, gN_pR, gR_same, gR_ne, zin_t, zin_f, x_ltt, x_ltf, x_let, x_lef, x_eqt, x_eqf, n_0, n_1, n_2, n_3, n_4, n_5, n_6, n_7, n_8, n_9, n_10, n_11, n_12, n_16, n_19, n_20, n_24, n_25, n_32, n_40, n_48, n_50, n_60, n_64, n_80, n_96, n_114, n_684, n_1000, n_9330, n_16806, n_1000000, n_5764800, ↓n_m, m_ltI, m_leI, m_lt', m_le', m_eq, m_eq', m_add, m_sub, mm_lt, mm_le, mm_eq, q_sub, nI_add, q_mul, nI_clamp, bz_0, bz_1, q_bzb, b_0, b_1, b_ft, b_tf, ne_eq, not_true_eq_false, not_false_eq_true, decide_true, decide_false, Bool.and_self, Bool.false_and, Bool.and_false, Bool.and_true, Bool.true_and, Bool.not_true, Bool.not_false, ↓reduceIte])
  | true =>
    cases g4 : z_in x2 1000 with
    | false => exact OK_ref2 hG (-1000001) (by simp (disch := first | omega | rfl | assumption) only [bX10_lent_0, bX10_lent_6, bX10_lent_14, bX10_lent_17, bX10_lent_23, bX10_lent_24, bX10_lent_40, bX10_lent_47, bX10_lent_54, bX10_lent_65, bX10_lent_78, bX10_lent_79, bX10_lent_97, bX10_lent_111, bX10_lent_114, bX10_lent_116, rX10_lent, c_noMatch _ c nm l3, g1, g4, c_finding, q_cl, q_ps, q_pn, bI_t, bI_f, gI_same, gI_ne, gR_pI, gJ_pI, gV_pI, gN_pI, gC_pI, gS_pI, gI_pJ, gR_pJ, gV_pJ, gN_pJ, gJ_same, gJ_ne, gI_pR, gJ_pR, gV_pR, gN_pR, gR_same, gR_ne, zin_t, zin_f, x_ltt, x_ltf, x_let, x_lef, x_eqt, x_eqf, n_0, n_1, n_2, n_3, n_4, n_5, n_6, n_7, n_8, n_9, n_10, n_11, n_12, n_16, n_19, n_20, n_24, n_25, n_32, n_40, n_48, n_50, n_60, n_64, n_80, n_96, n_114, n_684, n_1000, n_9330, n_16806, n_1000000, n_5764800, ↓n_m, m_ltI, m_leI, m_lt', m_le', m_eq, m_eq', m_add, m_sub, mm_lt, mm_le, mm_eq, q_sub, nI_add, q_mul, nI_clamp, bz_0, bz_1, q_bzb, b_0, b_1, b_ft, b_tf, ne_eq, not_true_eq_false, not_false_eq_true, decide_true, decide_false, Bool.and_self, Bool.false_and, Bool.and_false, Bool.and_true, Bool.true_and, Bool.not_true, Bool.not_false, ↓reduceIte]) (by simp (disch := first | omega | rfl | assumption) only [bX11_lent_0, bX11_lent_5, bX11_lent_12, bX11_lent_20, bX11_lent_23, bX11_lent_29, bX11_lent_30, bX11_lent_35, bX11_lent_40, bX11_lent_54, bX11_lent_55, bX11_lent_98, bX11_lent_105, bX11_lent_110, bX11_lent_133, bX11_lent_139, bX11_lent_145, bX11_lent_151, rX11_lent, m_isMatch (h := (pI h 10090 0 9 (gI h 10090 0 9 + nI 1))) _ nm (by simp (disch := first | omega | rfl | assumption) only [l4, q_cl, q_ps, q_pn, bI_t, bI_f, gI_same, gI_ne, gR_pI, gJ_pI, gV_pI, gN_pI, gC_pI, gS_pI, gI_pJ, gR_pJ, gV_pJ, gN_pJ, gJ_same, gJ_ne, gI_pR, gJ_pR, gV_pR, gN_pR, gR_same, gR_ne, zin_t, zin_f, x_ltt, x_ltf, x_let, x_lef, x_eqt, x_eqf, n_0, n_1, n_2, n_3, n_4, n_5, n_6, n_7, n_8, n_9, n_10, n_11, n_12, n_16, n_19, n_20, n_24, n_25, n_32, n_40, n_48, n_50, n_60, n_64, n_80, n_96, n_114, n_684, n_1000, n_9330, n_16806, n_1000000, n_5764800, ↓n_m, m_ltI, m_leI, m_lt', m_le', m_eq, m_eq', m_add, m_sub, mm_lt, mm_le, mm_eq, q_sub, nI_add, q_mul, nI_clamp, bz_0, bz_1, q_bzb, b_0, b_1, b_ft, b_tf, ne_eq, not_true_eq_false, not_false_eq_true, decide_true, decide_false, Bool.and_self, Bool.false_and, Bool.and_false, Bool.and_true, Bool.true_and, Bool.not_true, Bool.not_false, ↓reduceIte]), g1, m_isYear, g4, m_finding, q_cl, q_ps, q_pn, bI_t, bI_f, gI_same, gI_ne, gR_pI, gJ_pI, gV_pI, gN_pI, gC_pI, gS_pI, gI_pJ, gR_pJ, gV_pJ, gN_pJ, gJ_same, gJ_ne, gI_pR, gJ_pR, gV_pR, gN_pR, gR_same, gR_ne, zin_t, zin_f, x_ltt, x_ltf, x_let, x_lef, x_eqt, x_eqf, n_0, n_1, n_2, n_3, n_4, n_5, n_6, n_7, n_8, n_9, n_10, n_11, n_12, n_16, n_19, n_20, n_24, n_25, n_32, n_40, n_48, n_50, n_60, n_64, n_80, n_96, n_114, n_684, n_1000, n_9330, n_16806, n_1000000, n_5764800, ↓n_m, m_ltI, m_leI, m_lt', m_le', m_eq, m_eq', m_add, m_sub, mm_lt, mm_le, mm_eq, q_sub, nI_add, q_mul, nI_clamp, bz_0, bz_1, q_bzb, b_0, b_1, b_ft, b_tf, ne_eq, not_true_eq_false, not_false_eq_true, decide_true, decide_false, Bool.and_self, Bool.false_and, Bool.and_false, Bool.and_true, Bool.true_and, Bool.not_true, Bool.not_false, ↓reduceIte])
    | true =>
      obtain ⟨a, ha, -, rfl⟩ := zin_of g1
      obtain ⟨y, hy, -, rfl⟩ := zin_of g4
      cases g5 : z_in x3 (gnT G) with
      | false => exact OK_ref2 hG (-1000001) (by simp (disch := first | omega | rfl | assumption) only [bX10_lent_0, bX10_lent_6, bX10_lent_14, bX10_lent_17, bX10_lent_23, bX10_lent_24, bX10_lent_40, bX10_lent_47, bX10_lent_54, bX10_lent_65, bX10_lent_78, bX10_lent_79, bX10_lent_97, bX10_lent_111, bX10_lent_114, bX10_lent_116, rX10_lent, c_noMatch _ c nm l3, g1, g4, c_noTongue (h := h) _ nl c a1, g5, c_finding, q_cl, q_ps, q_pn, bI_t, bI_f, gI_same, gI_ne, gR_pI, gJ_pI, gV_pI, gN_pI, gC_pI, gS_pI, gI_pJ, gR_pJ, gV_pJ, gN_pJ, gJ_same, gJ_ne, gI_pR, gJ_pR, gV_pR, gN_pR, gR_same, gR_ne, zin_t, zin_f, x_ltt, x_ltf, x_let, x_lef, x_eqt, x_eqf, n_0, n_1, n_2, n_3, n_4, n_5, n_6, n_7, n_8, n_9, n_10, n_11, n_12, n_16, n_19, n_20, n_24, n_25, n_32, n_40, n_48, n_50, n_60, n_64, n_80, n_96, n_114, n_684, n_1000, n_9330, n_16806, n_1000000, n_5764800, ↓n_m, m_ltI, m_leI, m_lt', m_le', m_eq, m_eq', m_add, m_sub, mm_lt, mm_le, mm_eq, q_sub, nI_add, q_mul, nI_clamp, bz_0, bz_1, q_bzb, b_0, b_1, b_ft, b_tf, ne_eq, not_true_eq_false, not_false_eq_true, decide_true, decide_false, Bool.and_self, Bool.false_and, Bool.and_false, Bool.and_true, Bool.true_and, Bool.not_true, Bool.not_false, ↓reduceIte]) (by simp (disch := first | omega | rfl | assumption) only [bX11_lent_0, bX11_lent_5, bX11_lent_12, bX11_lent_20, bX11_lent_23, bX11_lent_29, bX11_lent_30, bX11_lent_35, bX11_lent_40, bX11_lent_54, bX11_lent_55, bX11_lent_98, bX11_lent_105, bX11_lent_110, bX11_lent_133, bX11_lent_139, bX11_lent_145, bX11_lent_151, rX11_lent, m_isMatch (h := (pI h 10090 0 9 (gI h 10090 0 9 + nI 1))) _ nm (by simp (disch := first | omega | rfl | assumption) only [l4, q_cl, q_ps, q_pn, bI_t, bI_f, gI_same, gI_ne, gR_pI, gJ_pI, gV_pI, gN_pI, gC_pI, gS_pI, gI_pJ, gR_pJ, gV_pJ, gN_pJ, gJ_same, gJ_ne, gI_pR, gJ_pR, gV_pR, gN_pR, gR_same, gR_ne, zin_t, zin_f, x_ltt, x_ltf, x_let, x_lef, x_eqt, x_eqf, n_0, n_1, n_2, n_3, n_4, n_5, n_6, n_7, n_8, n_9, n_10, n_11, n_12, n_16, n_19, n_20, n_24, n_25, n_32, n_40, n_48, n_50, n_60, n_64, n_80, n_96, n_114, n_684, n_1000, n_9330, n_16806, n_1000000, n_5764800, ↓n_m, m_ltI, m_leI, m_lt', m_le', m_eq, m_eq', m_add, m_sub, mm_lt, mm_le, mm_eq, q_sub, nI_add, q_mul, nI_clamp, bz_0, bz_1, q_bzb, b_0, b_1, b_ft, b_tf, ne_eq, not_true_eq_false, not_false_eq_true, decide_true, decide_false, Bool.and_self, Bool.false_and, Bool.and_false, Bool.and_true, Bool.true_and, Bool.not_true, Bool.not_false, ↓reduceIte]), g1, m_isYear, g4, m_isTongue (h := (pI h 10090 0 9 (gI h 10090 0 9 + nI 1))) _ nl (by simp (disch := first | omega | rfl | assumption) only [a2, q_cl, q_ps, q_pn, bI_t, bI_f, gI_same, gI_ne, gR_pI, gJ_pI, gV_pI, gN_pI, gC_pI, gS_pI, gI_pJ, gR_pJ, gV_pJ, gN_pJ, gJ_same, gJ_ne, gI_pR, gJ_pR, gV_pR, gN_pR, gR_same, gR_ne, zin_t, zin_f, x_ltt, x_ltf, x_let, x_lef, x_eqt, x_eqf, n_0, n_1, n_2, n_3, n_4, n_5, n_6, n_7, n_8, n_9, n_10, n_11, n_12, n_16, n_19, n_20, n_24, n_25, n_32, n_40, n_48, n_50, n_60, n_64, n_80, n_96, n_114, n_684, n_1000, n_9330, n_16806, n_1000000, n_5764800, ↓n_m, m_ltI, m_leI, m_lt', m_le', m_eq, m_eq', m_add, m_sub, mm_lt, mm_le, mm_eq, q_sub, nI_add, q_mul, nI_clamp, bz_0, bz_1, q_bzb, b_0, b_1, b_ft, b_tf, ne_eq, not_true_eq_false, not_false_eq_true, decide_true, decide_false, Bool.and_self, Bool.false_and, Bool.and_false, Bool.and_true, Bool.true_and, Bool.not_true, Bool.not_false, ↓reduceIte]), g5, m_finding, q_cl, q_ps, q_pn, bI_t, bI_f, gI_same, gI_ne, gR_pI, gJ_pI, gV_pI, gN_pI, gC_pI, gS_pI, gI_pJ, gR_pJ, gV_pJ, gN_pJ, gJ_same, gJ_ne, gI_pR, gJ_pR, gV_pR, gN_pR, gR_same, gR_ne, zin_t, zin_f, x_ltt, x_ltf, x_let, x_lef, x_eqt, x_eqf, n_0, n_1, n_2, n_3, n_4, n_5, n_6, n_7, n_8, n_9, n_10, n_11, n_12, n_16, n_19, n_20, n_24, n_25, n_32, n_40, n_48, n_50, n_60, n_64, n_80, n_96, n_114, n_684, n_1000, n_9330, n_16806, n_1000000, n_5764800, ↓n_m, m_ltI, m_leI, m_lt', m_le', m_eq, m_eq', m_add, m_sub, mm_lt, mm_le, mm_eq, q_sub, nI_add, q_mul, nI_clamp, bz_0, bz_1, q_bzb, b_0, b_1, b_ft, b_tf, ne_eq, not_true_eq_false, not_false_eq_true, decide_true, decide_false, Bool.and_self, Bool.false_and, Bool.and_false, Bool.and_true, Bool.true_and, Bool.not_true, Bool.not_false, ↓reduceIte])
      | true =>
        obtain ⟨t, ht, -, rfl⟩ := zin_of g5
        obtain ⟨h1, h2, e1, c1, e2, c2, I2, hF2, hwg, hfr, hwt, hok⟩ := cls_gw d hG hF ha hy
        have l42 : gI h2 49100 0 14 = nI nM := hF2.2.2.2.1
        have ec := c_best (d + 58) hwg
        have hb := (bstF_lt (fun s => fitC G 0 (fun t => knF fm ft fy fw a t y nF) s (gnT G)) 9330).2 (by omega)
        have key : ∀ (e : Int32) (hh : z_H), InvG hh N xs G e → iFnG hh (gnT G) nM nF fm ft fy fw → ∃ h3 h4, Rn (d + 59) 193 [z_R 49100 0, z_I (nI y)] hh = some (none, h3) ∧ Rn (d + 59) 202 [z_R 49100 0, z_I (nI a)] h3 = some (some (z_I (nI (bs (brk G (fun t => knF fm ft fy fw a t y nF) (bstF (fun s => fitC G 0 (fun t => knF fm ft fy fw a t y nF) s (gnT G)) 9330)) (gnT G)))), h4) ∧ mT h4 G 0 ∧ kn h4 G nM (fun m t => knF fm ft fy fw m t y nF) ∧ spr h4 G 0 (stW (bstF (fun s => fitC G 0 (fun t => knF fm ft fy fw a t y nF) s (gnT G)) 9330)) ∧ frX [12] hh h4 := by
          intro e hh q1 q2
          obtain ⟨h3, e3, kn3, mt3, F3⟩ := m_learns (d + 57) q1 q2 hy
          obtain ⟨h4, k1, k2, k3, k5, k4⟩ := m_breakersOf (d + 37) ha mt3 kn3
          exact ⟨h3, h4, e3, k1, k2, k3, k5, frX_trans F3 (frX_fr k4 tM_g)⟩
        generalize bstF (fun s => fitC G 0 (fun t => knF fm ft fy fw a t y nF) s (gnT G)) 9330 = b at ec hb key
        have hbW : isW (stW b) := st_isW (by omega)
        have hbr := rowN_lt' hbW
        have hr := hwg.1
        have eu := c_unfit (d + 57) I2 (want := (fun t => knF fm ft fy fw a t y nF)) (fun v _ => hok v) hwt hfr hb
        have hbl := bs_lt (brk G (fun t => knF fm ft fy fw a t y nF) b) (gnT G)
        have h28 : 2 ^ gnT G ≤ 2 ^ 8 := Nat.pow_le_pow_right (by decide) a3
        have hbit : (bs (brk G (fun t => knF fm ft fy fw a t y nF) b) (gnT G)).testBit t = brk G (fun t => knF fm ft fy fw a t y nF) b t := by rw [bs_bit]; simp [ht]
        have hb1 : z_ush (nI (bs (brk G (fun t => knF fm ft fy fw a t y nF) b) (gnT G))) (nI t) &&& nI 1 = bI (brk G (fun t => knF fm ft fy fw a t y nF) b t) := by rw [q_bit (by omega) (by omega), hbit]
        have hb2 : (nI (bs (brk G (fun t => knF fm ft fy fw a t y nF) b) (gnT G)) >>> (nI t &&& 31)) &&& nI 1 = bI (brk G (fun t => knF fm ft fy fw a t y nF) b t) := by rw [q_bitS (by omega) (by omega), hbit]
        have I3 := Inv_cf I2
        have hF3 : iFnG (pI h2 10090 0 9 (gI h2 10090 0 9 + nI 1)) (gnT G) nM nF fm ft fy fw := iFnG_fr (S := [0]) (frX_pI2 0 rfl (by decide) _ _) (by decide) hF2
        have a22 : gI h2 49100 0 9 = nI (gnT G) := (I_T I2).2.1
        cases hB : brk G (fun t => knF fm ft fy fw a t y nF) b t with
        | false =>
          rw [hB] at hb1 hb2
          obtain ⟨h3, h4, e3, k1, k2, k3, k5, F4⟩ := key 1 _ I3 hF3
          have e3' : Rn (d + 59) 193 [z_R 49100 0, z_I (nI y)] (pI h2 10090 0 9 (gI h2 10090 0 9 + nI 1)) = some (none, h3) := e3
          refine OK_fin (G := G) (h1 := h2) (h2 := h4) (-1000005) ?_ ?_ (Inv_scr F4 I3)
          · simp (disch := first | omega | rfl | assumption) only [bX10_lent_0, bX10_lent_6, bX10_lent_14, bX10_lent_17, bX10_lent_23, bX10_lent_24, bX10_lent_40, bX10_lent_47, bX10_lent_54, bX10_lent_65, bX10_lent_78, bX10_lent_79, bX10_lent_97, bX10_lent_111, bX10_lent_114, bX10_lent_116, rX10_lent, c_noMatch _ c nm l3, g1, g4, c.1 10090 3 rfl, c.1 10090 2 rfl, c.1 9010 1 rfl, e1, c1.1 10090 2 rfl, e2, c2.1 10090 2 rfl, c_noTongue (h := h) _ nl c a1, g5, ec, eu, hb1, c_finding, q_cl, q_ps, q_pn, bI_t, bI_f, gI_same, gI_ne, gR_pI, gJ_pI, gV_pI, gN_pI, gC_pI, gS_pI, gI_pJ, gR_pJ, gV_pJ, gN_pJ, gJ_same, gJ_ne, gI_pR, gJ_pR, gV_pR, gN_pR, gR_same, gR_ne, zin_t, zin_f, x_ltt, x_ltf, x_let, x_lef, x_eqt, x_eqf, n_0, n_1, n_2, n_3, n_4, n_5, n_6, n_7, n_8, n_9, n_10, n_11, n_12, n_16, n_19, n_20, n_24, n_25, n_32, n_40, n_48, n_50, n_60, n_64, n_80, n_96, n_114, n_684, n_1000, n_9330, n_16806, n_1000000, n_5764800, ↓n_m, m_ltI, m_leI, m_lt', m_le', m_eq, m_eq', m_add, m_sub, mm_lt, mm_le, mm_eq, q_sub, nI_add, q_mul, nI_clamp, bz_0, bz_1, q_bzb, b_0, b_1, b_ft, b_tf, ne_eq, not_true_eq_false, not_false_eq_true, decide_true, decide_false, Bool.and_self, Bool.false_and, Bool.and_false, Bool.and_true, Bool.true_and, Bool.not_true, Bool.not_false, ↓reduceIte]
          · simp (disch := first | omega | rfl | assumption) only [bX11_lent_0, bX11_lent_5, bX11_lent_12, bX11_lent_20, bX11_lent_23, bX11_lent_29, bX11_lent_30, bX11_lent_35, bX11_lent_40, bX11_lent_54, bX11_lent_55, bX11_lent_98, bX11_lent_105, bX11_lent_110, bX11_lent_133, bX11_lent_139, bX11_lent_145, bX11_lent_151, rX11_lent, m_isMatch (h := pI h2 10090 0 9 (gI h2 10090 0 9 + nI 1)) _ nm (by simp (disch := first | omega | rfl | assumption) only [l42, q_cl, q_ps, q_pn, bI_t, bI_f, gI_same, gI_ne, gR_pI, gJ_pI, gV_pI, gN_pI, gC_pI, gS_pI, gI_pJ, gR_pJ, gV_pJ, gN_pJ, gJ_same, gJ_ne, gI_pR, gJ_pR, gV_pR, gN_pR, gR_same, gR_ne, zin_t, zin_f, x_ltt, x_ltf, x_let, x_lef, x_eqt, x_eqf, n_0, n_1, n_2, n_3, n_4, n_5, n_6, n_7, n_8, n_9, n_10, n_11, n_12, n_16, n_19, n_20, n_24, n_25, n_32, n_40, n_48, n_50, n_60, n_64, n_80, n_96, n_114, n_684, n_1000, n_9330, n_16806, n_1000000, n_5764800, ↓n_m, m_ltI, m_leI, m_lt', m_le', m_eq, m_eq', m_add, m_sub, mm_lt, mm_le, mm_eq, q_sub, nI_add, q_mul, nI_clamp, bz_0, bz_1, q_bzb, b_0, b_1, b_ft, b_tf, ne_eq, not_true_eq_false, not_false_eq_true, decide_true, decide_false, Bool.and_self, Bool.false_and, Bool.and_false, Bool.and_true, Bool.true_and, Bool.not_true, Bool.not_false, ↓reduceIte]), g1, m_isYear, g4, m_isTongue (h := pI h2 10090 0 9 (gI h2 10090 0 9 + nI 1)) _ nl (by simp (disch := first | omega | rfl | assumption) only [a22, q_cl, q_ps, q_pn, bI_t, bI_f, gI_same, gI_ne, gR_pI, gJ_pI, gV_pI, gN_pI, gC_pI, gS_pI, gI_pJ, gR_pJ, gV_pJ, gN_pJ, gJ_same, gJ_ne, gI_pR, gJ_pR, gV_pR, gN_pR, gR_same, gR_ne, zin_t, zin_f, x_ltt, x_ltf, x_let, x_lef, x_eqt, x_eqf, n_0, n_1, n_2, n_3, n_4, n_5, n_6, n_7, n_8, n_9, n_10, n_11, n_12, n_16, n_19, n_20, n_24, n_25, n_32, n_40, n_48, n_50, n_60, n_64, n_80, n_96, n_114, n_684, n_1000, n_9330, n_16806, n_1000000, n_5764800, ↓n_m, m_ltI, m_leI, m_lt', m_le', m_eq, m_eq', m_add, m_sub, mm_lt, mm_le, mm_eq, q_sub, nI_add, q_mul, nI_clamp, bz_0, bz_1, q_bzb, b_0, b_1, b_ft, b_tf, ne_eq, not_true_eq_false, not_false_eq_true, decide_true, decide_false, Bool.and_self, Bool.false_and, Bool.and_false, Bool.and_true, Bool.true_and, Bool.not_true, Bool.not_false, ↓reduceIte]), g5, e3', k1, hb2, m_finding, q_cl, q_ps, q_pn, bI_t, bI_f, gI_same, gI_ne, gR_pI, gJ_pI, gV_pI, gN_pI, gC_pI, gS_pI, gI_pJ, gR_pJ, gV_pJ, gN_pJ, gJ_same, gJ_ne, gI_pR, gJ_pR, gV_pR, gN_pR, gR_same, gR_ne, zin_t, zin_f, x_ltt, x_ltf, x_let, x_lef, x_eqt, x_eqf, n_0, n_1, n_2, n_3, n_4, n_5, n_6, n_7, n_8, n_9, n_10, n_11, n_12, n_16, n_19, n_20, n_24, n_25, n_32, n_40, n_48, n_50, n_60, n_64, n_80, n_96, n_114, n_684, n_1000, n_9330, n_16806, n_1000000, n_5764800, ↓n_m, m_ltI, m_leI, m_lt', m_le', m_eq, m_eq', m_add, m_sub, mm_lt, mm_le, mm_eq, q_sub, nI_add, q_mul, nI_clamp, bz_0, bz_1, q_bzb, b_0, b_1, b_ft, b_tf, ne_eq, not_true_eq_false, not_false_eq_true, decide_true, decide_false, Bool.and_self, Bool.false_and, Bool.and_false, Bool.and_true, Bool.true_and, Bool.not_true, Bool.not_false, ↓reduceIte]
        | true =>
          rw [hB] at hb1 hb2
          obtain ⟨v, hv⟩ : ∃ v, knF fm ft fy fw a t y nF = some v := by
            cases ho : knF fm ft fy fw a t y nF with
            | none =>
              have hB' : (!decide (knF fm ft fy fw a t y nF = none) && !decide (knF fm ft fy fw a t y nF = some (wrt G 0 t (stW b)))) = true := hB
              rw [ho] at hB'
              cases hB'
            | some v => exact ⟨v, rfl⟩
          have hvW := hok t v hv
          have hwt2 : gI h2 8121 0 t = nI (rowN v) := by rw [hwt t ht, hv]; rfl
          have el := c_lender (d + 53) (cT_of I2) ht hvW hbW hwt2
          cases hk : lnU G t v b (gnT G) 0 with
          | none =>
            rw [hk] at el
            have el' : Rn (d + 59) 27 [z_R 9010 0, z_I (nI t), z_I (nI (rowN (stW b)))] h2 = some (some (z_I mI), h2) := el
            obtain ⟨h3, h4, e3, k1, k2, k3, k5, F4⟩ := key 1 _ I3 hF3
            have e3' : Rn (d + 59) 193 [z_R 49100 0, z_I (nI y)] (pI h2 10090 0 9 (gI h2 10090 0 9 + nI 1)) = some (none, h3) := e3
            obtain ⟨h5, r1, r2⟩ := m_lnU (d + 39) (K := (fun m t => knF fm ft fy fw m t y nF)) ha ht hvW hv hbW (nI y) (gnT G) 0 z_U h4 (by omega) k2 k3 k5
            rw [hk] at r1
            refine OK_fin (G := G) (h1 := h2) (h2 := h5) (-1000004) ?_ ?_ (Inv_scr (frX_trans F4 (frX_fr r2 tW_g)) I3)
            · simp (disch := first | omega | rfl | assumption) only [bX10_lent_0, bX10_lent_6, bX10_lent_14, bX10_lent_17, bX10_lent_23, bX10_lent_24, bX10_lent_40, bX10_lent_47, bX10_lent_54, bX10_lent_65, bX10_lent_78, bX10_lent_79, bX10_lent_97, bX10_lent_111, bX10_lent_114, bX10_lent_116, rX10_lent, c_noMatch _ c nm l3, g1, g4, c.1 10090 3 rfl, c.1 10090 2 rfl, c.1 9010 1 rfl, e1, c1.1 10090 2 rfl, e2, c2.1 10090 2 rfl, c_noTongue (h := h) _ nl c a1, g5, ec, eu, hb1, hr.1, one_ne, Nat.sub_self, hr.2.2 b hb, el', c_finding, q_cl, q_ps, q_pn, bI_t, bI_f, gI_same, gI_ne, gR_pI, gJ_pI, gV_pI, gN_pI, gC_pI, gS_pI, gI_pJ, gR_pJ, gV_pJ, gN_pJ, gJ_same, gJ_ne, gI_pR, gJ_pR, gV_pR, gN_pR, gR_same, gR_ne, zin_t, zin_f, x_ltt, x_ltf, x_let, x_lef, x_eqt, x_eqf, n_0, n_1, n_2, n_3, n_4, n_5, n_6, n_7, n_8, n_9, n_10, n_11, n_12, n_16, n_19, n_20, n_24, n_25, n_32, n_40, n_48, n_50, n_60, n_64, n_80, n_96, n_114, n_684, n_1000, n_9330, n_16806, n_1000000, n_5764800, ↓n_m, m_ltI, m_leI, m_lt', m_le', m_eq, m_eq', m_add, m_sub, mm_lt, mm_le, mm_eq, q_sub, nI_add, q_mul, nI_clamp, bz_0, bz_1, q_bzb, b_0, b_1, b_ft, b_tf, ne_eq, not_true_eq_false, not_false_eq_true, decide_true, decide_false, Bool.and_self, Bool.false_and, Bool.and_false, Bool.and_true, Bool.true_and, Bool.not_true, Bool.not_false, ↓reduceIte]
            · simp (disch := first | omega | rfl | assumption) only [bX11_lent_0, bX11_lent_5, bX11_lent_12, bX11_lent_20, bX11_lent_23, bX11_lent_29, bX11_lent_30, bX11_lent_35, bX11_lent_40, bX11_lent_54, bX11_lent_55, bX11_lent_98, bX11_lent_105, bX11_lent_110, bX11_lent_133, bX11_lent_139, bX11_lent_145, bX11_lent_151, rX11_lent, m_isMatch (h := pI h2 10090 0 9 (gI h2 10090 0 9 + nI 1)) _ nm (by simp (disch := first | omega | rfl | assumption) only [l42, q_cl, q_ps, q_pn, bI_t, bI_f, gI_same, gI_ne, gR_pI, gJ_pI, gV_pI, gN_pI, gC_pI, gS_pI, gI_pJ, gR_pJ, gV_pJ, gN_pJ, gJ_same, gJ_ne, gI_pR, gJ_pR, gV_pR, gN_pR, gR_same, gR_ne, zin_t, zin_f, x_ltt, x_ltf, x_let, x_lef, x_eqt, x_eqf, n_0, n_1, n_2, n_3, n_4, n_5, n_6, n_7, n_8, n_9, n_10, n_11, n_12, n_16, n_19, n_20, n_24, n_25, n_32, n_40, n_48, n_50, n_60, n_64, n_80, n_96, n_114, n_684, n_1000, n_9330, n_16806, n_1000000, n_5764800, ↓n_m, m_ltI, m_leI, m_lt', m_le', m_eq, m_eq', m_add, m_sub, mm_lt, mm_le, mm_eq, q_sub, nI_add, q_mul, nI_clamp, bz_0, bz_1, q_bzb, b_0, b_1, b_ft, b_tf, ne_eq, not_true_eq_false, not_false_eq_true, decide_true, decide_false, Bool.and_self, Bool.false_and, Bool.and_false, Bool.and_true, Bool.true_and, Bool.not_true, Bool.not_false, ↓reduceIte]), g1, m_isYear, g4, m_isTongue (h := pI h2 10090 0 9 (gI h2 10090 0 9 + nI 1)) _ nl (by simp (disch := first | omega | rfl | assumption) only [a22, q_cl, q_ps, q_pn, bI_t, bI_f, gI_same, gI_ne, gR_pI, gJ_pI, gV_pI, gN_pI, gC_pI, gS_pI, gI_pJ, gR_pJ, gV_pJ, gN_pJ, gJ_same, gJ_ne, gI_pR, gJ_pR, gV_pR, gN_pR, gR_same, gR_ne, zin_t, zin_f, x_ltt, x_ltf, x_let, x_lef, x_eqt, x_eqf, n_0, n_1, n_2, n_3, n_4, n_5, n_6, n_7, n_8, n_9, n_10, n_11, n_12, n_16, n_19, n_20, n_24, n_25, n_32, n_40, n_48, n_50, n_60, n_64, n_80, n_96, n_114, n_684, n_1000, n_9330, n_16806, n_1000000, n_5764800, ↓n_m, m_ltI, m_leI, m_lt', m_le', m_eq, m_eq', m_add, m_sub, mm_lt, mm_le, mm_eq, q_sub, nI_add, q_mul, nI_clamp, bz_0, bz_1, q_bzb, b_0, b_1, b_ft, b_tf, ne_eq, not_true_eq_false, not_false_eq_true, decide_true, decide_false, Bool.and_self, Bool.false_and, Bool.and_false, Bool.and_true, Bool.true_and, Bool.not_true, Bool.not_false, ↓reduceIte]), g5, e3', k1, hb2, q_cl, q_ps, q_pn, bI_t, bI_f, gI_same, gI_ne, gR_pI, gJ_pI, gV_pI, gN_pI, gC_pI, gS_pI, gI_pJ, gR_pJ, gV_pJ, gN_pJ, gJ_same, gJ_ne, gI_pR, gJ_pR, gV_pR, gN_pR, gR_same, gR_ne, zin_t, zin_f, x_ltt, x_ltf, x_let, x_lef, x_eqt, x_eqf, n_0, n_1, n_2, n_3, n_4, n_5, n_6, n_7, n_8, n_9, n_10, n_11, n_12, n_16, n_19, n_20, n_24, n_25, n_32, n_40, n_48, n_50, n_60, n_64, n_80, n_96, n_114, n_684, n_1000, n_9330, n_16806, n_1000000, n_5764800, ↓n_m, m_ltI, m_leI, m_lt', m_le', m_eq, m_eq', m_add, m_sub, mm_lt, mm_le, mm_eq, q_sub, nI_add, q_mul, nI_clamp, bz_0, bz_1, q_bzb, b_0, b_1, b_ft, b_tf, ne_eq, not_true_eq_false, not_false_eq_true, decide_true, decide_false, Bool.and_self, Bool.false_and, Bool.and_false, Bool.and_true, Bool.true_and, Bool.not_true, Bool.not_false, ↓reduceIte]
              exact r1
          | some x =>
            rw [hk] at el
            have el' : Rn (d + 59) 27 [z_R 9010 0, z_I (nI t), z_I (nI (rowN (stW b)))] h2 = some (some (z_I (nI x)), h2) := el
            have hxl : x < 2 ^ 31 := lnU_lt hk a3 ((okG_of hG).2.2.2.2.2 t ht).1
            obtain ⟨h3, h4, e3, k1, k2, k3, k5, F4⟩ := key 0 _ I2 hF2
            obtain ⟨h5, r1, r2⟩ := m_lnU (d + 39) (K := (fun m t => knF fm ft fy fw m t y nF)) ha ht hvW hv hbW (nI y) (gnT G) 0 z_U h4 (by omega) k2 k3 k5
            rw [hk] at r1
            refine ⟨nI x, h2, h5, ?_, ?_, G, Inv_scr (frX_trans F4 (frX_fr r2 tW_g)) I2⟩
            · simp (disch := first | omega | rfl | assumption) only [bX10_lent_0, bX10_lent_6, bX10_lent_14, bX10_lent_17, bX10_lent_23, bX10_lent_24, bX10_lent_40, bX10_lent_47, bX10_lent_54, bX10_lent_65, bX10_lent_78, bX10_lent_79, bX10_lent_97, bX10_lent_111, bX10_lent_114, bX10_lent_116, rX10_lent, c_noMatch _ c nm l3, g1, g4, c.1 10090 3 rfl, c.1 10090 2 rfl, c.1 9010 1 rfl, e1, c1.1 10090 2 rfl, e2, c2.1 10090 2 rfl, c_noTongue (h := h) _ nl c a1, g5, ec, eu, hb1, hr.1, one_ne, Nat.sub_self, hr.2.2 b hb, el', q_cl, q_ps, q_pn, bI_t, bI_f, gI_same, gI_ne, gR_pI, gJ_pI, gV_pI, gN_pI, gC_pI, gS_pI, gI_pJ, gR_pJ, gV_pJ, gN_pJ, gJ_same, gJ_ne, gI_pR, gJ_pR, gV_pR, gN_pR, gR_same, gR_ne, zin_t, zin_f, x_ltt, x_ltf, x_let, x_lef, x_eqt, x_eqf, n_0, n_1, n_2, n_3, n_4, n_5, n_6, n_7, n_8, n_9, n_10, n_11, n_12, n_16, n_19, n_20, n_24, n_25, n_32, n_40, n_48, n_50, n_60, n_64, n_80, n_96, n_114, n_684, n_1000, n_9330, n_16806, n_1000000, n_5764800, ↓n_m, m_ltI, m_leI, m_lt', m_le', m_eq, m_eq', m_add, m_sub, mm_lt, mm_le, mm_eq, q_sub, nI_add, q_mul, nI_clamp, bz_0, bz_1, q_bzb, b_0, b_1, b_ft, b_tf, ne_eq, not_true_eq_false, not_false_eq_true, decide_true, decide_false, Bool.and_self, Bool.false_and, Bool.and_false, Bool.and_true, Bool.true_and, Bool.not_true, Bool.not_false, ↓reduceIte]
            · simp (disch := first | omega | rfl | assumption) only [bX11_lent_0, bX11_lent_5, bX11_lent_12, bX11_lent_20, bX11_lent_23, bX11_lent_29, bX11_lent_30, bX11_lent_35, bX11_lent_40, bX11_lent_54, bX11_lent_55, bX11_lent_98, bX11_lent_105, bX11_lent_110, bX11_lent_133, bX11_lent_139, bX11_lent_145, bX11_lent_151, rX11_lent, m_isMatch (h := h2) _ nm l42, g1, m_isYear, g4, m_isTongue (h := h2) _ nl a22, g5, e3, k1, hb2, q_cl, q_ps, q_pn, bI_t, bI_f, gI_same, gI_ne, gR_pI, gJ_pI, gV_pI, gN_pI, gC_pI, gS_pI, gI_pJ, gR_pJ, gV_pJ, gN_pJ, gJ_same, gJ_ne, gI_pR, gJ_pR, gV_pR, gN_pR, gR_same, gR_ne, zin_t, zin_f, x_ltt, x_ltf, x_let, x_lef, x_eqt, x_eqf, n_0, n_1, n_2, n_3, n_4, n_5, n_6, n_7, n_8, n_9, n_10, n_11, n_12, n_16, n_19, n_20, n_24, n_25, n_32, n_40, n_48, n_50, n_60, n_64, n_80, n_96, n_114, n_684, n_1000, n_9330, n_16806, n_1000000, n_5764800, ↓n_m, m_ltI, m_leI, m_lt', m_le', m_eq, m_eq', m_add, m_sub, mm_lt, mm_le, mm_eq, q_sub, nI_add, q_mul, nI_clamp, bz_0, bz_1, q_bzb, b_0, b_1, b_ft, b_tf, ne_eq, not_true_eq_false, not_false_eq_true, decide_true, decide_false, Bool.and_self, Bool.false_and, Bool.and_false, Bool.and_true, Bool.true_and, Bool.not_true, Bool.not_false, ↓reduceIte]
              exact r1
