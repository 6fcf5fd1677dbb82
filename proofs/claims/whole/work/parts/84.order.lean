/-! ===== order ===== -/
theorem swpL_mem {l : List Nat} {i : Nat} (hi : i + 1 < l.length) : ∀ x ∈ swpL l i, x ∈ l := by
  intro x hx
  obtain ⟨k, hk⟩ := List.getElem?_of_mem hx
  rw [swpL_get l hi] at hk
  split at hk
  · exact List.mem_of_getElem? hk
  · split at hk
    · exact List.mem_of_getElem? hk
    · exact List.mem_of_getElem? hk
theorem okG_sw {G : Gh} (h : okG G) {t i : Nat} (hi : i + 1 < (gow G t).length) : okG (gsOw G t (swpL (gow G t) i)) := by
  obtain ⟨h1, h2, h3, h4, h5, h6⟩ := h
  refine ⟨h1, h2, h3, h4, h5, fun u hu => ?_⟩
  have e : gow (gsOw G t (swpL (gow G t) i)) u = if u = t then swpL (gow G t) i else gow G u := rfl
  obtain ⟨b1, b2, b3⟩ := h6 u hu
  rw [e]
  by_cases q : u = t
  · subst q
    rw [if_pos rfl, swpL_len]
    exact ⟨b1, fun x hx => b2 x (swpL_mem hi x hx), b3⟩
  · rw [if_neg q]
    exact ⟨b1, b2, b3⟩
theorem cT_sw {G : Gh} {h : z_H} (m : cT h G) {t i a b : Nat} (ht : t < gnT G) (hi : i + 1 < (gow G t).length) (ha : (gow G t)[i]? = some a) (hb : (gow G t)[i + 1]? = some b) : cT (pR (pR h 6385 t i (b + 1)) 6385 t (i + 1) (a + 1)) (gsOw G t (swpL (gow G t) i)) := by
  have F : frX [3] h (pR (pR h 6385 t i (b + 1)) 6385 t (i + 1) (a + 1)) := frX_trans (frX_pR2 3 rfl (by decide) _ _) (frX_pR2 3 rfl (by decide) _ _)
  obtain ⟨m1, m2, m3, m4, m5, m6, m7⟩ := m
  refine ⟨okG_sw m1 hi, frX_cOK (by decide) F m2, m3, m4, fun j hj => ?_, m6, fun u hu => ?_⟩
  · obtain ⟨b1, b2, b3, b4⟩ := m5 j hj
    exact ⟨by simp (disch := first | omega | rfl | assumption) only [b1, q_cl, q_ps, q_pn, bI_t, bI_f, gI_same, gI_ne, gR_pI, gJ_pI, gV_pI, gN_pI, gC_pI, gS_pI, gI_pJ, gR_pJ, gV_pJ, gN_pJ, gJ_same, gJ_ne, gI_pR, gJ_pR, gV_pR, gN_pR, gR_same, gR_ne, zin_t, zin_f, x_ltt, x_ltf, x_let, x_lef, x_eqt, x_eqf, n_0, n_1, n_2, n_3, n_4, n_5, n_6, n_7, n_8, n_9, n_10, n_11, n_12, n_16, n_19, n_20, n_24, n_25, n_32, n_40, n_48, n_50, n_60, n_64, n_80, n_96, n_114, n_684, n_1000, n_9330, n_16806, n_1000000, n_5764800, ↓n_m, m_ltI, m_leI, m_lt', m_le', m_eq, m_eq', m_add, m_sub, mm_lt, mm_le, mm_eq, q_sub, nI_add, q_mul, nI_clamp, bz_0, bz_1, q_bzb, b_0, b_1, b_ft, b_tf, ne_eq, not_true_eq_false, not_false_eq_true, decide_true, decide_false, Bool.and_self, Bool.false_and, Bool.and_false, Bool.and_true, Bool.true_and, Bool.not_true, Bool.not_false, ↓reduceIte], b2, by simp (disch := first | omega | rfl | assumption) only [b3, q_cl, q_ps, q_pn, bI_t, bI_f, gI_same, gI_ne, gR_pI, gJ_pI, gV_pI, gN_pI, gC_pI, gS_pI, gI_pJ, gR_pJ, gV_pJ, gN_pJ, gJ_same, gJ_ne, gI_pR, gJ_pR, gV_pR, gN_pR, gR_same, gR_ne, zin_t, zin_f, x_ltt, x_ltf, x_let, x_lef, x_eqt, x_eqf, n_0, n_1, n_2, n_3, n_4, n_5, n_6, n_7, n_8, n_9, n_10, n_11, n_12, n_16, n_19, n_20, n_24, n_25, n_32, n_40, n_48, n_50, n_60, n_64, n_80, n_96, n_114, n_684, n_1000, n_9330, n_16806, n_1000000, n_5764800, ↓n_m, m_ltI, m_leI, m_lt', m_le', m_eq, m_eq', m_add, m_sub, mm_lt, mm_le, mm_eq, q_sub, nI_add, q_mul, nI_clamp, bz_0, bz_1, q_bzb, b_0, b_1, b_ft, b_tf, ne_eq, not_true_eq_false, not_false_eq_true, decide_true, decide_false, Bool.and_self, Bool.false_and, Bool.and_false, Bool.and_true, Bool.true_and, Bool.not_true, Bool.not_false, ↓reduceIte], b4⟩
  · obtain ⟨b1, b2, b3, b4, b5, b6, b7, b8⟩ := m7 u hu
    have e : gow (gsOw G t (swpL (gow G t) i)) u = if u = t then swpL (gow G t) i else gow G u := rfl
    rw [e]
    refine ⟨by simp (disch := first | omega | rfl | assumption) only [b1, q_cl, q_ps, q_pn, bI_t, bI_f, gI_same, gI_ne, gR_pI, gJ_pI, gV_pI, gN_pI, gC_pI, gS_pI, gI_pJ, gR_pJ, gV_pJ, gN_pJ, gJ_same, gJ_ne, gI_pR, gJ_pR, gV_pR, gN_pR, gR_same, gR_ne, zin_t, zin_f, x_ltt, x_ltf, x_let, x_lef, x_eqt, x_eqf, n_0, n_1, n_2, n_3, n_4, n_5, n_6, n_7, n_8, n_9, n_10, n_11, n_12, n_16, n_19, n_20, n_24, n_25, n_32, n_40, n_48, n_50, n_60, n_64, n_80, n_96, n_114, n_684, n_1000, n_9330, n_16806, n_1000000, n_5764800, ↓n_m, m_ltI, m_leI, m_lt', m_le', m_eq, m_eq', m_add, m_sub, mm_lt, mm_le, mm_eq, q_sub, nI_add, q_mul, nI_clamp, bz_0, bz_1, q_bzb, b_0, b_1, b_ft, b_tf, ne_eq, not_true_eq_false, not_false_eq_true, decide_true, decide_false, Bool.and_self, Bool.false_and, Bool.and_false, Bool.and_true, Bool.true_and, Bool.not_true, Bool.not_false, ↓reduceIte], b2, b3, by simp (disch := first | omega | rfl | assumption) only [b4, q_cl, q_ps, q_pn, bI_t, bI_f, gI_same, gI_ne, gR_pI, gJ_pI, gV_pI, gN_pI, gC_pI, gS_pI, gI_pJ, gR_pJ, gV_pJ, gN_pJ, gJ_same, gJ_ne, gI_pR, gJ_pR, gV_pR, gN_pR, gR_same, gR_ne, zin_t, zin_f, x_ltt, x_ltf, x_let, x_lef, x_eqt, x_eqf, n_0, n_1, n_2, n_3, n_4, n_5, n_6, n_7, n_8, n_9, n_10, n_11, n_12, n_16, n_19, n_20, n_24, n_25, n_32, n_40, n_48, n_50, n_60, n_64, n_80, n_96, n_114, n_684, n_1000, n_9330, n_16806, n_1000000, n_5764800, ↓n_m, m_ltI, m_leI, m_lt', m_le', m_eq, m_eq', m_add, m_sub, mm_lt, mm_le, mm_eq, q_sub, nI_add, q_mul, nI_clamp, bz_0, bz_1, q_bzb, b_0, b_1, b_ft, b_tf, ne_eq, not_true_eq_false, not_false_eq_true, decide_true, decide_false, Bool.and_self, Bool.false_and, Bool.and_false, Bool.and_true, Bool.true_and, Bool.not_true, Bool.not_false, ↓reduceIte], by simp (disch := first | omega | rfl | assumption) only [b5, q_cl, q_ps, q_pn, bI_t, bI_f, gI_same, gI_ne, gR_pI, gJ_pI, gV_pI, gN_pI, gC_pI, gS_pI, gI_pJ, gR_pJ, gV_pJ, gN_pJ, gJ_same, gJ_ne, gI_pR, gJ_pR, gV_pR, gN_pR, gR_same, gR_ne, zin_t, zin_f, x_ltt, x_ltf, x_let, x_lef, x_eqt, x_eqf, n_0, n_1, n_2, n_3, n_4, n_5, n_6, n_7, n_8, n_9, n_10, n_11, n_12, n_16, n_19, n_20, n_24, n_25, n_32, n_40, n_48, n_50, n_60, n_64, n_80, n_96, n_114, n_684, n_1000, n_9330, n_16806, n_1000000, n_5764800, ↓n_m, m_ltI, m_leI, m_lt', m_le', m_eq, m_eq', m_add, m_sub, mm_lt, mm_le, mm_eq, q_sub, nI_add, q_mul, nI_clamp, bz_0, bz_1, q_bzb, b_0, b_1, b_ft, b_tf, ne_eq, not_true_eq_false, not_false_eq_true, decide_true, decide_false, Bool.and_self, Bool.false_and, Bool.and_false, Bool.and_true, Bool.true_and, Bool.not_true, Bool.not_false, ↓reduceIte], ?_, fun k x hx => ?_, b8⟩
    · by_cases q : u = t
      · subst q; rw [if_pos rfl, swpL_len]; exact b6
      · rw [if_neg q]; exact b6
    · by_cases q : u = t
      · subst q
        rw [if_pos rfl, swpL_get _ hi] at hx
        by_cases q1 : k = i
        · subst q1
          rw [if_pos rfl, hb] at hx
          cases hx
          simp (disch := first | omega | rfl | assumption) only [q_cl, q_ps, q_pn, bI_t, bI_f, gI_same, gI_ne, gR_pI, gJ_pI, gV_pI, gN_pI, gC_pI, gS_pI, gI_pJ, gR_pJ, gV_pJ, gN_pJ, gJ_same, gJ_ne, gI_pR, gJ_pR, gV_pR, gN_pR, gR_same, gR_ne, zin_t, zin_f, x_ltt, x_ltf, x_let, x_lef, x_eqt, x_eqf, n_0, n_1, n_2, n_3, n_4, n_5, n_6, n_7, n_8, n_9, n_10, n_11, n_12, n_16, n_19, n_20, n_24, n_25, n_32, n_40, n_48, n_50, n_60, n_64, n_80, n_96, n_114, n_684, n_1000, n_9330, n_16806, n_1000000, n_5764800, ↓n_m, m_ltI, m_leI, m_lt', m_le', m_eq, m_eq', m_add, m_sub, mm_lt, mm_le, mm_eq, q_sub, nI_add, q_mul, nI_clamp, bz_0, bz_1, q_bzb, b_0, b_1, b_ft, b_tf, ne_eq, not_true_eq_false, not_false_eq_true, decide_true, decide_false, Bool.and_self, Bool.false_and, Bool.and_false, Bool.and_true, Bool.true_and, Bool.not_true, Bool.not_false, ↓reduceIte]
        · by_cases q2 : k = i + 1
          · subst q2
            rw [if_neg q1, if_pos rfl, ha] at hx
            cases hx
            simp (disch := first | omega | rfl | assumption) only [q_cl, q_ps, q_pn, bI_t, bI_f, gI_same, gI_ne, gR_pI, gJ_pI, gV_pI, gN_pI, gC_pI, gS_pI, gI_pJ, gR_pJ, gV_pJ, gN_pJ, gJ_same, gJ_ne, gI_pR, gJ_pR, gV_pR, gN_pR, gR_same, gR_ne, zin_t, zin_f, x_ltt, x_ltf, x_let, x_lef, x_eqt, x_eqf, n_0, n_1, n_2, n_3, n_4, n_5, n_6, n_7, n_8, n_9, n_10, n_11, n_12, n_16, n_19, n_20, n_24, n_25, n_32, n_40, n_48, n_50, n_60, n_64, n_80, n_96, n_114, n_684, n_1000, n_9330, n_16806, n_1000000, n_5764800, ↓n_m, m_ltI, m_leI, m_lt', m_le', m_eq, m_eq', m_add, m_sub, mm_lt, mm_le, mm_eq, q_sub, nI_add, q_mul, nI_clamp, bz_0, bz_1, q_bzb, b_0, b_1, b_ft, b_tf, ne_eq, not_true_eq_false, not_false_eq_true, decide_true, decide_false, Bool.and_self, Bool.false_and, Bool.and_false, Bool.and_true, Bool.true_and, Bool.not_true, Bool.not_false, ↓reduceIte]
          · rw [if_neg q1, if_neg q2] at hx
            simp (disch := first | omega | rfl | assumption) only [b7 k x hx, q_cl, q_ps, q_pn, bI_t, bI_f, gI_same, gI_ne, gR_pI, gJ_pI, gV_pI, gN_pI, gC_pI, gS_pI, gI_pJ, gR_pJ, gV_pJ, gN_pJ, gJ_same, gJ_ne, gI_pR, gJ_pR, gV_pR, gN_pR, gR_same, gR_ne, zin_t, zin_f, x_ltt, x_ltf, x_let, x_lef, x_eqt, x_eqf, n_0, n_1, n_2, n_3, n_4, n_5, n_6, n_7, n_8, n_9, n_10, n_11, n_12, n_16, n_19, n_20, n_24, n_25, n_32, n_40, n_48, n_50, n_60, n_64, n_80, n_96, n_114, n_684, n_1000, n_9330, n_16806, n_1000000, n_5764800, ↓n_m, m_ltI, m_leI, m_lt', m_le', m_eq, m_eq', m_add, m_sub, mm_lt, mm_le, mm_eq, q_sub, nI_add, q_mul, nI_clamp, bz_0, bz_1, q_bzb, b_0, b_1, b_ft, b_tf, ne_eq, not_true_eq_false, not_false_eq_true, decide_true, decide_false, Bool.and_self, Bool.false_and, Bool.and_false, Bool.and_true, Bool.true_and, Bool.not_true, Bool.not_false, ↓reduceIte]
      · rw [if_neg q] at hx
        simp (disch := first | omega | rfl | assumption) only [b7 k x hx, q_cl, q_ps, q_pn, bI_t, bI_f, gI_same, gI_ne, gR_pI, gJ_pI, gV_pI, gN_pI, gC_pI, gS_pI, gI_pJ, gR_pJ, gV_pJ, gN_pJ, gJ_same, gJ_ne, gI_pR, gJ_pR, gV_pR, gN_pR, gR_same, gR_ne, zin_t, zin_f, x_ltt, x_ltf, x_let, x_lef, x_eqt, x_eqf, n_0, n_1, n_2, n_3, n_4, n_5, n_6, n_7, n_8, n_9, n_10, n_11, n_12, n_16, n_19, n_20, n_24, n_25, n_32, n_40, n_48, n_50, n_60, n_64, n_80, n_96, n_114, n_684, n_1000, n_9330, n_16806, n_1000000, n_5764800, ↓n_m, m_ltI, m_leI, m_lt', m_le', m_eq, m_eq', m_add, m_sub, mm_lt, mm_le, mm_eq, q_sub, nI_add, q_mul, nI_clamp, bz_0, bz_1, q_bzb, b_0, b_1, b_ft, b_tf, ne_eq, not_true_eq_false, not_false_eq_true, decide_true, decide_false, Bool.and_self, Bool.false_and, Bool.and_false, Bool.and_true, Bool.true_and, Bool.not_true, Bool.not_false, ↓reduceIte]
theorem mT_sw {G : Gh} {h : z_H} {mu : Nat} (m : mT h G mu) {t i a b : Nat} (ht : t < gnT G) (hi : i + 1 < (gow G t).length) (ha : (gow G t)[i]? = some a) (hb : (gow G t)[i + 1]? = some b) : mT (pI (pI h 48511 0 (6 * t + i) (nI b)) 48511 0 (6 * t + i + 1) (nI a)) (gsOw G t (swpL (gow G t) i)) mu := by
  have F : frX [3] h (pI (pI h 48511 0 (6 * t + i) (nI b)) 48511 0 (6 * t + i + 1) (nI a)) := (frX_trans (frX_pI2 3 rfl (by decide) _ _) (frX_pI2 3 rfl (by decide) _ _))
  obtain ⟨m1, m2, m3, m4, m5, m6, m7, m8⟩ := m
  have o6 := (m1.2.2.2.2.2 t ht).1
  refine ⟨okG_sw m1 hi, frX_mOK (by decide) F m2, by simp (disch := first | omega | rfl | assumption) only [m3, q_cl, q_ps, q_pn, bI_t, bI_f, gI_same, gI_ne, gR_pI, gJ_pI, gV_pI, gN_pI, gC_pI, gS_pI, gI_pJ, gR_pJ, gV_pJ, gN_pJ, gJ_same, gJ_ne, gI_pR, gJ_pR, gV_pR, gN_pR, gR_same, gR_ne, zin_t, zin_f, x_ltt, x_ltf, x_let, x_lef, x_eqt, x_eqf, n_0, n_1, n_2, n_3, n_4, n_5, n_6, n_7, n_8, n_9, n_10, n_11, n_12, n_16, n_19, n_20, n_24, n_25, n_32, n_40, n_48, n_50, n_60, n_64, n_80, n_96, n_114, n_684, n_1000, n_9330, n_16806, n_1000000, n_5764800, ↓n_m, m_ltI, m_leI, m_lt', m_le', m_eq, m_eq', m_add, m_sub, mm_lt, mm_le, mm_eq, q_sub, nI_add, q_mul, nI_clamp, bz_0, bz_1, q_bzb, b_0, b_1, b_ft, b_tf, ne_eq, not_true_eq_false, not_false_eq_true, decide_true, decide_false, Bool.and_self, Bool.false_and, Bool.and_false, Bool.and_true, Bool.true_and, Bool.not_true, Bool.not_false, ↓reduceIte]; rfl, by simp (disch := first | omega | rfl | assumption) only [m4, q_cl, q_ps, q_pn, bI_t, bI_f, gI_same, gI_ne, gR_pI, gJ_pI, gV_pI, gN_pI, gC_pI, gS_pI, gI_pJ, gR_pJ, gV_pJ, gN_pJ, gJ_same, gJ_ne, gI_pR, gJ_pR, gV_pR, gN_pR, gR_same, gR_ne, zin_t, zin_f, x_ltt, x_ltf, x_let, x_lef, x_eqt, x_eqf, n_0, n_1, n_2, n_3, n_4, n_5, n_6, n_7, n_8, n_9, n_10, n_11, n_12, n_16, n_19, n_20, n_24, n_25, n_32, n_40, n_48, n_50, n_60, n_64, n_80, n_96, n_114, n_684, n_1000, n_9330, n_16806, n_1000000, n_5764800, ↓n_m, m_ltI, m_leI, m_lt', m_le', m_eq, m_eq', m_add, m_sub, mm_lt, mm_le, mm_eq, q_sub, nI_add, q_mul, nI_clamp, bz_0, bz_1, q_bzb, b_0, b_1, b_ft, b_tf, ne_eq, not_true_eq_false, not_false_eq_true, decide_true, decide_false, Bool.and_self, Bool.false_and, Bool.and_false, Bool.and_true, Bool.true_and, Bool.not_true, Bool.not_false, ↓reduceIte]; rfl, fun j hj => mLs_frX (by decide) F (by have := m1.2.1; have : j < gnL G := hj; omega) (m5 j hj), by simp (disch := first | omega | rfl | assumption) only [m6, q_cl, q_ps, q_pn, bI_t, bI_f, gI_same, gI_ne, gR_pI, gJ_pI, gV_pI, gN_pI, gC_pI, gS_pI, gI_pJ, gR_pJ, gV_pJ, gN_pJ, gJ_same, gJ_ne, gI_pR, gJ_pR, gV_pR, gN_pR, gR_same, gR_ne, zin_t, zin_f, x_ltt, x_ltf, x_let, x_lef, x_eqt, x_eqf, n_0, n_1, n_2, n_3, n_4, n_5, n_6, n_7, n_8, n_9, n_10, n_11, n_12, n_16, n_19, n_20, n_24, n_25, n_32, n_40, n_48, n_50, n_60, n_64, n_80, n_96, n_114, n_684, n_1000, n_9330, n_16806, n_1000000, n_5764800, ↓n_m, m_ltI, m_leI, m_lt', m_le', m_eq, m_eq', m_add, m_sub, mm_lt, mm_le, mm_eq, q_sub, nI_add, q_mul, nI_clamp, bz_0, bz_1, q_bzb, b_0, b_1, b_ft, b_tf, ne_eq, not_true_eq_false, not_false_eq_true, decide_true, decide_false, Bool.and_self, Bool.false_and, Bool.and_false, Bool.and_true, Bool.true_and, Bool.not_true, Bool.not_false, ↓reduceIte]; rfl, fun u hu => ?_, by simp (disch := first | omega | rfl | assumption) only [m8, q_cl, q_ps, q_pn, bI_t, bI_f, gI_same, gI_ne, gR_pI, gJ_pI, gV_pI, gN_pI, gC_pI, gS_pI, gI_pJ, gR_pJ, gV_pJ, gN_pJ, gJ_same, gJ_ne, gI_pR, gJ_pR, gV_pR, gN_pR, gR_same, gR_ne, zin_t, zin_f, x_ltt, x_ltf, x_let, x_lef, x_eqt, x_eqf, n_0, n_1, n_2, n_3, n_4, n_5, n_6, n_7, n_8, n_9, n_10, n_11, n_12, n_16, n_19, n_20, n_24, n_25, n_32, n_40, n_48, n_50, n_60, n_64, n_80, n_96, n_114, n_684, n_1000, n_9330, n_16806, n_1000000, n_5764800, ↓n_m, m_ltI, m_leI, m_lt', m_le', m_eq, m_eq', m_add, m_sub, mm_lt, mm_le, mm_eq, q_sub, nI_add, q_mul, nI_clamp, bz_0, bz_1, q_bzb, b_0, b_1, b_ft, b_tf, ne_eq, not_true_eq_false, not_false_eq_true, decide_true, decide_false, Bool.and_self, Bool.false_and, Bool.and_false, Bool.and_true, Bool.true_and, Bool.not_true, Bool.not_false, ↓reduceIte]⟩
  obtain ⟨b1, b2, b3, b4⟩ := m7 u hu
  have e : gow (gsOw G t (swpL (gow G t) i)) u = if u = t then swpL (gow G t) i else gow G u := rfl
  rw [e]
  have hu' : u < gnT G := hu
  have o6u := (m1.2.2.2.2.2 u hu').1
  refine ⟨by simp (disch := first | omega | rfl | assumption) only [b1, q_cl, q_ps, q_pn, bI_t, bI_f, gI_same, gI_ne, gR_pI, gJ_pI, gV_pI, gN_pI, gC_pI, gS_pI, gI_pJ, gR_pJ, gV_pJ, gN_pJ, gJ_same, gJ_ne, gI_pR, gJ_pR, gV_pR, gN_pR, gR_same, gR_ne, zin_t, zin_f, x_ltt, x_ltf, x_let, x_lef, x_eqt, x_eqf, n_0, n_1, n_2, n_3, n_4, n_5, n_6, n_7, n_8, n_9, n_10, n_11, n_12, n_16, n_19, n_20, n_24, n_25, n_32, n_40, n_48, n_50, n_60, n_64, n_80, n_96, n_114, n_684, n_1000, n_9330, n_16806, n_1000000, n_5764800, ↓n_m, m_ltI, m_leI, m_lt', m_le', m_eq, m_eq', m_add, m_sub, mm_lt, mm_le, mm_eq, q_sub, nI_add, q_mul, nI_clamp, bz_0, bz_1, q_bzb, b_0, b_1, b_ft, b_tf, ne_eq, not_true_eq_false, not_false_eq_true, decide_true, decide_false, Bool.and_self, Bool.false_and, Bool.and_false, Bool.and_true, Bool.true_and, Bool.not_true, Bool.not_false, ↓reduceIte]; rfl, ?_, fun k x hx => ?_, fun s hs => by simp (disch := first | omega | rfl | assumption) only [b4 s hs, q_cl, q_ps, q_pn, bI_t, bI_f, gI_same, gI_ne, gR_pI, gJ_pI, gV_pI, gN_pI, gC_pI, gS_pI, gI_pJ, gR_pJ, gV_pJ, gN_pJ, gJ_same, gJ_ne, gI_pR, gJ_pR, gV_pR, gN_pR, gR_same, gR_ne, zin_t, zin_f, x_ltt, x_ltf, x_let, x_lef, x_eqt, x_eqf, n_0, n_1, n_2, n_3, n_4, n_5, n_6, n_7, n_8, n_9, n_10, n_11, n_12, n_16, n_19, n_20, n_24, n_25, n_32, n_40, n_48, n_50, n_60, n_64, n_80, n_96, n_114, n_684, n_1000, n_9330, n_16806, n_1000000, n_5764800, ↓n_m, m_ltI, m_leI, m_lt', m_le', m_eq, m_eq', m_add, m_sub, mm_lt, mm_le, mm_eq, q_sub, nI_add, q_mul, nI_clamp, bz_0, bz_1, q_bzb, b_0, b_1, b_ft, b_tf, ne_eq, not_true_eq_false, not_false_eq_true, decide_true, decide_false, Bool.and_self, Bool.false_and, Bool.and_false, Bool.and_true, Bool.true_and, Bool.not_true, Bool.not_false, ↓reduceIte]; rfl⟩
  · by_cases q : u = t
    · subst q; rw [if_pos rfl, swpL_len]; simp (disch := first | omega | rfl | assumption) only [b2, q_cl, q_ps, q_pn, bI_t, bI_f, gI_same, gI_ne, gR_pI, gJ_pI, gV_pI, gN_pI, gC_pI, gS_pI, gI_pJ, gR_pJ, gV_pJ, gN_pJ, gJ_same, gJ_ne, gI_pR, gJ_pR, gV_pR, gN_pR, gR_same, gR_ne, zin_t, zin_f, x_ltt, x_ltf, x_let, x_lef, x_eqt, x_eqf, n_0, n_1, n_2, n_3, n_4, n_5, n_6, n_7, n_8, n_9, n_10, n_11, n_12, n_16, n_19, n_20, n_24, n_25, n_32, n_40, n_48, n_50, n_60, n_64, n_80, n_96, n_114, n_684, n_1000, n_9330, n_16806, n_1000000, n_5764800, ↓n_m, m_ltI, m_leI, m_lt', m_le', m_eq, m_eq', m_add, m_sub, mm_lt, mm_le, mm_eq, q_sub, nI_add, q_mul, nI_clamp, bz_0, bz_1, q_bzb, b_0, b_1, b_ft, b_tf, ne_eq, not_true_eq_false, not_false_eq_true, decide_true, decide_false, Bool.and_self, Bool.false_and, Bool.and_false, Bool.and_true, Bool.true_and, Bool.not_true, Bool.not_false, ↓reduceIte]
    · rw [if_neg q]; simp (disch := first | omega | rfl | assumption) only [b2, q_cl, q_ps, q_pn, bI_t, bI_f, gI_same, gI_ne, gR_pI, gJ_pI, gV_pI, gN_pI, gC_pI, gS_pI, gI_pJ, gR_pJ, gV_pJ, gN_pJ, gJ_same, gJ_ne, gI_pR, gJ_pR, gV_pR, gN_pR, gR_same, gR_ne, zin_t, zin_f, x_ltt, x_ltf, x_let, x_lef, x_eqt, x_eqf, n_0, n_1, n_2, n_3, n_4, n_5, n_6, n_7, n_8, n_9, n_10, n_11, n_12, n_16, n_19, n_20, n_24, n_25, n_32, n_40, n_48, n_50, n_60, n_64, n_80, n_96, n_114, n_684, n_1000, n_9330, n_16806, n_1000000, n_5764800, ↓n_m, m_ltI, m_leI, m_lt', m_le', m_eq, m_eq', m_add, m_sub, mm_lt, mm_le, mm_eq, q_sub, nI_add, q_mul, nI_clamp, bz_0, bz_1, q_bzb, b_0, b_1, b_ft, b_tf, ne_eq, not_true_eq_false, not_false_eq_true, decide_true, decide_false, Bool.and_self, Bool.false_and, Bool.and_false, Bool.and_true, Bool.true_and, Bool.not_true, Bool.not_false, ↓reduceIte]
  · by_cases q : u = t
    · subst q
      rw [if_pos rfl, swpL_get _ hi] at hx
      by_cases q1 : k = i
      · subst q1
        rw [if_pos rfl, hb] at hx
        cases hx
        simp (disch := first | omega | rfl | assumption) only [q_cl, q_ps, q_pn, bI_t, bI_f, gI_same, gI_ne, gR_pI, gJ_pI, gV_pI, gN_pI, gC_pI, gS_pI, gI_pJ, gR_pJ, gV_pJ, gN_pJ, gJ_same, gJ_ne, gI_pR, gJ_pR, gV_pR, gN_pR, gR_same, gR_ne, zin_t, zin_f, x_ltt, x_ltf, x_let, x_lef, x_eqt, x_eqf, n_0, n_1, n_2, n_3, n_4, n_5, n_6, n_7, n_8, n_9, n_10, n_11, n_12, n_16, n_19, n_20, n_24, n_25, n_32, n_40, n_48, n_50, n_60, n_64, n_80, n_96, n_114, n_684, n_1000, n_9330, n_16806, n_1000000, n_5764800, ↓n_m, m_ltI, m_leI, m_lt', m_le', m_eq, m_eq', m_add, m_sub, mm_lt, mm_le, mm_eq, q_sub, nI_add, q_mul, nI_clamp, bz_0, bz_1, q_bzb, b_0, b_1, b_ft, b_tf, ne_eq, not_true_eq_false, not_false_eq_true, decide_true, decide_false, Bool.and_self, Bool.false_and, Bool.and_false, Bool.and_true, Bool.true_and, Bool.not_true, Bool.not_false, ↓reduceIte]
      · by_cases q2 : k = i + 1
        · subst q2
          rw [if_neg q1, if_pos rfl, ha] at hx
          cases hx
          simp (disch := first | omega | rfl | assumption) only [← Nat.add_assoc, q_cl, q_ps, q_pn, bI_t, bI_f, gI_same, gI_ne, gR_pI, gJ_pI, gV_pI, gN_pI, gC_pI, gS_pI, gI_pJ, gR_pJ, gV_pJ, gN_pJ, gJ_same, gJ_ne, gI_pR, gJ_pR, gV_pR, gN_pR, gR_same, gR_ne, zin_t, zin_f, x_ltt, x_ltf, x_let, x_lef, x_eqt, x_eqf, n_0, n_1, n_2, n_3, n_4, n_5, n_6, n_7, n_8, n_9, n_10, n_11, n_12, n_16, n_19, n_20, n_24, n_25, n_32, n_40, n_48, n_50, n_60, n_64, n_80, n_96, n_114, n_684, n_1000, n_9330, n_16806, n_1000000, n_5764800, ↓n_m, m_ltI, m_leI, m_lt', m_le', m_eq, m_eq', m_add, m_sub, mm_lt, mm_le, mm_eq, q_sub, nI_add, q_mul, nI_clamp, bz_0, bz_1, q_bzb, b_0, b_1, b_ft, b_tf, ne_eq, not_true_eq_false, not_false_eq_true, decide_true, decide_false, Bool.and_self, Bool.false_and, Bool.and_false, Bool.and_true, Bool.true_and, Bool.not_true, Bool.not_false, ↓reduceIte]
        · rw [if_neg q1, if_neg q2] at hx
          simp (disch := first | omega | rfl | assumption) only [b3 k x hx, q_cl, q_ps, q_pn, bI_t, bI_f, gI_same, gI_ne, gR_pI, gJ_pI, gV_pI, gN_pI, gC_pI, gS_pI, gI_pJ, gR_pJ, gV_pJ, gN_pJ, gJ_same, gJ_ne, gI_pR, gJ_pR, gV_pR, gN_pR, gR_same, gR_ne, zin_t, zin_f, x_ltt, x_ltf, x_let, x_lef, x_eqt, x_eqf, n_0, n_1, n_2, n_3, n_4, n_5, n_6, n_7, n_8, n_9, n_10, n_11, n_12, n_16, n_19, n_20, n_24, n_25, n_32, n_40, n_48, n_50, n_60, n_64, n_80, n_96, n_114, n_684, n_1000, n_9330, n_16806, n_1000000, n_5764800, ↓n_m, m_ltI, m_leI, m_lt', m_le', m_eq, m_eq', m_add, m_sub, mm_lt, mm_le, mm_eq, q_sub, nI_add, q_mul, nI_clamp, bz_0, bz_1, q_bzb, b_0, b_1, b_ft, b_tf, ne_eq, not_true_eq_false, not_false_eq_true, decide_true, decide_false, Bool.and_self, Bool.false_and, Bool.and_false, Bool.and_true, Bool.true_and, Bool.not_true, Bool.not_false, ↓reduceIte]
    · rw [if_neg q] at hx
      have hk := (List.getElem?_eq_some_iff.mp hx).1
      simp (disch := first | omega | rfl | assumption) only [b3 k x hx, q_cl, q_ps, q_pn, bI_t, bI_f, gI_same, gI_ne, gR_pI, gJ_pI, gV_pI, gN_pI, gC_pI, gS_pI, gI_pJ, gR_pJ, gV_pJ, gN_pJ, gJ_same, gJ_ne, gI_pR, gJ_pR, gV_pR, gN_pR, gR_same, gR_ne, zin_t, zin_f, x_ltt, x_ltf, x_let, x_lef, x_eqt, x_eqf, n_0, n_1, n_2, n_3, n_4, n_5, n_6, n_7, n_8, n_9, n_10, n_11, n_12, n_16, n_19, n_20, n_24, n_25, n_32, n_40, n_48, n_50, n_60, n_64, n_80, n_96, n_114, n_684, n_1000, n_9330, n_16806, n_1000000, n_5764800, ↓n_m, m_ltI, m_leI, m_lt', m_le', m_eq, m_eq', m_add, m_sub, mm_lt, mm_le, mm_eq, q_sub, nI_add, q_mul, nI_clamp, bz_0, bz_1, q_bzb, b_0, b_1, b_ft, b_tf, ne_eq, not_true_eq_false, not_false_eq_true, decide_true, decide_false, Bool.and_self, Bool.false_and, Bool.and_false, Bool.and_true, Bool.true_and, Bool.not_true, Bool.not_false, ↓reduceIte]
theorem pR_back {h : z_H} {t i a b : Nat} (ha : gR h 6385 t i = a) (hb : gR h 6385 t (i + 1) = b) : pR (pR (pR (pR h 6385 t i b) 6385 t (i + 1) a) 6385 t i a) 6385 t (i + 1) b = h := by
  have e : (pR (pR (pR (pR h 6385 t i b) 6385 t (i + 1) a) 6385 t i a) 6385 t (i + 1) b).2.2.1 = h.2.2.1 := by
    funext p j k
    show gR (pR (pR (pR (pR h 6385 t i b) 6385 t (i + 1) a) 6385 t i a) 6385 t (i + 1) b) p j k = gR h p j k
    rw [gR_pR, gR_pR, gR_pR, gR_pR]
    by_cases q1 : p = 6385 ∧ j = t ∧ k = i + 1
    · rw [if_pos q1, q1.1, q1.2.1, q1.2.2, hb]
    · rw [if_neg q1]
      by_cases q2 : p = 6385 ∧ j = t ∧ k = i
      · rw [if_pos q2, q2.1, q2.2.1, q2.2.2, ha]
      · rw [if_neg q2, if_neg q1, if_neg q2]
  show (h.1, h.2.1, (pR (pR (pR (pR h 6385 t i b) 6385 t (i + 1) a) 6385 t i a) 6385 t (i + 1) b).2.2.1, h.2.2.2) = h
  rw [e]
theorem sw_frm {G : Gh} (hc : okCh G) (t : Nat) (l : List Nat) (w : List Nat) : frm (gsOw G t l) 0 t w = ownR (gvV (gsOw G t l)) (gLF (gsOw G t l)) 0 (gow (gsOw G t l) t) (fa G 0 (gab G t) w) := by
  rw [frm_eq (gsOw G t l) 0 (fun u => (hc u).1)]
  congr 1
  unfold fa
  show (if gab G t = 0 then w else frm (gsOw G t l) 0 (gab G t - 1) w) = (if gab G t = 0 then w else frm G 0 (gab G t - 1) w)
  by_cases h0 : gab G t = 0
  · rw [if_pos h0, if_pos h0]
  · rw [if_neg h0, if_neg h0]
    exact frm_same (G := G) (G' := gsOw G t l) rfl rfl rfl hc 0 _ w (fun v hv => by
      show (if v = t then l else gow G v) = gow G v
      rw [if_neg (fun z => by subst z; rw [ch_hi hc (by have := (hc v).1; omega)] at hv; cases hv)])
theorem c_least_loopa (d : Nat) {G G' : Gh} {h : z_H} {t i : Nat} (m : cT h G') (hr : rdy h) (ht : t < gnT G) (hn : gnT G' = gnT G) (hok : okG G) (hf0 : gR h 7080 t 5 ≠ 0) (hf : ∀ s, s < 9330 → gJ h 9330404 (gR h 7080 t 5 - 1) s = pkJ G t s) (hfr : ∀ w, frm G' 0 t w = ownR (gvV G') (gLF G') 0 (gow G' t) (fa G 0 (gab G t) w)) {u : Nat} (hab : gab G t = u + 1) (hu : u < gnT G) (hU : gR h 7080 u 5 ≠ 0) (hUf : ∀ s, s < 9330 → gJ h 9330404 (gR h 7080 u 5 - 1) s = pkJ G u s) : ∀ (r s : Nat) (u7 : z_V), s + r = 9330 →
    ∃ s' u', EX (d + 4) 19 39 [z_R 9010 0, z_I (nI t), z_I (nI i), z_R 7080 t, z_R 7080 u, z_I mI, z_I (nI s), u7] [] h = EX (d + 4) 19 109 [z_R 9010 0, z_I (nI t), z_I (nI i), z_R 7080 t, z_R 7080 u, z_I (match nthF (fun s => !decide (frm G' 0 t (stW s) = frm G 0 t (stW s))) r s 0 with | none => mI | some k => nI (rowN (stW k))), z_I s', u'] [] h := by
  intro r
  induction r with
  | zero =>
    intro s u7 hs
    have : s = 9330 := by omega
    subst this
    refine ⟨nI 9330, u7, ?_⟩
    rw [bX1_leastSwayed_39]
    simp (disch := first | omega | rfl | assumption) only [q_cl, q_ps, q_pn, bI_t, bI_f, gI_same, gI_ne, gR_pI, gJ_pI, gV_pI, gN_pI, gC_pI, gS_pI, gI_pJ, gR_pJ, gV_pJ, gN_pJ, gJ_same, gJ_ne, gI_pR, gJ_pR, gV_pR, gN_pR, gR_same, gR_ne, zin_t, zin_f, x_ltt, x_ltf, x_let, x_lef, x_eqt, x_eqf, n_0, n_1, n_2, n_3, n_4, n_5, n_6, n_7, n_8, n_9, n_10, n_11, n_12, n_16, n_19, n_20, n_24, n_25, n_32, n_40, n_48, n_50, n_60, n_64, n_80, n_96, n_114, n_684, n_1000, n_9330, n_16806, n_1000000, n_5764800, ↓n_m, m_ltI, m_leI, m_lt', m_le', m_eq, m_eq', m_add, m_sub, mm_lt, mm_le, mm_eq, q_sub, nI_add, q_mul, nI_clamp, bz_0, bz_1, q_bzb, b_0, b_1, b_ft, b_tf, ne_eq, not_true_eq_false, not_false_eq_true, decide_true, decide_false, Bool.and_self, Bool.false_and, Bool.and_false, Bool.and_true, Bool.true_and, Bool.not_true, Bool.not_false, ↓reduceIte]
    rfl
  | succ r ih =>
    intro s u7 hs
    have hsW : isW (stW s) := st_isW (by omega)
    have hsr := rowN_lt' hsW
    have hfa := fa_ok hok 0 (a := gab G t) (by have := (hok.2.2.2.2.1 t).1; omega) hsW
    have htn : t < gnT G' := by omega
    have e1 := c_grown d m htn (mu := 0) (by decide) (k := 0) (Nat.zero_le _) hfa
    rw [List.drop_zero, mk_0, ← hfr] at e1
    have hfo := frm_ok hok 0 t (stW s) ht hsW
    have hfo2 := frm_ok m.1 0 t (stW s) htn hsW
    have e2 := c_formAt (d + 3) hf0 (show s < 9330 by omega) (hf s (by omega)) hfo (wrt_ok hok 0 ht hsW)
    have l1 := rowN_lt' hfo
    have l2 := rowN_lt' hfo2
    have e3 : nthF (fun s => !decide (frm G' 0 t (stW s) = frm G 0 t (stW s))) (r + 1) s 0 = if (!decide (frm G' 0 t (stW s) = frm G 0 t (stW s))) = true then some s else nthF (fun s => !decide (frm G' 0 t (stW s) = frm G 0 t (stW s))) r (s + 1) 0 := rfl
    have e4 := c_formAt (d + 3) hU (show s < 9330 by omega) (hUf s (by omega)) (frm_ok hok 0 u (stW s) hu hsW) (wrt_ok hok 0 hu hsW)
    have e5 : frm G 0 u (stW s) = fa G 0 (gab G t) (stW s) := by rw [hab]; exact (if_neg (by omega)).symm
    rw [e5] at e4
    by_cases hq : frm G' 0 t (stW s) = frm G 0 t (stW s)
    · rw [if_neg (by simp [hq])] at e3
      obtain ⟨s', u', q⟩ := ih (s + 1) (z_I (nI (rowN (fa G 0 (gab G t) (stW s))))) (by omega)
      refine ⟨s', u', ?_⟩
      rw [e3, ← q, bX1_leastSwayed_39]
      rw [hq] at e1
      simp (disch := first | omega | rfl | assumption) only [bX1_leastSwayed_68, e4, bX1_leastSwayed_75, e1, bX1_leastSwayed_85, e2, bX1_leastSwayed_91, bX1_leastSwayed_103, q_cl, q_ps, q_pn, bI_t, bI_f, gI_same, gI_ne, gR_pI, gJ_pI, gV_pI, gN_pI, gC_pI, gS_pI, gI_pJ, gR_pJ, gV_pJ, gN_pJ, gJ_same, gJ_ne, gI_pR, gJ_pR, gV_pR, gN_pR, gR_same, gR_ne, zin_t, zin_f, x_ltt, x_ltf, x_let, x_lef, x_eqt, x_eqf, n_0, n_1, n_2, n_3, n_4, n_5, n_6, n_7, n_8, n_9, n_10, n_11, n_12, n_16, n_19, n_20, n_24, n_25, n_32, n_40, n_48, n_50, n_60, n_64, n_80, n_96, n_114, n_684, n_1000, n_9330, n_16806, n_1000000, n_5764800, ↓n_m, m_ltI, m_leI, m_lt', m_le', m_eq, m_eq', m_add, m_sub, mm_lt, mm_le, mm_eq, q_sub, nI_add, q_mul, nI_clamp, bz_0, bz_1, q_bzb, b_0, b_1, b_ft, b_tf, ne_eq, not_true_eq_false, not_false_eq_true, decide_true, decide_false, Bool.and_self, Bool.false_and, Bool.and_false, Bool.and_true, Bool.true_and, Bool.not_true, Bool.not_false, ↓reduceIte]
    · rw [if_pos (by simp [hq])] at e3
      have hq2 : ¬ rowN (frm G' 0 t (stW s)) = rowN (frm G 0 t (stW s)) := fun z => hq (rowN_inj _ _ hfo2.2 hfo.2 z)
      refine ⟨nI (s + 1), z_I (nI (rowN (fa G 0 (gab G t) (stW s)))), ?_⟩
      rw [e3, bX1_leastSwayed_39]
      by_cases hs9 : s + 1 = 9330
      · simp (disch := first | omega | rfl | assumption) only [bX1_leastSwayed_68, e4, bX1_leastSwayed_75, e1, bX1_leastSwayed_85, e2, bX1_leastSwayed_91, hr.1, one_ne, Nat.sub_self, hr.2.2 s (by omega), bX1_leastSwayed_103, bX1_leastSwayed_39, q_cl, q_ps, q_pn, bI_t, bI_f, gI_same, gI_ne, gR_pI, gJ_pI, gV_pI, gN_pI, gC_pI, gS_pI, gI_pJ, gR_pJ, gV_pJ, gN_pJ, gJ_same, gJ_ne, gI_pR, gJ_pR, gV_pR, gN_pR, gR_same, gR_ne, zin_t, zin_f, x_ltt, x_ltf, x_let, x_lef, x_eqt, x_eqf, n_0, n_1, n_2, n_3, n_4, n_5, n_6, n_7, n_8, n_9, n_10, n_11, n_12, n_16, n_19, n_20, n_24, n_25, n_32, n_40, n_48, n_50, n_60, n_64, n_80, n_96, n_114, n_684, n_1000, n_9330, n_16806, n_1000000, n_5764800, ↓n_m, m_ltI, m_leI, m_lt', m_le', m_eq, m_eq', m_add, m_sub, mm_lt, mm_le, mm_eq, q_sub, nI_add, q_mul, nI_clamp, bz_0, bz_1, q_bzb, b_0, b_1, b_ft, b_tf, ne_eq, not_true_eq_false, not_false_eq_true, decide_true, decide_false, Bool.and_self, Bool.false_and, Bool.and_false, Bool.and_true, Bool.true_and, Bool.not_true, Bool.not_false, ↓reduceIte]
      · simp (disch := first | omega | rfl | assumption) only [bX1_leastSwayed_68, e4, bX1_leastSwayed_75, e1, bX1_leastSwayed_85, e2, bX1_leastSwayed_91, hr.1, one_ne, Nat.sub_self, hr.2.2 s (by omega), bX1_leastSwayed_103, bX1_leastSwayed_39, q_cl, q_ps, q_pn, bI_t, bI_f, gI_same, gI_ne, gR_pI, gJ_pI, gV_pI, gN_pI, gC_pI, gS_pI, gI_pJ, gR_pJ, gV_pJ, gN_pJ, gJ_same, gJ_ne, gI_pR, gJ_pR, gV_pR, gN_pR, gR_same, gR_ne, zin_t, zin_f, x_ltt, x_ltf, x_let, x_lef, x_eqt, x_eqf, n_0, n_1, n_2, n_3, n_4, n_5, n_6, n_7, n_8, n_9, n_10, n_11, n_12, n_16, n_19, n_20, n_24, n_25, n_32, n_40, n_48, n_50, n_60, n_64, n_80, n_96, n_114, n_684, n_1000, n_9330, n_16806, n_1000000, n_5764800, ↓n_m, m_ltI, m_leI, m_lt', m_le', m_eq, m_eq', m_add, m_sub, mm_lt, mm_le, mm_eq, q_sub, nI_add, q_mul, nI_clamp, bz_0, bz_1, q_bzb, b_0, b_1, b_ft, b_tf, ne_eq, not_true_eq_false, not_false_eq_true, decide_true, decide_false, Bool.and_self, Bool.false_and, Bool.and_false, Bool.and_true, Bool.true_and, Bool.not_true, Bool.not_false, ↓reduceIte]
theorem c_least_loopb (d : Nat) {G G' : Gh} {h : z_H} {t i : Nat} (m : cT h G') (hr : rdy h) (ht : t < gnT G) (hn : gnT G' = gnT G) (hok : okG G) (hf0 : gR h 7080 t 5 ≠ 0) (hf : ∀ s, s < 9330 → gJ h 9330404 (gR h 7080 t 5 - 1) s = pkJ G t s) (hfr : ∀ w, frm G' 0 t w = ownR (gvV G') (gLF G') 0 (gow G' t) (fa G 0 (gab G t) w)) (hab : gab G t = 0) : ∀ (r s : Nat) (u7 : z_V), s + r = 9330 →
    ∃ s' u', EX (d + 4) 19 39 [z_R 9010 0, z_I (nI t), z_I (nI i), z_R 7080 t, z_N, z_I mI, z_I (nI s), u7] [] h = EX (d + 4) 19 109 [z_R 9010 0, z_I (nI t), z_I (nI i), z_R 7080 t, z_N, z_I (match nthF (fun s => !decide (frm G' 0 t (stW s) = frm G 0 t (stW s))) r s 0 with | none => mI | some k => nI (rowN (stW k))), z_I s', u'] [] h := by
  intro r
  induction r with
  | zero =>
    intro s u7 hs
    have : s = 9330 := by omega
    subst this
    refine ⟨nI 9330, u7, ?_⟩
    rw [bX1_leastSwayed_39_n1]
    simp (disch := first | omega | rfl | assumption) only [q_cl, q_ps, q_pn, bI_t, bI_f, gI_same, gI_ne, gR_pI, gJ_pI, gV_pI, gN_pI, gC_pI, gS_pI, gI_pJ, gR_pJ, gV_pJ, gN_pJ, gJ_same, gJ_ne, gI_pR, gJ_pR, gV_pR, gN_pR, gR_same, gR_ne, zin_t, zin_f, x_ltt, x_ltf, x_let, x_lef, x_eqt, x_eqf, n_0, n_1, n_2, n_3, n_4, n_5, n_6, n_7, n_8, n_9, n_10, n_11, n_12, n_16, n_19, n_20, n_24, n_25, n_32, n_40, n_48, n_50, n_60, n_64, n_80, n_96, n_114, n_684, n_1000, n_9330, n_16806, n_1000000, n_5764800, ↓n_m, m_ltI, m_leI, m_lt', m_le', m_eq, m_eq', m_add, m_sub, mm_lt, mm_le, mm_eq, q_sub, nI_add, q_mul, nI_clamp, bz_0, bz_1, q_bzb, b_0, b_1, b_ft, b_tf, ne_eq, not_true_eq_false, not_false_eq_true, decide_true, decide_false, Bool.and_self, Bool.false_and, Bool.and_false, Bool.and_true, Bool.true_and, Bool.not_true, Bool.not_false, ↓reduceIte]
    rfl
  | succ r ih =>
    intro s u7 hs
    have hsW : isW (stW s) := st_isW (by omega)
    have hsr := rowN_lt' hsW
    have hfa := fa_ok hok 0 (a := gab G t) (by have := (hok.2.2.2.2.1 t).1; omega) hsW
    have htn : t < gnT G' := by omega
    have e1 := c_grown d m htn (mu := 0) (by decide) (k := 0) (Nat.zero_le _) hfa
    rw [List.drop_zero, mk_0, ← hfr] at e1
    have hfo := frm_ok hok 0 t (stW s) ht hsW
    have hfo2 := frm_ok m.1 0 t (stW s) htn hsW
    have e2 := c_formAt (d + 3) hf0 (show s < 9330 by omega) (hf s (by omega)) hfo (wrt_ok hok 0 ht hsW)
    have l1 := rowN_lt' hfo
    have l2 := rowN_lt' hfo2
    have e3 : nthF (fun s => !decide (frm G' 0 t (stW s) = frm G 0 t (stW s))) (r + 1) s 0 = if (!decide (frm G' 0 t (stW s) = frm G 0 t (stW s))) = true then some s else nthF (fun s => !decide (frm G' 0 t (stW s) = frm G 0 t (stW s))) r (s + 1) 0 := rfl
    have e5 : fa G 0 (gab G t) (stW s) = stW s := by rw [hab]; exact if_pos rfl
    rw [e5] at e1
    by_cases hq : frm G' 0 t (stW s) = frm G 0 t (stW s)
    · rw [if_neg (by simp [hq])] at e3
      obtain ⟨s', u', q⟩ := ih (s + 1) (z_I (nI (rowN (stW s)))) (by omega)
      refine ⟨s', u', ?_⟩
      rw [e3, ← q, bX1_leastSwayed_39_n1]
      rw [hq] at e1
      simp (disch := first | omega | rfl | assumption) only [hr.1, one_ne, Nat.sub_self, hr.2.2 s (by omega), bX1_leastSwayed_75_n1, e1, bX1_leastSwayed_85_n1, e2, bX1_leastSwayed_91_n1, bX1_leastSwayed_103_n1, q_cl, q_ps, q_pn, bI_t, bI_f, gI_same, gI_ne, gR_pI, gJ_pI, gV_pI, gN_pI, gC_pI, gS_pI, gI_pJ, gR_pJ, gV_pJ, gN_pJ, gJ_same, gJ_ne, gI_pR, gJ_pR, gV_pR, gN_pR, gR_same, gR_ne, zin_t, zin_f, x_ltt, x_ltf, x_let, x_lef, x_eqt, x_eqf, n_0, n_1, n_2, n_3, n_4, n_5, n_6, n_7, n_8, n_9, n_10, n_11, n_12, n_16, n_19, n_20, n_24, n_25, n_32, n_40, n_48, n_50, n_60, n_64, n_80, n_96, n_114, n_684, n_1000, n_9330, n_16806, n_1000000, n_5764800, ↓n_m, m_ltI, m_leI, m_lt', m_le', m_eq, m_eq', m_add, m_sub, mm_lt, mm_le, mm_eq, q_sub, nI_add, q_mul, nI_clamp, bz_0, bz_1, q_bzb, b_0, b_1, b_ft, b_tf, ne_eq, not_true_eq_false, not_false_eq_true, decide_true, decide_false, Bool.and_self, Bool.false_and, Bool.and_false, Bool.and_true, Bool.true_and, Bool.not_true, Bool.not_false, ↓reduceIte]
    · rw [if_pos (by simp [hq])] at e3
      have hq2 : ¬ rowN (frm G' 0 t (stW s)) = rowN (frm G 0 t (stW s)) := fun z => hq (rowN_inj _ _ hfo2.2 hfo.2 z)
      refine ⟨nI (s + 1), z_I (nI (rowN (stW s))), ?_⟩
      rw [e3, bX1_leastSwayed_39_n1]
      by_cases hs9 : s + 1 = 9330
      · simp (disch := first | omega | rfl | assumption) only [hr.1, one_ne, Nat.sub_self, hr.2.2 s (by omega), bX1_leastSwayed_75_n1, e1, bX1_leastSwayed_85_n1, e2, bX1_leastSwayed_91_n1, bX1_leastSwayed_103_n1, bX1_leastSwayed_39_n1, q_cl, q_ps, q_pn, bI_t, bI_f, gI_same, gI_ne, gR_pI, gJ_pI, gV_pI, gN_pI, gC_pI, gS_pI, gI_pJ, gR_pJ, gV_pJ, gN_pJ, gJ_same, gJ_ne, gI_pR, gJ_pR, gV_pR, gN_pR, gR_same, gR_ne, zin_t, zin_f, x_ltt, x_ltf, x_let, x_lef, x_eqt, x_eqf, n_0, n_1, n_2, n_3, n_4, n_5, n_6, n_7, n_8, n_9, n_10, n_11, n_12, n_16, n_19, n_20, n_24, n_25, n_32, n_40, n_48, n_50, n_60, n_64, n_80, n_96, n_114, n_684, n_1000, n_9330, n_16806, n_1000000, n_5764800, ↓n_m, m_ltI, m_leI, m_lt', m_le', m_eq, m_eq', m_add, m_sub, mm_lt, mm_le, mm_eq, q_sub, nI_add, q_mul, nI_clamp, bz_0, bz_1, q_bzb, b_0, b_1, b_ft, b_tf, ne_eq, not_true_eq_false, not_false_eq_true, decide_true, decide_false, Bool.and_self, Bool.false_and, Bool.and_false, Bool.and_true, Bool.true_and, Bool.not_true, Bool.not_false, ↓reduceIte]
      · simp (disch := first | omega | rfl | assumption) only [hr.1, one_ne, Nat.sub_self, hr.2.2 s (by omega), bX1_leastSwayed_75_n1, e1, bX1_leastSwayed_85_n1, e2, bX1_leastSwayed_91_n1, bX1_leastSwayed_103_n1, bX1_leastSwayed_39_n1, q_cl, q_ps, q_pn, bI_t, bI_f, gI_same, gI_ne, gR_pI, gJ_pI, gV_pI, gN_pI, gC_pI, gS_pI, gI_pJ, gR_pJ, gV_pJ, gN_pJ, gJ_same, gJ_ne, gI_pR, gJ_pR, gV_pR, gN_pR, gR_same, gR_ne, zin_t, zin_f, x_ltt, x_ltf, x_let, x_lef, x_eqt, x_eqf, n_0, n_1, n_2, n_3, n_4, n_5, n_6, n_7, n_8, n_9, n_10, n_11, n_12, n_16, n_19, n_20, n_24, n_25, n_32, n_40, n_48, n_50, n_60, n_64, n_80, n_96, n_114, n_684, n_1000, n_9330, n_16806, n_1000000, n_5764800, ↓n_m, m_ltI, m_leI, m_lt', m_le', m_eq, m_eq', m_add, m_sub, mm_lt, mm_le, mm_eq, q_sub, nI_add, q_mul, nI_clamp, bz_0, bz_1, q_bzb, b_0, b_1, b_ft, b_tf, ne_eq, not_true_eq_false, not_false_eq_true, decide_true, decide_false, Bool.and_self, Bool.false_and, Bool.and_false, Bool.and_true, Bool.true_and, Bool.not_true, Bool.not_false, ↓reduceIte]
theorem m_order_loop (d : Nat) {G : Gh} {t i a b : Nat} (ht : t < gnT G) (hi : i + 1 < (gow G t).length) (ha : (gow G t)[i]? = some a) (hb : (gow G t)[i + 1]? = some b) : ∀ (r s : Nat) (u4 u5 : z_V) (h : z_H), s + r = 9330 → mT h G 0 →
    ∃ h', EX (d + 20) 182 18 [z_R 49100 0, z_I (nI t), z_I (nI i), z_I (nI (stN s)), u4, u5] [] h = (match nthF (fun s => !decide (frm (gsOw G t (swpL (gow G t) i)) 0 t (stW s) = frm G 0 t (stW s))) r s 0 with | some k => some (some (z_I (nI (stN k))), h') | none => some (some (z_I (-1000004)), pI h' 49100 0 35 (gI h' 49100 0 35 + nI 1))) ∧ fr tW h h' := by
  intro r
  induction r with
  | zero =>
    intro s u4 u5 h hs m
    have : s = 9330 := by omega
    subst this
    refine ⟨h, ?_, fr_rfl _ _⟩
    rw [stN_9330, bX11_order_18]
    simp (disch := first | omega | rfl | assumption) only [bX11_order_70, m_finding, bX11_order_76, q_cl, q_ps, q_pn, bI_t, bI_f, gI_same, gI_ne, gR_pI, gJ_pI, gV_pI, gN_pI, gC_pI, gS_pI, gI_pJ, gR_pJ, gV_pJ, gN_pJ, gJ_same, gJ_ne, gI_pR, gJ_pR, gV_pR, gN_pR, gR_same, gR_ne, zin_t, zin_f, x_ltt, x_ltf, x_let, x_lef, x_eqt, x_eqf, n_0, n_1, n_2, n_3, n_4, n_5, n_6, n_7, n_8, n_9, n_10, n_11, n_12, n_16, n_19, n_20, n_24, n_25, n_32, n_40, n_48, n_50, n_60, n_64, n_80, n_96, n_114, n_684, n_1000, n_9330, n_16806, n_1000000, n_5764800, ↓n_m, m_ltI, m_leI, m_lt', m_le', m_eq, m_eq', m_add, m_sub, mm_lt, mm_le, mm_eq, q_sub, nI_add, q_mul, nI_clamp, bz_0, bz_1, q_bzb, b_0, b_1, b_ft, b_tf, ne_eq, not_true_eq_false, not_false_eq_true, decide_true, decide_false, Bool.and_self, Bool.false_and, Bool.and_false, Bool.and_true, Bool.true_and, Bool.not_true, Bool.not_false, ↓reduceIte]
    rfl
  | succ r ih =>
    intro s u4 u5 h hs m
    have hsW : isW (stW s) := st_isW (by omega)
    have h8 := m.1.2.2.2.1
    have o6 := (m.1.2.2.2.2.2 t ht).1
    obtain ⟨s1, s2⟩ := stN_le (show s < 9330 by omega)
    have e0 : mkI (t + 1) = nI t := mkI_pos (by omega)
    obtain ⟨h1, e1, f1⟩ := m_formOf (G := G) (mu := 0) (by decide) (a := t + 1) (D := d + 20) (by omega) (by omega) m hsW
    have m1 := mT_tW f1 m
    have fa1 : fa G 0 (t + 1) (stW s) = frm G 0 t (stW s) := if_neg (by omega)
    rw [e0, fa1, show wN (stW s) = stN s from rfl] at e1
    obtain ⟨d2, d3, o3, d4⟩ := m1.2.2.2.2.2.2.1 t ht
    have ga := o3 i a ha
    have gb := o3 (i + 1) b hb
    rw [← Nat.add_assoc] at gb
    have w1 := m_swaps (d + 19) m1.2.1 (show t < 8 by omega) (show i + 1 < 6 by omega) ga gb
    have mS := mT_sw m1 ht hi ha hb
    obtain ⟨h2, e2, f2⟩ := m_formOf (G := gsOw G t (swpL (gow G t) i)) (mu := 0) (by decide) (a := t + 1) (D := d + 20) (show t + 1 ≤ gnT G by omega) (by omega) mS hsW
    have m2 := mT_tW f2 mS
    have fa2 : fa (gsOw G t (swpL (gow G t) i)) 0 (t + 1) (stW s) = frm (gsOw G t (swpL (gow G t) i)) 0 t (stW s) := if_neg (by omega)
    rw [e0, fa2, show wN (stW s) = stN s from rfl] at e2
    have gb2 : gI h2 48511 0 (6 * t + i) = nI b := by
      rw [f2.2 _ _ _ (tW_no rfl)]
      simp (disch := first | omega | rfl | assumption) only [q_cl, q_ps, q_pn, bI_t, bI_f, gI_same, gI_ne, gR_pI, gJ_pI, gV_pI, gN_pI, gC_pI, gS_pI, gI_pJ, gR_pJ, gV_pJ, gN_pJ, gJ_same, gJ_ne, gI_pR, gJ_pR, gV_pR, gN_pR, gR_same, gR_ne, zin_t, zin_f, x_ltt, x_ltf, x_let, x_lef, x_eqt, x_eqf, n_0, n_1, n_2, n_3, n_4, n_5, n_6, n_7, n_8, n_9, n_10, n_11, n_12, n_16, n_19, n_20, n_24, n_25, n_32, n_40, n_48, n_50, n_60, n_64, n_80, n_96, n_114, n_684, n_1000, n_9330, n_16806, n_1000000, n_5764800, ↓n_m, m_ltI, m_leI, m_lt', m_le', m_eq, m_eq', m_add, m_sub, mm_lt, mm_le, mm_eq, q_sub, nI_add, q_mul, nI_clamp, bz_0, bz_1, q_bzb, b_0, b_1, b_ft, b_tf, ne_eq, not_true_eq_false, not_false_eq_true, decide_true, decide_false, Bool.and_self, Bool.false_and, Bool.and_false, Bool.and_true, Bool.true_and, Bool.not_true, Bool.not_false, ↓reduceIte]
    have ga2 : gI h2 48511 0 (6 * t + i + 1) = nI a := by
      rw [f2.2 _ _ _ (tW_no rfl)]
      simp (disch := first | omega | rfl | assumption) only [q_cl, q_ps, q_pn, bI_t, bI_f, gI_same, gI_ne, gR_pI, gJ_pI, gV_pI, gN_pI, gC_pI, gS_pI, gI_pJ, gR_pJ, gV_pJ, gN_pJ, gJ_same, gJ_ne, gI_pR, gJ_pR, gV_pR, gN_pR, gR_same, gR_ne, zin_t, zin_f, x_ltt, x_ltf, x_let, x_lef, x_eqt, x_eqf, n_0, n_1, n_2, n_3, n_4, n_5, n_6, n_7, n_8, n_9, n_10, n_11, n_12, n_16, n_19, n_20, n_24, n_25, n_32, n_40, n_48, n_50, n_60, n_64, n_80, n_96, n_114, n_684, n_1000, n_9330, n_16806, n_1000000, n_5764800, ↓n_m, m_ltI, m_leI, m_lt', m_le', m_eq, m_eq', m_add, m_sub, mm_lt, mm_le, mm_eq, q_sub, nI_add, q_mul, nI_clamp, bz_0, bz_1, q_bzb, b_0, b_1, b_ft, b_tf, ne_eq, not_true_eq_false, not_false_eq_true, decide_true, decide_false, Bool.and_self, Bool.false_and, Bool.and_false, Bool.and_true, Bool.true_and, Bool.not_true, Bool.not_false, ↓reduceIte]
    have w2 := m_swaps (d + 19) m2.2.1 (show t < 8 by omega) (show i + 1 < 6 by omega) gb2 ga2
    have F : fr tW h (pI (pI h2 48511 0 (6 * t + i) (nI a)) 48511 0 (6 * t + i + 1) (nI b)) := by
      refine ⟨f2.1.trans f1.1, fun p j k q => ?_⟩
      rw [gI_pI, gI_pI]
      by_cases q1 : p = 48511 ∧ j = 0 ∧ k = 6 * t + i + 1
      · rw [if_pos q1, q1.1, q1.2.1, q1.2.2, ← gb]
        exact f1.2 _ _ _ (tW_no rfl)
      · rw [if_neg q1]
        by_cases q2 : p = 48511 ∧ j = 0 ∧ k = 6 * t + i
        · rw [if_pos q2, q2.1, q2.2.1, q2.2.2, ← ga]
          exact f1.2 _ _ _ (tW_no rfl)
        · rw [if_neg q2, f2.2 p j k q, gI_pI, if_neg q1, gI_pI, if_neg q2, f1.2 p j k q]
    have hfo := frm_ok m.1 0 t (stW s) ht hsW
    have hfo2 := frm_ok mS.1 0 t (stW s) ht hsW
    have l1 := wN_lt hfo
    have l2 := wN_lt hfo2
    have e3 : nthF (fun s => !decide (frm (gsOw G t (swpL (gow G t) i)) 0 t (stW s) = frm G 0 t (stW s))) (r + 1) s 0 = if (!decide (frm (gsOw G t (swpL (gow G t) i)) 0 t (stW s) = frm G 0 t (stW s))) = true then some s else nthF (fun s => !decide (frm (gsOw G t (swpL (gow G t) i)) 0 t (stW s) = frm G 0 t (stW s))) r (s + 1) 0 := rfl
    by_cases hq : frm (gsOw G t (swpL (gow G t) i)) 0 t (stW s) = frm G 0 t (stW s)
    · rw [if_neg (by simp [hq])] at e3
      obtain ⟨h', q1, q2⟩ := ih (s + 1) (z_I (nI (wN (frm G 0 t (stW s))))) (z_I (nI (wN (frm G 0 t (stW s))))) _ (by omega) (mT_tW F m)
      refine ⟨h', ?_, fr_trans F q2⟩
      rw [e3, ← q1, bX11_order_18]
      rw [hq] at e2
      simp (disch := first | omega | rfl | assumption) only [e1, bX11_order_31, w1, bX11_order_39, e2, bX11_order_45, w2, bX11_order_53, bX11_order_62, m_nextStem (d + 17) (show s < 9330 by omega), bX11_order_66, q_cl, q_ps, q_pn, bI_t, bI_f, gI_same, gI_ne, gR_pI, gJ_pI, gV_pI, gN_pI, gC_pI, gS_pI, gI_pJ, gR_pJ, gV_pJ, gN_pJ, gJ_same, gJ_ne, gI_pR, gJ_pR, gV_pR, gN_pR, gR_same, gR_ne, zin_t, zin_f, x_ltt, x_ltf, x_let, x_lef, x_eqt, x_eqf, n_0, n_1, n_2, n_3, n_4, n_5, n_6, n_7, n_8, n_9, n_10, n_11, n_12, n_16, n_19, n_20, n_24, n_25, n_32, n_40, n_48, n_50, n_60, n_64, n_80, n_96, n_114, n_684, n_1000, n_9330, n_16806, n_1000000, n_5764800, ↓n_m, m_ltI, m_leI, m_lt', m_le', m_eq, m_eq', m_add, m_sub, mm_lt, mm_le, mm_eq, q_sub, nI_add, q_mul, nI_clamp, bz_0, bz_1, q_bzb, b_0, b_1, b_ft, b_tf, ne_eq, not_true_eq_false, not_false_eq_true, decide_true, decide_false, Bool.and_self, Bool.false_and, Bool.and_false, Bool.and_true, Bool.true_and, Bool.not_true, Bool.not_false, ↓reduceIte]
    · rw [if_pos (by simp [hq])] at e3
      have hq2 : ¬ wN (frm G 0 t (stW s)) = wN (frm (gsOw G t (swpL (gow G t) i)) 0 t (stW s)) := fun z => hq (wN_inj hfo hfo2 z).symm
      refine ⟨_, ?_, F⟩
      rw [e3, bX11_order_18]
      simp (disch := first | omega | rfl | assumption) only [e1, bX11_order_31, w1, bX11_order_39, e2, bX11_order_45, w2, bX11_order_53, q_cl, q_ps, q_pn, bI_t, bI_f, gI_same, gI_ne, gR_pI, gJ_pI, gV_pI, gN_pI, gC_pI, gS_pI, gI_pJ, gR_pJ, gV_pJ, gN_pJ, gJ_same, gJ_ne, gI_pR, gJ_pR, gV_pR, gN_pR, gR_same, gR_ne, zin_t, zin_f, x_ltt, x_ltf, x_let, x_lef, x_eqt, x_eqf, n_0, n_1, n_2, n_3, n_4, n_5, n_6, n_7, n_8, n_9, n_10, n_11, n_12, n_16, n_19, n_20, n_24, n_25, n_32, n_40, n_48, n_50, n_60, n_64, n_80, n_96, n_114, n_684, n_1000, n_9330, n_16806, n_1000000, n_5764800, ↓n_m, m_ltI, m_leI, m_lt', m_le', m_eq, m_eq', m_add, m_sub, mm_lt, mm_le, mm_eq, q_sub, nI_add, q_mul, nI_clamp, bz_0, bz_1, q_bzb, b_0, b_1, b_ft, b_tf, ne_eq, not_true_eq_false, not_false_eq_true, decide_true, decide_false, Bool.and_self, Bool.false_and, Bool.and_false, Bool.and_true, Bool.true_and, Bool.not_true, Bool.not_false, ↓reduceIte]
theorem c_least (d : Nat) {h : z_H} {N : Nat} {xs : Nat → Int32} {G : Gh} {e : Int32} (hG : InvG h N xs G e) {t i a b : Nat} (ht : t < gnT G) (hi : i + 1 < (gow G t).length) (ha : (gow G t)[i]? = some a) (hb : (gow G t)[i + 1]? = some b) :
    ∃ h', Rn (d + 6) 19 [z_R 9010 0, z_I (nI t), z_I (nI i)] h = some (some (z_I (match nthF (fun s => !decide (frm (gsOw G t (swpL (gow G t) i)) 0 t (stW s) = frm G 0 t (stW s))) 9330 0 0 with | none => mI | some k => nI (rowN (stW k)))), h') ∧ InvG h' N xs G e := by
  obtain ⟨hp, p1, p2, p3, p4, p5⟩ := c_prepare (d + 2) hG
  obtain ⟨h1, q1, q2, q3, q4, q5, q6, q7⟩ := c_freshened d ht p1 p2 p3
  have ct := cT_of q2
  have h8 := ct.1.2.2.2.1
  have hc := ct.1.2.2.2.2.1
  have o6 := (ct.1.2.2.2.2.2 t ht).1
  have hab := (hc t).1
  obtain ⟨b1, b2, b3, b4, b5, b6, b7, b8⟩ := ct.2.2.2.2.2.2 t ht
  have ra := b7 i a ha
  have rb := b7 (i + 1) b hb
  have frs : ∀ u, u < gnT G → gI h1 7080 u 6 = 0 → gR h1 7080 u 5 ≠ 0 ∧ ∀ s, s < 9330 → gJ h1 9330404 (gR h1 7080 u 5 - 1) s = pkJ G u s := by
    intro u hu hz
    rcases (I_F q2).2.2.2.2.2.2 u hu with y | ⟨y1, y2, y3⟩
    · rw [hz] at y; cases y
    · exact ⟨y2, y3⟩
  obtain ⟨ft0, ft1⟩ := frs t ht (q4 t (by omega) (ch_self hc t))
  have x1 := c_exchange (d + 4) (h := h1) (show i + 1 < 6 by omega) b4 ra rb
  have x2 := c_exchange (d + 4) (h := (pR (pR h1 6385 t i (b + 1)) 6385 t (i + 1) (a + 1))) (t := t) (i := i) (a := b) (b := a) (show i + 1 < 6 by omega) (by simp (disch := first | omega | rfl | assumption) only [b4, q_cl, q_ps, q_pn, bI_t, bI_f, gI_same, gI_ne, gR_pI, gJ_pI, gV_pI, gN_pI, gC_pI, gS_pI, gI_pJ, gR_pJ, gV_pJ, gN_pJ, gJ_same, gJ_ne, gI_pR, gJ_pR, gV_pR, gN_pR, gR_same, gR_ne, zin_t, zin_f, x_ltt, x_ltf, x_let, x_lef, x_eqt, x_eqf, n_0, n_1, n_2, n_3, n_4, n_5, n_6, n_7, n_8, n_9, n_10, n_11, n_12, n_16, n_19, n_20, n_24, n_25, n_32, n_40, n_48, n_50, n_60, n_64, n_80, n_96, n_114, n_684, n_1000, n_9330, n_16806, n_1000000, n_5764800, ↓n_m, m_ltI, m_leI, m_lt', m_le', m_eq, m_eq', m_add, m_sub, mm_lt, mm_le, mm_eq, q_sub, nI_add, q_mul, nI_clamp, bz_0, bz_1, q_bzb, b_0, b_1, b_ft, b_tf, ne_eq, not_true_eq_false, not_false_eq_true, decide_true, decide_false, Bool.and_self, Bool.false_and, Bool.and_false, Bool.and_true, Bool.true_and, Bool.not_true, Bool.not_false, ↓reduceIte]) (by simp (disch := first | omega | rfl | assumption) only [q_cl, q_ps, q_pn, bI_t, bI_f, gI_same, gI_ne, gR_pI, gJ_pI, gV_pI, gN_pI, gC_pI, gS_pI, gI_pJ, gR_pJ, gV_pJ, gN_pJ, gJ_same, gJ_ne, gI_pR, gJ_pR, gV_pR, gN_pR, gR_same, gR_ne, zin_t, zin_f, x_ltt, x_ltf, x_let, x_lef, x_eqt, x_eqf, n_0, n_1, n_2, n_3, n_4, n_5, n_6, n_7, n_8, n_9, n_10, n_11, n_12, n_16, n_19, n_20, n_24, n_25, n_32, n_40, n_48, n_50, n_60, n_64, n_80, n_96, n_114, n_684, n_1000, n_9330, n_16806, n_1000000, n_5764800, ↓n_m, m_ltI, m_leI, m_lt', m_le', m_eq, m_eq', m_add, m_sub, mm_lt, mm_le, mm_eq, q_sub, nI_add, q_mul, nI_clamp, bz_0, bz_1, q_bzb, b_0, b_1, b_ft, b_tf, ne_eq, not_true_eq_false, not_false_eq_true, decide_true, decide_false, Bool.and_self, Bool.false_and, Bool.and_false, Bool.and_true, Bool.true_and, Bool.not_true, Bool.not_false, ↓reduceIte]) (by simp (disch := first | omega | rfl | assumption) only [q_cl, q_ps, q_pn, bI_t, bI_f, gI_same, gI_ne, gR_pI, gJ_pI, gV_pI, gN_pI, gC_pI, gS_pI, gI_pJ, gR_pJ, gV_pJ, gN_pJ, gJ_same, gJ_ne, gI_pR, gJ_pR, gV_pR, gN_pR, gR_same, gR_ne, zin_t, zin_f, x_ltt, x_ltf, x_let, x_lef, x_eqt, x_eqf, n_0, n_1, n_2, n_3, n_4, n_5, n_6, n_7, n_8, n_9, n_10, n_11, n_12, n_16, n_19, n_20, n_24, n_25, n_32, n_40, n_48, n_50, n_60, n_64, n_80, n_96, n_114, n_684, n_1000, n_9330, n_16806, n_1000000, n_5764800, ↓n_m, m_ltI, m_leI, m_lt', m_le', m_eq, m_eq', m_add, m_sub, mm_lt, mm_le, mm_eq, q_sub, nI_add, q_mul, nI_clamp, bz_0, bz_1, q_bzb, b_0, b_1, b_ft, b_tf, ne_eq, not_true_eq_false, not_false_eq_true, decide_true, decide_false, Bool.and_self, Bool.false_and, Bool.and_false, Bool.and_true, Bool.true_and, Bool.not_true, Bool.not_false, ↓reduceIte])
  rw [pR_back ra rb] at x2
  have cE := cT_sw ct ht hi ha hb
  have rE : rdy (pR (pR h1 6385 t i (b + 1)) 6385 t (i + 1) (a + 1)) := ⟨by simp (disch := first | omega | rfl | assumption) only [q3.1, q_cl, q_ps, q_pn, bI_t, bI_f, gI_same, gI_ne, gR_pI, gJ_pI, gV_pI, gN_pI, gC_pI, gS_pI, gI_pJ, gR_pJ, gV_pJ, gN_pJ, gJ_same, gJ_ne, gI_pR, gJ_pR, gV_pR, gN_pR, gR_same, gR_ne, zin_t, zin_f, x_ltt, x_ltf, x_let, x_lef, x_eqt, x_eqf, n_0, n_1, n_2, n_3, n_4, n_5, n_6, n_7, n_8, n_9, n_10, n_11, n_12, n_16, n_19, n_20, n_24, n_25, n_32, n_40, n_48, n_50, n_60, n_64, n_80, n_96, n_114, n_684, n_1000, n_9330, n_16806, n_1000000, n_5764800, ↓n_m, m_ltI, m_leI, m_lt', m_le', m_eq, m_eq', m_add, m_sub, mm_lt, mm_le, mm_eq, q_sub, nI_add, q_mul, nI_clamp, bz_0, bz_1, q_bzb, b_0, b_1, b_ft, b_tf, ne_eq, not_true_eq_false, not_false_eq_true, decide_true, decide_false, Bool.and_self, Bool.false_and, Bool.and_false, Bool.and_true, Bool.true_and, Bool.not_true, Bool.not_false, ↓reduceIte], by simp (disch := first | omega | rfl | assumption) only [q3.2.1, q_cl, q_ps, q_pn, bI_t, bI_f, gI_same, gI_ne, gR_pI, gJ_pI, gV_pI, gN_pI, gC_pI, gS_pI, gI_pJ, gR_pJ, gV_pJ, gN_pJ, gJ_same, gJ_ne, gI_pR, gJ_pR, gV_pR, gN_pR, gR_same, gR_ne, zin_t, zin_f, x_ltt, x_ltf, x_let, x_lef, x_eqt, x_eqf, n_0, n_1, n_2, n_3, n_4, n_5, n_6, n_7, n_8, n_9, n_10, n_11, n_12, n_16, n_19, n_20, n_24, n_25, n_32, n_40, n_48, n_50, n_60, n_64, n_80, n_96, n_114, n_684, n_1000, n_9330, n_16806, n_1000000, n_5764800, ↓n_m, m_ltI, m_leI, m_lt', m_le', m_eq, m_eq', m_add, m_sub, mm_lt, mm_le, mm_eq, q_sub, nI_add, q_mul, nI_clamp, bz_0, bz_1, q_bzb, b_0, b_1, b_ft, b_tf, ne_eq, not_true_eq_false, not_false_eq_true, decide_true, decide_false, Bool.and_self, Bool.false_and, Bool.and_false, Bool.and_true, Bool.true_and, Bool.not_true, Bool.not_false, ↓reduceIte], q3.2.2⟩
  have r5 : ∀ u, gR (pR (pR h1 6385 t i (b + 1)) 6385 t (i + 1) (a + 1)) 7080 u 5 = gR h1 7080 u 5 := fun u => by simp (disch := first | omega | rfl | assumption) only [q_cl, q_ps, q_pn, bI_t, bI_f, gI_same, gI_ne, gR_pI, gJ_pI, gV_pI, gN_pI, gC_pI, gS_pI, gI_pJ, gR_pJ, gV_pJ, gN_pJ, gJ_same, gJ_ne, gI_pR, gJ_pR, gV_pR, gN_pR, gR_same, gR_ne, zin_t, zin_f, x_ltt, x_ltf, x_let, x_lef, x_eqt, x_eqf, n_0, n_1, n_2, n_3, n_4, n_5, n_6, n_7, n_8, n_9, n_10, n_11, n_12, n_16, n_19, n_20, n_24, n_25, n_32, n_40, n_48, n_50, n_60, n_64, n_80, n_96, n_114, n_684, n_1000, n_9330, n_16806, n_1000000, n_5764800, ↓n_m, m_ltI, m_leI, m_lt', m_le', m_eq, m_eq', m_add, m_sub, mm_lt, mm_le, mm_eq, q_sub, nI_add, q_mul, nI_clamp, bz_0, bz_1, q_bzb, b_0, b_1, b_ft, b_tf, ne_eq, not_true_eq_false, not_false_eq_true, decide_true, decide_false, Bool.and_self, Bool.false_and, Bool.and_false, Bool.and_true, Bool.true_and, Bool.not_true, Bool.not_false, ↓reduceIte]
  have hf0 : gR (pR (pR h1 6385 t i (b + 1)) 6385 t (i + 1) (a + 1)) 7080 t 5 ≠ 0 := by rw [r5]; exact ft0
  have hf1 : ∀ s, s < 9330 → gJ (pR (pR h1 6385 t i (b + 1)) 6385 t (i + 1) (a + 1)) 9330404 (gR (pR (pR h1 6385 t i (b + 1)) 6385 t (i + 1) (a + 1)) 7080 t 5 - 1) s = pkJ G t s := by rw [r5]; exact ft1
  have hfr := sw_frm hc t (swpL (gow G t) i)
  refine ⟨h1, ?_, q2⟩
  rw [rX1_leastSwayed, bX1_leastSwayed_0]
  by_cases h0 : gab G t = 0
  · rw [h0] at b2
    obtain ⟨s', u', l⟩ := c_least_loopb (d + 1) (i := i) cE rE ht rfl ct.1 hf0 hf1 hfr h0 9330 0 z_U (by omega)
    simp (disch := first | omega | rfl | assumption) only [q1, bX1_leastSwayed_5, b2, mk_0, bX1_leastSwayed_26_n1, x1, bX1_leastSwayed_36_n1, q_cl, q_ps, q_pn, bI_t, bI_f, gI_same, gI_ne, gR_pI, gJ_pI, gV_pI, gN_pI, gC_pI, gS_pI, gI_pJ, gR_pJ, gV_pJ, gN_pJ, gJ_same, gJ_ne, gI_pR, gJ_pR, gV_pR, gN_pR, gR_same, gR_ne, zin_t, zin_f, x_ltt, x_ltf, x_let, x_lef, x_eqt, x_eqf, n_0, n_1, n_2, n_3, n_4, n_5, n_6, n_7, n_8, n_9, n_10, n_11, n_12, n_16, n_19, n_20, n_24, n_25, n_32, n_40, n_48, n_50, n_60, n_64, n_80, n_96, n_114, n_684, n_1000, n_9330, n_16806, n_1000000, n_5764800, ↓n_m, m_ltI, m_leI, m_lt', m_le', m_eq, m_eq', m_add, m_sub, mm_lt, mm_le, mm_eq, q_sub, nI_add, q_mul, nI_clamp, bz_0, bz_1, q_bzb, b_0, b_1, b_ft, b_tf, ne_eq, not_true_eq_false, not_false_eq_true, decide_true, decide_false, Bool.and_self, Bool.false_and, Bool.and_false, Bool.and_true, Bool.true_and, Bool.not_true, Bool.not_false, ↓reduceIte]
    rw [l]
    simp (disch := first | omega | rfl | assumption) only [bX1_leastSwayed_109_n1, x2, bX1_leastSwayed_114_n1, q_cl, q_ps, q_pn, bI_t, bI_f, gI_same, gI_ne, gR_pI, gJ_pI, gV_pI, gN_pI, gC_pI, gS_pI, gI_pJ, gR_pJ, gV_pJ, gN_pJ, gJ_same, gJ_ne, gI_pR, gJ_pR, gV_pR, gN_pR, gR_same, gR_ne, zin_t, zin_f, x_ltt, x_ltf, x_let, x_lef, x_eqt, x_eqf, n_0, n_1, n_2, n_3, n_4, n_5, n_6, n_7, n_8, n_9, n_10, n_11, n_12, n_16, n_19, n_20, n_24, n_25, n_32, n_40, n_48, n_50, n_60, n_64, n_80, n_96, n_114, n_684, n_1000, n_9330, n_16806, n_1000000, n_5764800, ↓n_m, m_ltI, m_leI, m_lt', m_le', m_eq, m_eq', m_add, m_sub, mm_lt, mm_le, mm_eq, q_sub, nI_add, q_mul, nI_clamp, bz_0, bz_1, q_bzb, b_0, b_1, b_ft, b_tf, ne_eq, not_true_eq_false, not_false_eq_true, decide_true, decide_false, Bool.and_self, Bool.false_and, Bool.and_false, Bool.and_true, Bool.true_and, Bool.not_true, Bool.not_false, ↓reduceIte]
  · obtain ⟨u, hu⟩ : ∃ u, gab G t = u + 1 := ⟨gab G t - 1, by omega⟩
    have hun : u < gnT G := by omega
    rw [hu, mkI_pos (by omega), Nat.add_sub_cancel] at b2
    obtain ⟨d1, -⟩ := ct.2.2.2.2.2.2 u hun
    have hub : (gch G t).testBit u = true := by
      rw [ch_bit hc]
      simp [h0, hu, ch_self hc]
    obtain ⟨fu0, fu1⟩ := frs u hun (q4 u (by omega) hub)
    obtain ⟨s', u', l⟩ := c_least_loopa (d + 1) (i := i) cE rE ht rfl ct.1 hf0 hf1 hfr (u := u) hu hun (by rw [r5]; exact fu0) (by rw [r5]; exact fu1) 9330 0 z_U (by omega)
    simp (disch := first | omega | rfl | assumption) only [q1, bX1_leastSwayed_5, b2, bX1_leastSwayed_17, ct.2.1.1 9010 0 rfl, d1, bX1_leastSwayed_26, x1, bX1_leastSwayed_36, q_cl, q_ps, q_pn, bI_t, bI_f, gI_same, gI_ne, gR_pI, gJ_pI, gV_pI, gN_pI, gC_pI, gS_pI, gI_pJ, gR_pJ, gV_pJ, gN_pJ, gJ_same, gJ_ne, gI_pR, gJ_pR, gV_pR, gN_pR, gR_same, gR_ne, zin_t, zin_f, x_ltt, x_ltf, x_let, x_lef, x_eqt, x_eqf, n_0, n_1, n_2, n_3, n_4, n_5, n_6, n_7, n_8, n_9, n_10, n_11, n_12, n_16, n_19, n_20, n_24, n_25, n_32, n_40, n_48, n_50, n_60, n_64, n_80, n_96, n_114, n_684, n_1000, n_9330, n_16806, n_1000000, n_5764800, ↓n_m, m_ltI, m_leI, m_lt', m_le', m_eq, m_eq', m_add, m_sub, mm_lt, mm_le, mm_eq, q_sub, nI_add, q_mul, nI_clamp, bz_0, bz_1, q_bzb, b_0, b_1, b_ft, b_tf, ne_eq, not_true_eq_false, not_false_eq_true, decide_true, decide_false, Bool.and_self, Bool.false_and, Bool.and_false, Bool.and_true, Bool.true_and, Bool.not_true, Bool.not_false, ↓reduceIte]
    rw [l]
    simp (disch := first | omega | rfl | assumption) only [bX1_leastSwayed_109, x2, bX1_leastSwayed_114, q_cl, q_ps, q_pn, bI_t, bI_f, gI_same, gI_ne, gR_pI, gJ_pI, gV_pI, gN_pI, gC_pI, gS_pI, gI_pJ, gR_pJ, gV_pJ, gN_pJ, gJ_same, gJ_ne, gI_pR, gJ_pR, gV_pR, gN_pR, gR_same, gR_ne, zin_t, zin_f, x_ltt, x_ltf, x_let, x_lef, x_eqt, x_eqf, n_0, n_1, n_2, n_3, n_4, n_5, n_6, n_7, n_8, n_9, n_10, n_11, n_12, n_16, n_19, n_20, n_24, n_25, n_32, n_40, n_48, n_50, n_60, n_64, n_80, n_96, n_114, n_684, n_1000, n_9330, n_16806, n_1000000, n_5764800, ↓n_m, m_ltI, m_leI, m_lt', m_le', m_eq, m_eq', m_add, m_sub, mm_lt, mm_le, mm_eq, q_sub, nI_add, q_mul, nI_clamp, bz_0, bz_1, q_bzb, b_0, b_1, b_ft, b_tf, ne_eq, not_true_eq_false, not_false_eq_true, decide_true, decide_false, Bool.and_self, Bool.false_and, Bool.and_false, Bool.and_true, Bool.true_and, Bool.not_true, Bool.not_false, ↓reduceIte]
theorem op_order {N : Nat} {xs : Nat → Int32} (d : Nat) {h : z_H} (hI : Inv h N xs) (x1 x2 : Int32) : OKc N xs (d + 60) 95 182 [z_I x1, z_I x2] h := by
  obtain ⟨G, hG⟩ := hI
  have m := I_m hG
  have c := I_c hG
  have hT := I_T hG
  obtain ⟨a1, a2, a3, -⟩ := I_T hG
  have hT' : iTon (pI h 10090 0 9 (gI h 10090 0 9 + nI 1)) G := iTon_fr (S := [0]) (by decide) (frX_pI2 0 rfl (by decide) _ _) hT
  cases g1 : (z_in x1 (gnT G) && z_in x2 ((gow G x1.toNatClampNeg).length - 1)) with
  | false => exact OK_ref2 hG (-1000001) (by simp (disch := first | omega | rfl | assumption) only [bX10_order_0, bX10_order_6, bX10_order_15, bX10_order_16, bX10_order_25, bX10_order_37, bX10_order_40, bX10_order_44, rX10_order, c_noNeighbours _ c hT, g1, c_finding, q_cl, q_ps, q_pn, bI_t, bI_f, gI_same, gI_ne, gR_pI, gJ_pI, gV_pI, gN_pI, gC_pI, gS_pI, gI_pJ, gR_pJ, gV_pJ, gN_pJ, gJ_same, gJ_ne, gI_pR, gJ_pR, gV_pR, gN_pR, gR_same, gR_ne, zin_t, zin_f, x_ltt, x_ltf, x_let, x_lef, x_eqt, x_eqf, n_0, n_1, n_2, n_3, n_4, n_5, n_6, n_7, n_8, n_9, n_10, n_11, n_12, n_16, n_19, n_20, n_24, n_25, n_32, n_40, n_48, n_50, n_60, n_64, n_80, n_96, n_114, n_684, n_1000, n_9330, n_16806, n_1000000, n_5764800, ↓n_m, m_ltI, m_leI, m_lt', m_le', m_eq, m_eq', m_add, m_sub, mm_lt, mm_le, mm_eq, q_sub, nI_add, q_mul, nI_clamp, bz_0, bz_1, q_bzb, b_0, b_1, b_ft, b_tf, ne_eq, not_true_eq_false, not_false_eq_true, decide_true, decide_false, Bool.and_self, Bool.false_and, Bool.and_false, Bool.and_true, Bool.true_and, Bool.not_true, Bool.not_false, ↓reduceIte]) (by simp (disch := first | omega | rfl | assumption) only [bX11_order_0, bX11_order_6, bX11_order_15, bX11_order_16, bX11_order_31, bX11_order_39, bX11_order_45, bX11_order_53, bX11_order_62, bX11_order_66, bX11_order_70, bX11_order_76, rX11_order, m_hasBoth (h := (pI h 10090 0 9 (gI h 10090 0 9 + nI 1))) _ m hT', g1, m_finding, q_cl, q_ps, q_pn, bI_t, bI_f, gI_same, gI_ne, gR_pI, gJ_pI, gV_pI, gN_pI, gC_pI, gS_pI, gI_pJ, gR_pJ, gV_pJ, gN_pJ, gJ_same, gJ_ne, gI_pR, gJ_pR, gV_pR, gN_pR, gR_same, gR_ne, zin_t, zin_f, x_ltt, x_ltf, x_let, x_lef, x_eqt, x_eqf, n_0, n_1, n_2, n_3, n_4, n_5, n_6, n_7, n_8, n_9, n_10, n_11, n_12, n_16, n_19, n_20, n_24, n_25, n_32, n_40, n_48, n_50, n_60, n_64, n_80, n_96, n_114, n_684, n_1000, n_9330, n_16806, n_1000000, n_5764800, ↓n_m, m_ltI, m_leI, m_lt', m_le', m_eq, m_eq', m_add, m_sub, mm_lt, mm_le, mm_eq, q_sub, nI_add, q_mul, nI_clamp, bz_0, bz_1, q_bzb, b_0, b_1, b_ft, b_tf, ne_eq, not_true_eq_false, not_false_eq_true, decide_true, decide_false, Bool.and_self, Bool.false_and, Bool.and_false, Bool.and_true, Bool.true_and, Bool.not_true, Bool.not_false, ↓reduceIte])
  | true =>
    have g1' := g1
    rw [Bool.and_eq_true] at g1'
    obtain ⟨t, ht, ht31, rfl⟩ := zin_of g1'.1
    obtain ⟨i, hi, -, rfl⟩ := zin_of g1'.2
    rw [nI_clamp ht31] at hi
    have hi1 : i + 1 < (gow G t).length := by omega
    have o6 := ((okG_of hG).2.2.2.2.2 t ht).1
    have hga := List.getElem?_eq_getElem (l := gow G t) (i := i) (by omega)
    have hgb := List.getElem?_eq_getElem hi1
    obtain ⟨h1, e1, I1⟩ := c_least (d + 53) hG ht hi1 hga hgb
    cases hk : nthF (fun s => !decide (frm (gsOw G t (swpL (gow G t) i)) 0 t (stW s) = frm G 0 t (stW s))) 9330 0 0 with
    | none =>
      rw [hk] at e1
      have e1' : Rn (d + 59) 19 [z_R 9010 0, z_I (nI t), z_I (nI i)] h = some (some (z_I mI), h1) := e1
      have I3 := Inv_cf I1
      have mb := m_hasBoth (d + 56) (I_m I3) (I_T I3) (nI t) (nI i)
      rw [g1] at mb
      have mb' : Rn (d + 59) 173 [z_R 49100 0, z_I (nI t), z_I (nI i)] (pI h1 10090 0 9 (gI h1 10090 0 9 + nI 1)) = some (some (z_I (bI true)), (pI h1 10090 0 9 (gI h1 10090 0 9 + nI 1))) := mb
      obtain ⟨h3, k1, k2⟩ := m_order_loop (d + 39) ht hi1 hga hgb 9330 0 z_U z_U _ (by omega) (mT_of I3)
      rw [hk, stN_0] at k1
      refine OK_fin (G := G) (h1 := h1) (h2 := h3) (-1000004) ?_ ?_ (Inv_scr (frX_fr k2 tW_g) I3)
      · simp (disch := first | omega | rfl | assumption) only [bX10_order_0, bX10_order_6, bX10_order_15, bX10_order_16, bX10_order_25, bX10_order_37, bX10_order_40, bX10_order_44, rX10_order, c_noNeighbours _ c hT, g1, c.1 10090 2 rfl, e1', c_finding, q_cl, q_ps, q_pn, bI_t, bI_f, gI_same, gI_ne, gR_pI, gJ_pI, gV_pI, gN_pI, gC_pI, gS_pI, gI_pJ, gR_pJ, gV_pJ, gN_pJ, gJ_same, gJ_ne, gI_pR, gJ_pR, gV_pR, gN_pR, gR_same, gR_ne, zin_t, zin_f, x_ltt, x_ltf, x_let, x_lef, x_eqt, x_eqf, n_0, n_1, n_2, n_3, n_4, n_5, n_6, n_7, n_8, n_9, n_10, n_11, n_12, n_16, n_19, n_20, n_24, n_25, n_32, n_40, n_48, n_50, n_60, n_64, n_80, n_96, n_114, n_684, n_1000, n_9330, n_16806, n_1000000, n_5764800, ↓n_m, m_ltI, m_leI, m_lt', m_le', m_eq, m_eq', m_add, m_sub, mm_lt, mm_le, mm_eq, q_sub, nI_add, q_mul, nI_clamp, bz_0, bz_1, q_bzb, b_0, b_1, b_ft, b_tf, ne_eq, not_true_eq_false, not_false_eq_true, decide_true, decide_false, Bool.and_self, Bool.false_and, Bool.and_false, Bool.and_true, Bool.true_and, Bool.not_true, Bool.not_false, ↓reduceIte]
      · simp (disch := first | omega | rfl | assumption) only [bX11_order_0, bX11_order_6, bX11_order_15, bX11_order_16, bX11_order_31, bX11_order_39, bX11_order_45, bX11_order_53, bX11_order_62, bX11_order_66, bX11_order_70, bX11_order_76, rX11_order, mb', q_cl, q_ps, q_pn, bI_t, bI_f, gI_same, gI_ne, gR_pI, gJ_pI, gV_pI, gN_pI, gC_pI, gS_pI, gI_pJ, gR_pJ, gV_pJ, gN_pJ, gJ_same, gJ_ne, gI_pR, gJ_pR, gV_pR, gN_pR, gR_same, gR_ne, zin_t, zin_f, x_ltt, x_ltf, x_let, x_lef, x_eqt, x_eqf, n_0, n_1, n_2, n_3, n_4, n_5, n_6, n_7, n_8, n_9, n_10, n_11, n_12, n_16, n_19, n_20, n_24, n_25, n_32, n_40, n_48, n_50, n_60, n_64, n_80, n_96, n_114, n_684, n_1000, n_9330, n_16806, n_1000000, n_5764800, ↓n_m, m_ltI, m_leI, m_lt', m_le', m_eq, m_eq', m_add, m_sub, mm_lt, mm_le, mm_eq, q_sub, nI_add, q_mul, nI_clamp, bz_0, bz_1, q_bzb, b_0, b_1, b_ft, b_tf, ne_eq, not_true_eq_false, not_false_eq_true, decide_true, decide_false, Bool.and_self, Bool.false_and, Bool.and_false, Bool.and_true, Bool.true_and, Bool.not_true, Bool.not_false, ↓reduceIte]
        exact k1
    | some k =>
      rw [hk] at e1
      have hkl := nthF_lt _ _ _ _ hk
      have hkW : isW (stW k) := st_isW (by omega)
      have hkr := rowN_lt' hkW
      have e1' : Rn (d + 59) 19 [z_R 9010 0, z_I (nI t), z_I (nI i)] h = some (some (z_I (nI (rowN (stW k)))), h1) := e1
      have mb := m_hasBoth (d + 56) (I_m I1) (I_T I1) (nI t) (nI i)
      rw [g1] at mb
      obtain ⟨h3, k1, k2⟩ := m_order_loop (d + 39) ht hi1 hga hgb 9330 0 z_U z_U h1 (by omega) (mT_of I1)
      rw [hk, stN_0] at k1
      refine ⟨nI (stN k), h1, h3, ?_, ?_, G, Inv_scr (frX_fr k2 tW_g) I1⟩
      · simp (disch := first | omega | rfl | assumption) only [bX10_order_0, bX10_order_6, bX10_order_15, bX10_order_16, bX10_order_25, bX10_order_37, bX10_order_40, bX10_order_44, rX10_order, c_noNeighbours _ c hT, g1, c.1 10090 2 rfl, e1', c_numberOf _ hkW, q_cl, q_ps, q_pn, bI_t, bI_f, gI_same, gI_ne, gR_pI, gJ_pI, gV_pI, gN_pI, gC_pI, gS_pI, gI_pJ, gR_pJ, gV_pJ, gN_pJ, gJ_same, gJ_ne, gI_pR, gJ_pR, gV_pR, gN_pR, gR_same, gR_ne, zin_t, zin_f, x_ltt, x_ltf, x_let, x_lef, x_eqt, x_eqf, n_0, n_1, n_2, n_3, n_4, n_5, n_6, n_7, n_8, n_9, n_10, n_11, n_12, n_16, n_19, n_20, n_24, n_25, n_32, n_40, n_48, n_50, n_60, n_64, n_80, n_96, n_114, n_684, n_1000, n_9330, n_16806, n_1000000, n_5764800, ↓n_m, m_ltI, m_leI, m_lt', m_le', m_eq, m_eq', m_add, m_sub, mm_lt, mm_le, mm_eq, q_sub, nI_add, q_mul, nI_clamp, bz_0, bz_1, q_bzb, b_0, b_1, b_ft, b_tf, ne_eq, not_true_eq_false, not_false_eq_true, decide_true, decide_false, Bool.and_self, Bool.false_and, Bool.and_false, Bool.and_true, Bool.true_and, Bool.not_true, Bool.not_false, ↓reduceIte]
        rfl
      · simp (disch := first | omega | rfl | assumption) only [bX11_order_0, bX11_order_6, bX11_order_15, bX11_order_16, bX11_order_31, bX11_order_39, bX11_order_45, bX11_order_53, bX11_order_62, bX11_order_66, bX11_order_70, bX11_order_76, rX11_order, mb, q_cl, q_ps, q_pn, bI_t, bI_f, gI_same, gI_ne, gR_pI, gJ_pI, gV_pI, gN_pI, gC_pI, gS_pI, gI_pJ, gR_pJ, gV_pJ, gN_pJ, gJ_same, gJ_ne, gI_pR, gJ_pR, gV_pR, gN_pR, gR_same, gR_ne, zin_t, zin_f, x_ltt, x_ltf, x_let, x_lef, x_eqt, x_eqf, n_0, n_1, n_2, n_3, n_4, n_5, n_6, n_7, n_8, n_9, n_10, n_11, n_12, n_16, n_19, n_20, n_24, n_25, n_32, n_40, n_48, n_50, n_60, n_64, n_80, n_96, n_114, n_684, n_1000, n_9330, n_16806, n_1000000, n_5764800, ↓n_m, m_ltI, m_leI, m_lt', m_le', m_eq, m_eq', m_add, m_sub, mm_lt, mm_le, mm_eq, q_sub, nI_add, q_mul, nI_clamp, bz_0, bz_1, q_bzb, b_0, b_1, b_ft, b_tf, ne_eq, not_true_eq_false, not_false_eq_true, decide_true, decide_false, Bool.and_self, Bool.false_and, Bool.and_false, Bool.and_true, Bool.true_and, Bool.not_true, Bool.not_false, ↓reduceIte]
        exact k1
