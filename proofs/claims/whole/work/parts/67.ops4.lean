/-! ===== chains of tongues; forms that grow old ===== -/
theorem q_bit {c k : Nat} (hc : c < 2 ^ 32) (hk : k < 32) : z_ush (nI c) (nI k) &&& nI 1 = bI (c.testBit k) := by
  rw [q_ush hc hk, q_and, show (c / 2 ^ k) &&& 1 = c / 2 ^ k % 2 from Nat.and_two_pow_sub_one_eq_mod _ 1, Nat.testBit_eq_decide_div_mod_eq]
  by_cases hz : c / 2 ^ k % 2 = 1
  · simp [hz]; rfl
  · have : c / 2 ^ k % 2 = 0 := by omega
    rw [this]; rfl
def okCh (G : Gh) : Prop := ∀ t, gab G t ≤ t ∧ gch G t = (if gab G t = 0 then 0 else gch G (gab G t - 1)) + 2 ^ t
theorem ch_lt {G : Gh} (hc : okCh G) : ∀ t, gch G t < 2 ^ (t + 1) := by
  intro t
  induction t using Nat.strongRecOn with
  | ind t ih =>
    obtain ⟨h1, h2⟩ := hc t
    rw [h2, Nat.pow_succ]
    split
    · have : 0 < 2 ^ t := Nat.pow_pos (by decide)
      omega
    · have h3 := ih (gab G t - 1) (by omega)
      have h4 : 2 ^ (gab G t - 1 + 1) ≤ 2 ^ t := Nat.pow_le_pow_right (by decide) (by omega)
      omega
theorem ch_bit {G : Gh} (hc : okCh G) (t u : Nat) : (gch G t).testBit u = (decide (u = t) || (decide (gab G t ≠ 0) && (gch G (gab G t - 1)).testBit u)) := by
  obtain ⟨h1, h2⟩ := hc t
  have hl : (if gab G t = 0 then 0 else gch G (gab G t - 1)) < 2 ^ t := by
    split
    · exact Nat.pow_pos (by decide)
    · exact Nat.lt_of_lt_of_le (ch_lt hc _) (Nat.pow_le_pow_right (by decide) (by omega))
  have e : gch G t = 2 ^ t * 1 + (if gab G t = 0 then 0 else gch G (gab G t - 1)) := by rw [h2]; omega
  rw [e, Nat.two_pow_add_eq_or_of_lt hl, Nat.testBit_or, Nat.testBit_two_pow_mul]
  by_cases h0 : gab G t = 0
  · rw [if_pos h0]
    by_cases hu : u = t
    · subst hu; simp
    · have : (decide (u ≥ t) && Nat.testBit 1 (u - t)) = false := by
        by_cases hge : u ≥ t
        · have : Nat.testBit 1 (u - t) = false := Nat.testBit_lt_two_pow (by
            have : 2 ^ 1 ≤ 2 ^ (u - t) := Nat.pow_le_pow_right (by decide) (by omega)
            omega)
          rw [this]; simp
        · simp [hge]
      rw [this]
      simp [hu, h0]
  · rw [if_neg h0]
    by_cases hu : u = t
    · subst hu; simp
    · have : (decide (u ≥ t) && Nat.testBit 1 (u - t)) = false := by
        by_cases hge : u ≥ t
        · have : Nat.testBit 1 (u - t) = false := Nat.testBit_lt_two_pow (by
            have : 2 ^ 1 ≤ 2 ^ (u - t) := Nat.pow_le_pow_right (by decide) (by omega)
            omega)
          rw [this]; simp
        · simp [hge]
      rw [this]
      simp [hu, h0]
theorem ch_self {G : Gh} (hc : okCh G) (t : Nat) : (gch G t).testBit t = true := by rw [ch_bit hc]; simp
theorem ch_hi {G : Gh} (hc : okCh G) {t u : Nat} (h : t < u) : (gch G t).testBit u = false := Nat.testBit_lt_two_pow (Nat.lt_of_lt_of_le (ch_lt hc t) (Nat.pow_le_pow_right (by decide) (by omega)))
theorem frm_same {G G' : Gh} (hV : gvV G' = gvV G) (hLF : gLF G' = gLF G) (hab : gab G' = gab G) (hc : okCh G) (mu : Nat) : ∀ t w, (∀ u, (gch G t).testBit u = true → gow G' u = gow G u) → frm G' mu t w = frm G mu t w := by
  have ha : ∀ t, gab G t ≤ t := fun t => (hc t).1
  have ha' : ∀ t, gab G' t ≤ t := fun t => by rw [hab]; exact ha t
  intro t
  induction t using Nat.strongRecOn with
  | ind t ih =>
    intro w hu
    rw [frm_eq G' mu ha', frm_eq G mu ha, hV, hLF, hab, hu t (ch_self hc t)]
    by_cases h0 : gab G t = 0
    · rw [if_pos h0, if_pos h0]
    · rw [if_neg h0, if_neg h0, ih (gab G t - 1) (by have := ha t; omega) w (fun u hb => hu u (by rw [ch_bit hc]; simp [h0, hb]))]
theorem iFm_chg {h h' : z_H} {G G' : Gh} (f : frX [3, 16, 12] h h') (hT : gnT G' = gnT G) (m : iFm h G) (hs : ∀ t, t < gnT G → gI h' 7080 t 6 = 1 ∨ (gI h' 7080 t 6 = gI h 7080 t 6 ∧ ∀ s, pkJ G' t s = pkJ G t s)) : iFm h' G' := by
  obtain ⟨a1, a2, a3, a4, a5, a6, a7⟩ := m
  obtain ⟨f1, f2, f3, f4, f5, f6⟩ := f
  have n : (4 : Nat) ∉ [3, 16, 12] := by decide
  have e5 : ∀ t, gR h' 7080 t 5 = gR h 7080 t 5 := fun t => f2 _ _ _ (by exact n)
  have e42 : gN h' 42 = gN h 42 := f5 _ (by exact n)
  refine ⟨?_, ?_, ?_, ?_, ?_, ?_, ?_⟩
  · rcases a1 with ⟨z1, z2, z3, z4, z5⟩ | ⟨z1, z2, z3, z4, z5⟩
    · exact Or.inl ⟨(f2 _ _ _ (by exact n)).trans z1, (f5 _ (by exact n)).trans z2, (f5 _ (by exact n)).trans z3, (f4 _ _ (by exact n)).trans z4, (f4 _ _ (by exact n)).trans z5⟩
    · exact Or.inr ⟨(f2 _ _ _ (by exact n)).trans z1, (f2 _ _ _ (by exact n)).trans z2, (f5 _ (by exact n)).trans z3, (f5 _ (by exact n)).trans z4, fun s hs => (f1 _ _ _ (by exact n)).trans (z5 s hs)⟩
  · rw [e42, cF_congr e5]; exact a2
  · intro i hi
    rw [e42] at hi
    exact (f4 _ _ (by exact n)).trans (a3 i hi)
  · intro t; rw [e5, e42]; exact a4 t
  · intro t t' h1 h2; rw [e5] at h1; rw [e5, e5] at h2; exact a5 t t' h1 h2
  · intro t ht; rw [e5]; exact a6 t (by rw [hT] at ht; exact ht)
  · intro t ht
    rw [hT] at ht
    rcases hs t ht with z | ⟨z0, zp⟩
    · exact Or.inl z
    · rcases a7 t ht with z | ⟨z1, z2, z3⟩
      · exact Or.inl (z0.trans z)
      · refine Or.inr ⟨z0.trans z1, by rw [e5]; exact z2, fun s hs => ?_⟩
        rw [e5, zp s]
        exact (f3 _ _ _ (by exact n)).trans (z3 s hs)
theorem iRm_fr3 {h h' : z_H} (f : frX [3, 16, 12] h h') (e1 : gC h' = gC h) (e2 : gS h' = gS h) (e3 : gN h' 15 = gN h 15) (m : iRm h) : iRm h' := by
  obtain ⟨f1, f2, f3, f4, f5, f6⟩ := f
  unfold iRm
  rw [e1, e2, f5 51 (by decide), e3, f5 42 (by decide), f5 16 (by decide)]
  exact m
theorem Inv_ton {h h' : z_H} {N : Nat} {xs : Nat → Int32} {G G' : Gh} {e : Int32} (m : InvG h N xs G e) (f : frX [3, 16, 12] h h') (r : iRm h') (hV : gvV G' = gvV G) (hnL : gnL G' = gnL G) (hLF : gLF G' = gLF G) (hnT : gnT G' = gnT G) (t : iTon h' G') (F : iFm h' G') : InvG h' N xs G' e := by
  obtain ⟨a1, a2, a3, a4, a5, a6, a7, a8, a9, b1, b2, b3, b4, b5, b6, b7⟩ := m
  refine ⟨frX_mOK (by decide) f a1, frX_cOK (by decide) f a2, iSc_fr f (by decide) a3, iFd_fr f (by decide) a4, iOff_fr f (by decide) a5, iTap_fr f (by decide) a6, iShe_fr f (by decide) a7, r, ?_, ?_, t, F, ?_, ?_, ?_, iLi_fr f (by decide) b7⟩
  · rw [hV]; exact iVw_fr (by decide) f a9
  · rw [hV, hnL, hLF]; exact iLaw_fr (by decide) f b1
  · rw [hnT]; exact iFnd_fr f (by decide) b4
  · rw [hV]; exact iPr_fr f (by decide) b5
  · rw [hnL]; exact iLd_fr f (by decide) (by decide) (by decide) b6
def pS : Nat → Nat → Nat → Prop := fun p _ k => p = 7080 ∧ k = 6
theorem pS_g : ∀ p i k, pS p i k → grp p i k ∈ [3, 16, 12] := by
  rintro p i k ⟨rfl, rfl⟩
  exact (by decide : (16 : Nat) ∈ [3, 16, 12])
theorem c_age_loop (d : Nat) {G : Gh} (hc : okCh G) {t0 : Nat} (ht0 : t0 < 8) : ∀ (r i : Nat) (h : z_H), cOK h → gI h 9010 0 2 = nI (gnT G) → gnT G ≤ 8 → (∀ t, t < gnT G → gR h 8115 0 t = t + 1 ∧ gI h 7080 t 1 = nI (gch G t)) → i + r = gnT G →
    ∃ h', EX d 15 2 [z_R 9010 0, z_I (nI t0), z_I (nI i)] [] h = some (none, h') ∧ fr pS h h' ∧ (∀ t, i ≤ t → t < gnT G → (gch G t).testBit t0 = true → gI h' 7080 t 6 = 1) ∧ (∀ t, gI h' 7080 t 6 = gI h 7080 t 6 ∨ gI h' 7080 t 6 = 1) := by
  intro r
  induction r with
  | zero =>
    intro i h c n1 n8 hT hi
    refine ⟨h, ?_, fr_rfl _ _, fun t h1 h2 => by omega, fun t => Or.inl rfl⟩
    rw [bX1_ageBelow_2]
    simp (disch := first | omega | rfl | assumption) only [n1, bX1_ageBelow_42, q_cl, q_ps, q_pn, bI_t, bI_f, gI_same, gI_ne, gR_pI, gJ_pI, gV_pI, gN_pI, gC_pI, gS_pI, gI_pJ, gR_pJ, gV_pJ, gN_pJ, gJ_same, gJ_ne, gI_pR, gJ_pR, gV_pR, gN_pR, gR_same, gR_ne, zin_t, zin_f, x_ltt, x_ltf, x_let, x_lef, x_eqt, x_eqf, n_0, n_1, n_2, n_3, n_4, n_5, n_6, n_7, n_8, n_9, n_10, n_11, n_12, n_16, n_19, n_20, n_24, n_25, n_32, n_40, n_48, n_50, n_60, n_64, n_80, n_96, n_114, n_684, n_1000, n_9330, n_16806, n_1000000, n_5764800, ↓n_m, m_ltI, m_leI, m_lt', m_le', m_eq, m_eq', m_add, m_sub, mm_lt, mm_le, mm_eq, q_sub, nI_add, q_mul, nI_clamp, bz_0, bz_1, q_bzb, b_0, b_1, b_ft, b_tf, ne_eq, not_true_eq_false, not_false_eq_true, decide_true, decide_false, Bool.and_self, Bool.false_and, Bool.and_false, Bool.and_true, Bool.true_and, Bool.not_true, Bool.not_false, ↓reduceIte]
  | succ r ih =>
    intro i h c n1 n8 hT hi
    obtain ⟨t1, t2⟩ := hT i (by omega)
    have hcl := ch_lt hc i
    have h28 : 2 ^ (i + 1) ≤ 2 ^ 8 := Nat.pow_le_pow_right (by decide) (by omega)
    have hb : z_ush (nI (gch G i)) (nI t0) &&& nI 1 = bI ((gch G i).testBit t0) := q_bit (by omega) (by omega)
    cases hbit : (gch G i).testBit t0 with
    | false =>
      obtain ⟨h', q1, q2, q3, q4⟩ := ih (i + 1) h c n1 n8 hT (by omega)
      refine ⟨h', ?_, q2, fun t h1 h2 h3 => ?_, q4⟩
      · rw [bX1_ageBelow_2]
        simp (disch := first | omega | rfl | assumption) only [n1, c.1 9010 0 rfl, t1, t2, hb, hbit, bX1_ageBelow_36, q_cl, q_ps, q_pn, bI_t, bI_f, gI_same, gI_ne, gR_pI, gJ_pI, gV_pI, gN_pI, gC_pI, gS_pI, gI_pJ, gR_pJ, gV_pJ, gN_pJ, gJ_same, gJ_ne, gI_pR, gJ_pR, gV_pR, gN_pR, gR_same, gR_ne, zin_t, zin_f, x_ltt, x_ltf, x_let, x_lef, x_eqt, x_eqf, n_0, n_1, n_2, n_3, n_4, n_5, n_6, n_7, n_8, n_9, n_10, n_11, n_12, n_16, n_19, n_20, n_24, n_25, n_32, n_40, n_48, n_50, n_60, n_64, n_80, n_96, n_114, n_684, n_1000, n_9330, n_16806, n_1000000, n_5764800, ↓n_m, m_ltI, m_leI, m_lt', m_le', m_eq, m_eq', m_add, m_sub, mm_lt, mm_le, mm_eq, q_sub, nI_add, q_mul, nI_clamp, bz_0, bz_1, q_bzb, b_0, b_1, b_ft, b_tf, ne_eq, not_true_eq_false, not_false_eq_true, decide_true, decide_false, Bool.and_self, Bool.false_and, Bool.and_false, Bool.and_true, Bool.true_and, Bool.not_true, Bool.not_false, ↓reduceIte]
        exact q1
      · by_cases e : t = i
        · subst e; rw [hbit] at h3; cases h3
        · exact q3 t (by omega) h2 h3
    | true =>
      have f0 : fr pS h (pI h 7080 i 6 (nI 1)) := fr_pI h _ ⟨rfl, rfl⟩
      obtain ⟨h', q1, q2, q3, q4⟩ := ih (i + 1) (pI h 7080 i 6 (nI 1)) c (by simp (disch := first | omega | rfl | assumption) only [n1, q_cl, q_ps, q_pn, bI_t, bI_f, gI_same, gI_ne, gR_pI, gJ_pI, gV_pI, gN_pI, gC_pI, gS_pI, gI_pJ, gR_pJ, gV_pJ, gN_pJ, gJ_same, gJ_ne, gI_pR, gJ_pR, gV_pR, gN_pR, gR_same, gR_ne, zin_t, zin_f, x_ltt, x_ltf, x_let, x_lef, x_eqt, x_eqf, n_0, n_1, n_2, n_3, n_4, n_5, n_6, n_7, n_8, n_9, n_10, n_11, n_12, n_16, n_19, n_20, n_24, n_25, n_32, n_40, n_48, n_50, n_60, n_64, n_80, n_96, n_114, n_684, n_1000, n_9330, n_16806, n_1000000, n_5764800, ↓n_m, m_ltI, m_leI, m_lt', m_le', m_eq, m_eq', m_add, m_sub, mm_lt, mm_le, mm_eq, q_sub, nI_add, q_mul, nI_clamp, bz_0, bz_1, q_bzb, b_0, b_1, b_ft, b_tf, ne_eq, not_true_eq_false, not_false_eq_true, decide_true, decide_false, Bool.and_self, Bool.false_and, Bool.and_false, Bool.and_true, Bool.true_and, Bool.not_true, Bool.not_false, ↓reduceIte]) n8 (fun t ht => by simp (disch := first | omega | rfl | assumption) only [(hT t ht).1, (hT t ht).2, q_cl, q_ps, q_pn, bI_t, bI_f, gI_same, gI_ne, gR_pI, gJ_pI, gV_pI, gN_pI, gC_pI, gS_pI, gI_pJ, gR_pJ, gV_pJ, gN_pJ, gJ_same, gJ_ne, gI_pR, gJ_pR, gV_pR, gN_pR, gR_same, gR_ne, zin_t, zin_f, x_ltt, x_ltf, x_let, x_lef, x_eqt, x_eqf, n_0, n_1, n_2, n_3, n_4, n_5, n_6, n_7, n_8, n_9, n_10, n_11, n_12, n_16, n_19, n_20, n_24, n_25, n_32, n_40, n_48, n_50, n_60, n_64, n_80, n_96, n_114, n_684, n_1000, n_9330, n_16806, n_1000000, n_5764800, ↓n_m, m_ltI, m_leI, m_lt', m_le', m_eq, m_eq', m_add, m_sub, mm_lt, mm_le, mm_eq, q_sub, nI_add, q_mul, nI_clamp, bz_0, bz_1, q_bzb, b_0, b_1, b_ft, b_tf, ne_eq, not_true_eq_false, not_false_eq_true, decide_true, decide_false, Bool.and_self, Bool.false_and, Bool.and_false, Bool.and_true, Bool.true_and, Bool.not_true, Bool.not_false, ↓reduceIte]; exact ⟨trivial, trivial⟩) (by omega)
      refine ⟨h', ?_, fr_trans f0 q2, fun t h1 h2 h3 => ?_, fun t => ?_⟩
      · rw [bX1_ageBelow_2]
        simp (disch := first | omega | rfl | assumption) only [n1, c.1 9010 0 rfl, t1, t2, hb, hbit, bX1_ageBelow_36, q_cl, q_ps, q_pn, bI_t, bI_f, gI_same, gI_ne, gR_pI, gJ_pI, gV_pI, gN_pI, gC_pI, gS_pI, gI_pJ, gR_pJ, gV_pJ, gN_pJ, gJ_same, gJ_ne, gI_pR, gJ_pR, gV_pR, gN_pR, gR_same, gR_ne, zin_t, zin_f, x_ltt, x_ltf, x_let, x_lef, x_eqt, x_eqf, n_0, n_1, n_2, n_3, n_4, n_5, n_6, n_7, n_8, n_9, n_10, n_11, n_12, n_16, n_19, n_20, n_24, n_25, n_32, n_40, n_48, n_50, n_60, n_64, n_80, n_96, n_114, n_684, n_1000, n_9330, n_16806, n_1000000, n_5764800, ↓n_m, m_ltI, m_leI, m_lt', m_le', m_eq, m_eq', m_add, m_sub, mm_lt, mm_le, mm_eq, q_sub, nI_add, q_mul, nI_clamp, bz_0, bz_1, q_bzb, b_0, b_1, b_ft, b_tf, ne_eq, not_true_eq_false, not_false_eq_true, decide_true, decide_false, Bool.and_self, Bool.false_and, Bool.and_false, Bool.and_true, Bool.true_and, Bool.not_true, Bool.not_false, ↓reduceIte]
        exact q1
      · by_cases e : t = i
        · subst e
          rcases q4 t with z | z
          · rw [z]; simp (disch := first | omega | rfl | assumption) only [q_cl, q_ps, q_pn, bI_t, bI_f, gI_same, gI_ne, gR_pI, gJ_pI, gV_pI, gN_pI, gC_pI, gS_pI, gI_pJ, gR_pJ, gV_pJ, gN_pJ, gJ_same, gJ_ne, gI_pR, gJ_pR, gV_pR, gN_pR, gR_same, gR_ne, zin_t, zin_f, x_ltt, x_ltf, x_let, x_lef, x_eqt, x_eqf, n_0, n_1, n_2, n_3, n_4, n_5, n_6, n_7, n_8, n_9, n_10, n_11, n_12, n_16, n_19, n_20, n_24, n_25, n_32, n_40, n_48, n_50, n_60, n_64, n_80, n_96, n_114, n_684, n_1000, n_9330, n_16806, n_1000000, n_5764800, ↓n_m, m_ltI, m_leI, m_lt', m_le', m_eq, m_eq', m_add, m_sub, mm_lt, mm_le, mm_eq, q_sub, nI_add, q_mul, nI_clamp, bz_0, bz_1, q_bzb, b_0, b_1, b_ft, b_tf, ne_eq, not_true_eq_false, not_false_eq_true, decide_true, decide_false, Bool.and_self, Bool.false_and, Bool.and_false, Bool.and_true, Bool.true_and, Bool.not_true, Bool.not_false, ↓reduceIte]
          · exact z
        · exact q3 t (by omega) h2 h3
      · rcases q4 t with z | z
        · by_cases e : t = i
          · subst e; right; rw [z]; simp (disch := first | omega | rfl | assumption) only [q_cl, q_ps, q_pn, bI_t, bI_f, gI_same, gI_ne, gR_pI, gJ_pI, gV_pI, gN_pI, gC_pI, gS_pI, gI_pJ, gR_pJ, gV_pJ, gN_pJ, gJ_same, gJ_ne, gI_pR, gJ_pR, gV_pR, gN_pR, gR_same, gR_ne, zin_t, zin_f, x_ltt, x_ltf, x_let, x_lef, x_eqt, x_eqf, n_0, n_1, n_2, n_3, n_4, n_5, n_6, n_7, n_8, n_9, n_10, n_11, n_12, n_16, n_19, n_20, n_24, n_25, n_32, n_40, n_48, n_50, n_60, n_64, n_80, n_96, n_114, n_684, n_1000, n_9330, n_16806, n_1000000, n_5764800, ↓n_m, m_ltI, m_leI, m_lt', m_le', m_eq, m_eq', m_add, m_sub, mm_lt, mm_le, mm_eq, q_sub, nI_add, q_mul, nI_clamp, bz_0, bz_1, q_bzb, b_0, b_1, b_ft, b_tf, ne_eq, not_true_eq_false, not_false_eq_true, decide_true, decide_false, Bool.and_self, Bool.false_and, Bool.and_false, Bool.and_true, Bool.true_and, Bool.not_true, Bool.not_false, ↓reduceIte]
          · left; rw [z]; simp (disch := first | omega | rfl | assumption) only [q_cl, q_ps, q_pn, bI_t, bI_f, gI_same, gI_ne, gR_pI, gJ_pI, gV_pI, gN_pI, gC_pI, gS_pI, gI_pJ, gR_pJ, gV_pJ, gN_pJ, gJ_same, gJ_ne, gI_pR, gJ_pR, gV_pR, gN_pR, gR_same, gR_ne, zin_t, zin_f, x_ltt, x_ltf, x_let, x_lef, x_eqt, x_eqf, n_0, n_1, n_2, n_3, n_4, n_5, n_6, n_7, n_8, n_9, n_10, n_11, n_12, n_16, n_19, n_20, n_24, n_25, n_32, n_40, n_48, n_50, n_60, n_64, n_80, n_96, n_114, n_684, n_1000, n_9330, n_16806, n_1000000, n_5764800, ↓n_m, m_ltI, m_leI, m_lt', m_le', m_eq, m_eq', m_add, m_sub, mm_lt, mm_le, mm_eq, q_sub, nI_add, q_mul, nI_clamp, bz_0, bz_1, q_bzb, b_0, b_1, b_ft, b_tf, ne_eq, not_true_eq_false, not_false_eq_true, decide_true, decide_false, Bool.and_self, Bool.false_and, Bool.and_false, Bool.and_true, Bool.true_and, Bool.not_true, Bool.not_false, ↓reduceIte]
        · exact Or.inr z
theorem c_ageBelow (d : Nat) {G : Gh} (hc : okCh G) {t0 : Nat} (ht0 : t0 < gnT G) {h : z_H} (c : cOK h) (n1 : gI h 9010 0 2 = nI (gnT G)) (n8 : gnT G ≤ 8) (hT : ∀ t, t < gnT G → gR h 8115 0 t = t + 1 ∧ gI h 7080 t 1 = nI (gch G t)) :
    ∃ h', Rn (d + 1) 15 [z_R 9010 0, z_I (nI t0)] h = some (none, h') ∧ fr pS h h' ∧ (∀ t, t < gnT G → (gch G t).testBit t0 = true → gI h' 7080 t 6 = 1) ∧ (∀ t, gI h' 7080 t 6 = gI h 7080 t 6 ∨ gI h' 7080 t 6 = 1) := by
  obtain ⟨h', q1, q2, q3, q4⟩ := c_age_loop d hc (t0 := t0) (by omega) (gnT G - t0) t0 h c n1 n8 hT (by omega)
  refine ⟨h', ?_, q2, fun t h2 h3 => ?_, q4⟩
  · rw [rX1_ageBelow, bX1_ageBelow_0]; exact q1
  · by_cases hle : t0 ≤ t
    · exact q3 t hle h2 h3
    · rw [ch_hi hc (by omega)] at h3; cases h3
theorem c_ageAll_loop (d : Nat) {n : Nat} : ∀ (r i : Nat) (h : z_H), cOK h → gI h 9010 0 2 = nI n → n ≤ 8 → (∀ t, t < n → gR h 8115 0 t = t + 1) → i + r = n →
    ∃ h', EX d 14 2 [z_R 9010 0, z_I (nI i)] [] h = some (none, h') ∧ fr pS h h' ∧ (∀ t, i ≤ t → t < n → gI h' 7080 t 6 = 1) ∧ (∀ t, gI h' 7080 t 6 = gI h 7080 t 6 ∨ gI h' 7080 t 6 = 1) := by
  intro r
  induction r with
  | zero =>
    intro i h c n1 n8 hT hi
    refine ⟨h, ?_, fr_rfl _ _, fun t h1 h2 => by omega, fun t => Or.inl rfl⟩
    rw [bX1_ageAll_2]
    simp (disch := first | omega | rfl | assumption) only [n1, bX1_ageAll_26, q_cl, q_ps, q_pn, bI_t, bI_f, gI_same, gI_ne, gR_pI, gJ_pI, gV_pI, gN_pI, gC_pI, gS_pI, gI_pJ, gR_pJ, gV_pJ, gN_pJ, gJ_same, gJ_ne, gI_pR, gJ_pR, gV_pR, gN_pR, gR_same, gR_ne, zin_t, zin_f, x_ltt, x_ltf, x_let, x_lef, x_eqt, x_eqf, n_0, n_1, n_2, n_3, n_4, n_5, n_6, n_7, n_8, n_9, n_10, n_11, n_12, n_16, n_19, n_20, n_24, n_25, n_32, n_40, n_48, n_50, n_60, n_64, n_80, n_96, n_114, n_684, n_1000, n_9330, n_16806, n_1000000, n_5764800, ↓n_m, m_ltI, m_leI, m_lt', m_le', m_eq, m_eq', m_add, m_sub, mm_lt, mm_le, mm_eq, q_sub, nI_add, q_mul, nI_clamp, bz_0, bz_1, q_bzb, b_0, b_1, b_ft, b_tf, ne_eq, not_true_eq_false, not_false_eq_true, decide_true, decide_false, Bool.and_self, Bool.false_and, Bool.and_false, Bool.and_true, Bool.true_and, Bool.not_true, Bool.not_false, ↓reduceIte]
  | succ r ih =>
    intro i h c n1 n8 hT hi
    have f0 : fr pS h (pI h 7080 i 6 (nI 1)) := fr_pI h _ ⟨rfl, rfl⟩
    obtain ⟨h', q1, q2, q3, q4⟩ := ih (i + 1) (pI h 7080 i 6 (nI 1)) c (by simp (disch := first | omega | rfl | assumption) only [n1, q_cl, q_ps, q_pn, bI_t, bI_f, gI_same, gI_ne, gR_pI, gJ_pI, gV_pI, gN_pI, gC_pI, gS_pI, gI_pJ, gR_pJ, gV_pJ, gN_pJ, gJ_same, gJ_ne, gI_pR, gJ_pR, gV_pR, gN_pR, gR_same, gR_ne, zin_t, zin_f, x_ltt, x_ltf, x_let, x_lef, x_eqt, x_eqf, n_0, n_1, n_2, n_3, n_4, n_5, n_6, n_7, n_8, n_9, n_10, n_11, n_12, n_16, n_19, n_20, n_24, n_25, n_32, n_40, n_48, n_50, n_60, n_64, n_80, n_96, n_114, n_684, n_1000, n_9330, n_16806, n_1000000, n_5764800, ↓n_m, m_ltI, m_leI, m_lt', m_le', m_eq, m_eq', m_add, m_sub, mm_lt, mm_le, mm_eq, q_sub, nI_add, q_mul, nI_clamp, bz_0, bz_1, q_bzb, b_0, b_1, b_ft, b_tf, ne_eq, not_true_eq_false, not_false_eq_true, decide_true, decide_false, Bool.and_self, Bool.false_and, Bool.and_false, Bool.and_true, Bool.true_and, Bool.not_true, Bool.not_false, ↓reduceIte]) n8 hT (by omega)
    refine ⟨h', ?_, fr_trans f0 q2, fun t h1 h2 => ?_, fun t => ?_⟩
    · rw [bX1_ageAll_2]
      simp (disch := first | omega | rfl | assumption) only [n1, c.1 9010 0 rfl, hT i (by omega), q_cl, q_ps, q_pn, bI_t, bI_f, gI_same, gI_ne, gR_pI, gJ_pI, gV_pI, gN_pI, gC_pI, gS_pI, gI_pJ, gR_pJ, gV_pJ, gN_pJ, gJ_same, gJ_ne, gI_pR, gJ_pR, gV_pR, gN_pR, gR_same, gR_ne, zin_t, zin_f, x_ltt, x_ltf, x_let, x_lef, x_eqt, x_eqf, n_0, n_1, n_2, n_3, n_4, n_5, n_6, n_7, n_8, n_9, n_10, n_11, n_12, n_16, n_19, n_20, n_24, n_25, n_32, n_40, n_48, n_50, n_60, n_64, n_80, n_96, n_114, n_684, n_1000, n_9330, n_16806, n_1000000, n_5764800, ↓n_m, m_ltI, m_leI, m_lt', m_le', m_eq, m_eq', m_add, m_sub, mm_lt, mm_le, mm_eq, q_sub, nI_add, q_mul, nI_clamp, bz_0, bz_1, q_bzb, b_0, b_1, b_ft, b_tf, ne_eq, not_true_eq_false, not_false_eq_true, decide_true, decide_false, Bool.and_self, Bool.false_and, Bool.and_false, Bool.and_true, Bool.true_and, Bool.not_true, Bool.not_false, ↓reduceIte]
      exact q1
    · by_cases e : t = i
      · subst e
        rcases q4 t with z | z
        · rw [z]; simp (disch := first | omega | rfl | assumption) only [q_cl, q_ps, q_pn, bI_t, bI_f, gI_same, gI_ne, gR_pI, gJ_pI, gV_pI, gN_pI, gC_pI, gS_pI, gI_pJ, gR_pJ, gV_pJ, gN_pJ, gJ_same, gJ_ne, gI_pR, gJ_pR, gV_pR, gN_pR, gR_same, gR_ne, zin_t, zin_f, x_ltt, x_ltf, x_let, x_lef, x_eqt, x_eqf, n_0, n_1, n_2, n_3, n_4, n_5, n_6, n_7, n_8, n_9, n_10, n_11, n_12, n_16, n_19, n_20, n_24, n_25, n_32, n_40, n_48, n_50, n_60, n_64, n_80, n_96, n_114, n_684, n_1000, n_9330, n_16806, n_1000000, n_5764800, ↓n_m, m_ltI, m_leI, m_lt', m_le', m_eq, m_eq', m_add, m_sub, mm_lt, mm_le, mm_eq, q_sub, nI_add, q_mul, nI_clamp, bz_0, bz_1, q_bzb, b_0, b_1, b_ft, b_tf, ne_eq, not_true_eq_false, not_false_eq_true, decide_true, decide_false, Bool.and_self, Bool.false_and, Bool.and_false, Bool.and_true, Bool.true_and, Bool.not_true, Bool.not_false, ↓reduceIte]
        · exact z
      · exact q3 t (by omega) h2
    · rcases q4 t with z | z
      · by_cases e : t = i
        · subst e; right; rw [z]; simp (disch := first | omega | rfl | assumption) only [q_cl, q_ps, q_pn, bI_t, bI_f, gI_same, gI_ne, gR_pI, gJ_pI, gV_pI, gN_pI, gC_pI, gS_pI, gI_pJ, gR_pJ, gV_pJ, gN_pJ, gJ_same, gJ_ne, gI_pR, gJ_pR, gV_pR, gN_pR, gR_same, gR_ne, zin_t, zin_f, x_ltt, x_ltf, x_let, x_lef, x_eqt, x_eqf, n_0, n_1, n_2, n_3, n_4, n_5, n_6, n_7, n_8, n_9, n_10, n_11, n_12, n_16, n_19, n_20, n_24, n_25, n_32, n_40, n_48, n_50, n_60, n_64, n_80, n_96, n_114, n_684, n_1000, n_9330, n_16806, n_1000000, n_5764800, ↓n_m, m_ltI, m_leI, m_lt', m_le', m_eq, m_eq', m_add, m_sub, mm_lt, mm_le, mm_eq, q_sub, nI_add, q_mul, nI_clamp, bz_0, bz_1, q_bzb, b_0, b_1, b_ft, b_tf, ne_eq, not_true_eq_false, not_false_eq_true, decide_true, decide_false, Bool.and_self, Bool.false_and, Bool.and_false, Bool.and_true, Bool.true_and, Bool.not_true, Bool.not_false, ↓reduceIte]
        · left; rw [z]; simp (disch := first | omega | rfl | assumption) only [q_cl, q_ps, q_pn, bI_t, bI_f, gI_same, gI_ne, gR_pI, gJ_pI, gV_pI, gN_pI, gC_pI, gS_pI, gI_pJ, gR_pJ, gV_pJ, gN_pJ, gJ_same, gJ_ne, gI_pR, gJ_pR, gV_pR, gN_pR, gR_same, gR_ne, zin_t, zin_f, x_ltt, x_ltf, x_let, x_lef, x_eqt, x_eqf, n_0, n_1, n_2, n_3, n_4, n_5, n_6, n_7, n_8, n_9, n_10, n_11, n_12, n_16, n_19, n_20, n_24, n_25, n_32, n_40, n_48, n_50, n_60, n_64, n_80, n_96, n_114, n_684, n_1000, n_9330, n_16806, n_1000000, n_5764800, ↓n_m, m_ltI, m_leI, m_lt', m_le', m_eq, m_eq', m_add, m_sub, mm_lt, mm_le, mm_eq, q_sub, nI_add, q_mul, nI_clamp, bz_0, bz_1, q_bzb, b_0, b_1, b_ft, b_tf, ne_eq, not_true_eq_false, not_false_eq_true, decide_true, decide_false, Bool.and_self, Bool.false_and, Bool.and_false, Bool.and_true, Bool.true_and, Bool.not_true, Bool.not_false, ↓reduceIte]
      · exact Or.inr z
theorem c_ageAll (d : Nat) {n : Nat} {h : z_H} (c : cOK h) (n1 : gI h 9010 0 2 = nI n) (n8 : n ≤ 8) (hT : ∀ t, t < n → gR h 8115 0 t = t + 1) :
    ∃ h', Rn (d + 1) 14 [z_R 9010 0] h = some (none, h') ∧ fr pS h h' ∧ (∀ t, t < n → gI h' 7080 t 6 = 1) := by
  obtain ⟨h', q1, q2, q3, q4⟩ := c_ageAll_loop d n 0 h c n1 n8 hT (by omega)
  refine ⟨h', ?_, q2, fun t h2 => q3 t (by omega) h2⟩
  rw [rX1_ageAll, bX1_ageAll_0]; exact q1
/-! ghosts that change -/
def gsOw (G : Gh) (t : Nat) (l : List Nat) : Gh := (gvV G, gnL G, gLF G, gnT G, gab G, gch G, fun u => if u = t then l else gow G u, gsg G)
def gsSg (G : Gh) (t s v : Nat) : Gh := (gvV G, gnL G, gLF G, gnT G, gab G, gch G, gow G, fun u => if u = t then (fun r => if r = s then v else gsg G u r) else gsg G u)
theorem op_script {N : Nat} {xs : Nat → Int32} (d : Nat) {h : z_H} (hI : Inv h N xs) (x1 x2 x3 : Int32) : OKc N xs (d + 60) 96 183 [z_I x1, z_I x2, z_I x3] h := by
  obtain ⟨G, hG⟩ := hI
  have m := I_m hG
  have c := I_c hG
  have hT := I_T hG
  obtain ⟨a1, a2, a3, a4, a5, a6, a7, a8, a9, a0⟩ := hT
  have nl : gnT G < 2 ^ 31 := by omega
  cases g1 : z_in x1 (gnT G) with
  | false => exact OK_ref2 hG (-1000001) (by simp (disch := first | omega | rfl | assumption) only [bX10_script_0, bX10_script_5, bX10_script_29, bX10_script_35, bX10_script_36, rX10_script, c_noTongue (h := h) _ nl c a1, g1, c_finding, q_cl, q_ps, q_pn, bI_t, bI_f, gI_same, gI_ne, gR_pI, gJ_pI, gV_pI, gN_pI, gC_pI, gS_pI, gI_pJ, gR_pJ, gV_pJ, gN_pJ, gJ_same, gJ_ne, gI_pR, gJ_pR, gV_pR, gN_pR, gR_same, gR_ne, zin_t, zin_f, x_ltt, x_ltf, x_let, x_lef, x_eqt, x_eqf, n_0, n_1, n_2, n_3, n_4, n_5, n_6, n_7, n_8, n_9, n_10, n_11, n_12, n_16, n_19, n_20, n_24, n_25, n_32, n_40, n_48, n_50, n_60, n_64, n_80, n_96, n_114, n_684, n_1000, n_9330, n_16806, n_1000000, n_5764800, ↓n_m, m_ltI, m_leI, m_lt', m_le', m_eq, m_eq', m_add, m_sub, mm_lt, mm_le, mm_eq, q_sub, nI_add, q_mul, nI_clamp, bz_0, bz_1, q_bzb, b_0, b_1, b_ft, b_tf, ne_eq, not_true_eq_false, not_false_eq_true, decide_true, decide_false, Bool.and_self, Bool.false_and, Bool.and_false, Bool.and_true, Bool.true_and, Bool.not_true, Bool.not_false, ↓reduceIte]) (by simp (disch := first | omega | rfl | assumption) only [bX11_script_0, bX11_script_5, bX11_script_12, bX11_script_21, bX11_script_24, bX11_script_30, bX11_script_31, rX11_script, m_isTongue (h := (pI h 10090 0 9 (gI h 10090 0 9 + nI 1))) _ nl (by simp (disch := first | omega | rfl | assumption) only [a2, q_cl, q_ps, q_pn, bI_t, bI_f, gI_same, gI_ne, gR_pI, gJ_pI, gV_pI, gN_pI, gC_pI, gS_pI, gI_pJ, gR_pJ, gV_pJ, gN_pJ, gJ_same, gJ_ne, gI_pR, gJ_pR, gV_pR, gN_pR, gR_same, gR_ne, zin_t, zin_f, x_ltt, x_ltf, x_let, x_lef, x_eqt, x_eqf, n_0, n_1, n_2, n_3, n_4, n_5, n_6, n_7, n_8, n_9, n_10, n_11, n_12, n_16, n_19, n_20, n_24, n_25, n_32, n_40, n_48, n_50, n_60, n_64, n_80, n_96, n_114, n_684, n_1000, n_9330, n_16806, n_1000000, n_5764800, ↓n_m, m_ltI, m_leI, m_lt', m_le', m_eq, m_eq', m_add, m_sub, mm_lt, mm_le, mm_eq, q_sub, nI_add, q_mul, nI_clamp, bz_0, bz_1, q_bzb, b_0, b_1, b_ft, b_tf, ne_eq, not_true_eq_false, not_false_eq_true, decide_true, decide_false, Bool.and_self, Bool.false_and, Bool.and_false, Bool.and_true, Bool.true_and, Bool.not_true, Bool.not_false, ↓reduceIte]), g1, m_finding, q_cl, q_ps, q_pn, bI_t, bI_f, gI_same, gI_ne, gR_pI, gJ_pI, gV_pI, gN_pI, gC_pI, gS_pI, gI_pJ, gR_pJ, gV_pJ, gN_pJ, gJ_same, gJ_ne, gI_pR, gJ_pR, gV_pR, gN_pR, gR_same, gR_ne, zin_t, zin_f, x_ltt, x_ltf, x_let, x_lef, x_eqt, x_eqf, n_0, n_1, n_2, n_3, n_4, n_5, n_6, n_7, n_8, n_9, n_10, n_11, n_12, n_16, n_19, n_20, n_24, n_25, n_32, n_40, n_48, n_50, n_60, n_64, n_80, n_96, n_114, n_684, n_1000, n_9330, n_16806, n_1000000, n_5764800, ↓n_m, m_ltI, m_leI, m_lt', m_le', m_eq, m_eq', m_add, m_sub, mm_lt, mm_le, mm_eq, q_sub, nI_add, q_mul, nI_clamp, bz_0, bz_1, q_bzb, b_0, b_1, b_ft, b_tf, ne_eq, not_true_eq_false, not_false_eq_true, decide_true, decide_false, Bool.and_self, Bool.false_and, Bool.and_false, Bool.and_true, Bool.true_and, Bool.not_true, Bool.not_false, ↓reduceIte])
  | true =>
    obtain ⟨t, ht, -, rfl⟩ := zin_of g1
    cases g2 : z_in x2 6 with
    | false =>
      refine OK_ref2 hG (-1000001) ?_ (by simp (disch := first | omega | rfl | assumption) only [bX11_script_0, bX11_script_5, bX11_script_12, bX11_script_21, bX11_script_24, bX11_script_30, bX11_script_31, rX11_script, m_isTongue (h := (pI h 10090 0 9 (gI h 10090 0 9 + nI 1))) _ nl (by simp (disch := first | omega | rfl | assumption) only [a2, q_cl, q_ps, q_pn, bI_t, bI_f, gI_same, gI_ne, gR_pI, gJ_pI, gV_pI, gN_pI, gC_pI, gS_pI, gI_pJ, gR_pJ, gV_pJ, gN_pJ, gJ_same, gJ_ne, gI_pR, gJ_pR, gV_pR, gN_pR, gR_same, gR_ne, zin_t, zin_f, x_ltt, x_ltf, x_let, x_lef, x_eqt, x_eqf, n_0, n_1, n_2, n_3, n_4, n_5, n_6, n_7, n_8, n_9, n_10, n_11, n_12, n_16, n_19, n_20, n_24, n_25, n_32, n_40, n_48, n_50, n_60, n_64, n_80, n_96, n_114, n_684, n_1000, n_9330, n_16806, n_1000000, n_5764800, ↓n_m, m_ltI, m_leI, m_lt', m_le', m_eq, m_eq', m_add, m_sub, mm_lt, mm_le, mm_eq, q_sub, nI_add, q_mul, nI_clamp, bz_0, bz_1, q_bzb, b_0, b_1, b_ft, b_tf, ne_eq, not_true_eq_false, not_false_eq_true, decide_true, decide_false, Bool.and_self, Bool.false_and, Bool.and_false, Bool.and_true, Bool.true_and, Bool.not_true, Bool.not_false, ↓reduceIte]), g1, m_isSound, g2, m_finding, q_cl, q_ps, q_pn, bI_t, bI_f, gI_same, gI_ne, gR_pI, gJ_pI, gV_pI, gN_pI, gC_pI, gS_pI, gI_pJ, gR_pJ, gV_pJ, gN_pJ, gJ_same, gJ_ne, gI_pR, gJ_pR, gV_pR, gN_pR, gR_same, gR_ne, zin_t, zin_f, x_ltt, x_ltf, x_let, x_lef, x_eqt, x_eqf, n_0, n_1, n_2, n_3, n_4, n_5, n_6, n_7, n_8, n_9, n_10, n_11, n_12, n_16, n_19, n_20, n_24, n_25, n_32, n_40, n_48, n_50, n_60, n_64, n_80, n_96, n_114, n_684, n_1000, n_9330, n_16806, n_1000000, n_5764800, ↓n_m, m_ltI, m_leI, m_lt', m_le', m_eq, m_eq', m_add, m_sub, mm_lt, mm_le, mm_eq, q_sub, nI_add, q_mul, nI_clamp, bz_0, bz_1, q_bzb, b_0, b_1, b_ft, b_tf, ne_eq, not_true_eq_false, not_false_eq_true, decide_true, decide_false, Bool.and_self, Bool.false_and, Bool.and_false, Bool.and_true, Bool.true_and, Bool.not_true, Bool.not_false, ↓reduceIte])
      rcases neg_or x2 with hx | ⟨y, hy, rfl⟩
      · simp (disch := first | omega | rfl | assumption) only [bX10_script_0, bX10_script_5, bX10_script_29, bX10_script_35, bX10_script_36, rX10_script, c_noTongue (h := h) _ nl c a1, g1, hx, c_finding, q_cl, q_ps, q_pn, bI_t, bI_f, gI_same, gI_ne, gR_pI, gJ_pI, gV_pI, gN_pI, gC_pI, gS_pI, gI_pJ, gR_pJ, gV_pJ, gN_pJ, gJ_same, gJ_ne, gI_pR, gJ_pR, gV_pR, gN_pR, gR_same, gR_ne, zin_t, zin_f, x_ltt, x_ltf, x_let, x_lef, x_eqt, x_eqf, n_0, n_1, n_2, n_3, n_4, n_5, n_6, n_7, n_8, n_9, n_10, n_11, n_12, n_16, n_19, n_20, n_24, n_25, n_32, n_40, n_48, n_50, n_60, n_64, n_80, n_96, n_114, n_684, n_1000, n_9330, n_16806, n_1000000, n_5764800, ↓n_m, m_ltI, m_leI, m_lt', m_le', m_eq, m_eq', m_add, m_sub, mm_lt, mm_le, mm_eq, q_sub, nI_add, q_mul, nI_clamp, bz_0, bz_1, q_bzb, b_0, b_1, b_ft, b_tf, ne_eq, not_true_eq_false, not_false_eq_true, decide_true, decide_false, Bool.and_self, Bool.false_and, Bool.and_false, Bool.and_true, Bool.true_and, Bool.not_true, Bool.not_false, ↓reduceIte]
      · have : ¬ y < 6 := fun z => by rw [zin_t hy z] at g2; cases g2
        simp (disch := first | omega | rfl | assumption) only [bX10_script_0, bX10_script_5, bX10_script_29, bX10_script_35, bX10_script_36, rX10_script, c_noTongue (h := h) _ nl c a1, g1, c_finding, q_cl, q_ps, q_pn, bI_t, bI_f, gI_same, gI_ne, gR_pI, gJ_pI, gV_pI, gN_pI, gC_pI, gS_pI, gI_pJ, gR_pJ, gV_pJ, gN_pJ, gJ_same, gJ_ne, gI_pR, gJ_pR, gV_pR, gN_pR, gR_same, gR_ne, zin_t, zin_f, x_ltt, x_ltf, x_let, x_lef, x_eqt, x_eqf, n_0, n_1, n_2, n_3, n_4, n_5, n_6, n_7, n_8, n_9, n_10, n_11, n_12, n_16, n_19, n_20, n_24, n_25, n_32, n_40, n_48, n_50, n_60, n_64, n_80, n_96, n_114, n_684, n_1000, n_9330, n_16806, n_1000000, n_5764800, ↓n_m, m_ltI, m_leI, m_lt', m_le', m_eq, m_eq', m_add, m_sub, mm_lt, mm_le, mm_eq, q_sub, nI_add, q_mul, nI_clamp, bz_0, bz_1, q_bzb, b_0, b_1, b_ft, b_tf, ne_eq, not_true_eq_false, not_false_eq_true, decide_true, decide_false, Bool.and_self, Bool.false_and, Bool.and_false, Bool.and_true, Bool.true_and, Bool.not_true, Bool.not_false, ↓reduceIte]
    | true =>
      obtain ⟨s, hs, -, rfl⟩ := zin_of g2
      have ref : (Rn (d + 60) 96 [z_R 10090 0, z_I (nI t), z_I (nI s), z_I x3] h = some (some (z_I (-1000001)), (pI h 10090 0 9 (gI h 10090 0 9 + nI 1)))) → (mI ≤ x3) = False ∨ (x3 ≤ nI 5) = False → OKc N xs (d + 60) 96 183 [z_I (nI t), z_I (nI s), z_I x3] h := by
        intro q1 q2
        refine OK_ref2 hG (-1000001) q1 ?_
        rcases q2 with z | z
        · simp (disch := first | omega | rfl | assumption) only [bX11_script_0, bX11_script_5, bX11_script_12, bX11_script_21, bX11_script_24, bX11_script_30, bX11_script_31, rX11_script, m_isTongue (h := (pI h 10090 0 9 (gI h 10090 0 9 + nI 1))) _ nl (by simp (disch := first | omega | rfl | assumption) only [a2, q_cl, q_ps, q_pn, bI_t, bI_f, gI_same, gI_ne, gR_pI, gJ_pI, gV_pI, gN_pI, gC_pI, gS_pI, gI_pJ, gR_pJ, gV_pJ, gN_pJ, gJ_same, gJ_ne, gI_pR, gJ_pR, gV_pR, gN_pR, gR_same, gR_ne, zin_t, zin_f, x_ltt, x_ltf, x_let, x_lef, x_eqt, x_eqf, n_0, n_1, n_2, n_3, n_4, n_5, n_6, n_7, n_8, n_9, n_10, n_11, n_12, n_16, n_19, n_20, n_24, n_25, n_32, n_40, n_48, n_50, n_60, n_64, n_80, n_96, n_114, n_684, n_1000, n_9330, n_16806, n_1000000, n_5764800, ↓n_m, m_ltI, m_leI, m_lt', m_le', m_eq, m_eq', m_add, m_sub, mm_lt, mm_le, mm_eq, q_sub, nI_add, q_mul, nI_clamp, bz_0, bz_1, q_bzb, b_0, b_1, b_ft, b_tf, ne_eq, not_true_eq_false, not_false_eq_true, decide_true, decide_false, Bool.and_self, Bool.false_and, Bool.and_false, Bool.and_true, Bool.true_and, Bool.not_true, Bool.not_false, ↓reduceIte]), g1, m_isSound, g2, m_withinN, z, m_finding, q_cl, q_ps, q_pn, bI_t, bI_f, gI_same, gI_ne, gR_pI, gJ_pI, gV_pI, gN_pI, gC_pI, gS_pI, gI_pJ, gR_pJ, gV_pJ, gN_pJ, gJ_same, gJ_ne, gI_pR, gJ_pR, gV_pR, gN_pR, gR_same, gR_ne, zin_t, zin_f, x_ltt, x_ltf, x_let, x_lef, x_eqt, x_eqf, n_0, n_1, n_2, n_3, n_4, n_5, n_6, n_7, n_8, n_9, n_10, n_11, n_12, n_16, n_19, n_20, n_24, n_25, n_32, n_40, n_48, n_50, n_60, n_64, n_80, n_96, n_114, n_684, n_1000, n_9330, n_16806, n_1000000, n_5764800, ↓n_m, m_ltI, m_leI, m_lt', m_le', m_eq, m_eq', m_add, m_sub, mm_lt, mm_le, mm_eq, q_sub, nI_add, q_mul, nI_clamp, bz_0, bz_1, q_bzb, b_0, b_1, b_ft, b_tf, ne_eq, not_true_eq_false, not_false_eq_true, decide_true, decide_false, Bool.and_self, Bool.false_and, Bool.and_false, Bool.and_true, Bool.true_and, Bool.not_true, Bool.not_false, ↓reduceIte]
        · simp (disch := first | omega | rfl | assumption) only [bX11_script_0, bX11_script_5, bX11_script_12, bX11_script_21, bX11_script_24, bX11_script_30, bX11_script_31, rX11_script, m_isTongue (h := (pI h 10090 0 9 (gI h 10090 0 9 + nI 1))) _ nl (by simp (disch := first | omega | rfl | assumption) only [a2, q_cl, q_ps, q_pn, bI_t, bI_f, gI_same, gI_ne, gR_pI, gJ_pI, gV_pI, gN_pI, gC_pI, gS_pI, gI_pJ, gR_pJ, gV_pJ, gN_pJ, gJ_same, gJ_ne, gI_pR, gJ_pR, gV_pR, gN_pR, gR_same, gR_ne, zin_t, zin_f, x_ltt, x_ltf, x_let, x_lef, x_eqt, x_eqf, n_0, n_1, n_2, n_3, n_4, n_5, n_6, n_7, n_8, n_9, n_10, n_11, n_12, n_16, n_19, n_20, n_24, n_25, n_32, n_40, n_48, n_50, n_60, n_64, n_80, n_96, n_114, n_684, n_1000, n_9330, n_16806, n_1000000, n_5764800, ↓n_m, m_ltI, m_leI, m_lt', m_le', m_eq, m_eq', m_add, m_sub, mm_lt, mm_le, mm_eq, q_sub, nI_add, q_mul, nI_clamp, bz_0, bz_1, q_bzb, b_0, b_1, b_ft, b_tf, ne_eq, not_true_eq_false, not_false_eq_true, decide_true, decide_false, Bool.and_self, Bool.false_and, Bool.and_false, Bool.and_true, Bool.true_and, Bool.not_true, Bool.not_false, ↓reduceIte]), g1, m_isSound, g2, m_withinN, z, m_finding, q_cl, q_ps, q_pn, bI_t, bI_f, gI_same, gI_ne, gR_pI, gJ_pI, gV_pI, gN_pI, gC_pI, gS_pI, gI_pJ, gR_pJ, gV_pJ, gN_pJ, gJ_same, gJ_ne, gI_pR, gJ_pR, gV_pR, gN_pR, gR_same, gR_ne, zin_t, zin_f, x_ltt, x_ltf, x_let, x_lef, x_eqt, x_eqf, n_0, n_1, n_2, n_3, n_4, n_5, n_6, n_7, n_8, n_9, n_10, n_11, n_12, n_16, n_19, n_20, n_24, n_25, n_32, n_40, n_48, n_50, n_60, n_64, n_80, n_96, n_114, n_684, n_1000, n_9330, n_16806, n_1000000, n_5764800, ↓n_m, m_ltI, m_leI, m_lt', m_le', m_eq, m_eq', m_add, m_sub, mm_lt, mm_le, mm_eq, q_sub, nI_add, q_mul, nI_clamp, bz_0, bz_1, q_bzb, b_0, b_1, b_ft, b_tf, ne_eq, not_true_eq_false, not_false_eq_true, decide_true, decide_false, Bool.and_self, Bool.false_and, Bool.and_false, Bool.and_true, Bool.true_and, Bool.not_true, Bool.not_false, ↓reduceIte]
      have good : ∀ v, v ≤ 6 → x3 = mkI v → OKc N xs (d + 60) 96 183 [z_I (nI t), z_I (nI s), z_I x3] h := by
        intro v hv hx
        have e1 : (mkI v < mI) = False ∧ (mkI v < nI 6) = True ∧ (mI ≤ mkI v) = True ∧ (mkI v ≤ nI 5) = True := by
          by_cases v0 : v = 0
          · subst v0
            rw [mk_0]
            exact ⟨mm_lt, m_ltI (by decide), mm_le, m_leI (by decide)⟩
          · rw [mkI_pos (by omega)]
            exact ⟨m_lt' (by omega), x_ltt (by omega) (by omega), m_leI (by omega), x_let (by omega) (by omega)⟩
        obtain ⟨u1, u2, u3, u4⟩ := e1
        subst hx
        have hTt := a4 t ht
        obtain ⟨b1, b2, b3, b4, b5, b6, b7, b8, b9, c1, c2, c3, c4⟩ := hTt
        have F : frX [3, 16, 12] h (pI (pI (pI h 6391 t s (mkI v)) 7080 t 6 (nI 1)) 48521 0 (6 * t + s) (mkI v)) := (frX_trans (frX_trans (frX_pI2 3 rfl (by decide) _ _) (frX_pI2 16 rfl (by decide) _ _)) (frX_pI2 3 rfl (by decide) _ _))
        refine ⟨mkI (gsg G t s), (pI (pI h 6391 t s (mkI v)) 7080 t 6 (nI 1)), (pI (pI (pI h 6391 t s (mkI v)) 7080 t 6 (nI 1)) 48521 0 (6 * t + s) (mkI v)), ?_, ?_, gsSg G t s v, Inv_ton hG F (iRm_fr3 F rfl rfl rfl (I_rm hG)) rfl rfl rfl rfl ⟨?_, ?_, a3, fun u hu => ?_, a5, fun u h1 h2 => ?_, a7, a8, a9, a0⟩ (iFm_chg (G := G) F rfl (I_F hG) (fun u hu => ?_))⟩
        · simp (disch := first | omega | rfl | assumption) only [bX10_script_0, bX10_script_5, bX10_script_29, bX10_script_35, bX10_script_36, rX10_script, c_noTongue (h := h) _ nl c a1, g1, u1, u2, c.1 10090 2 rfl, c.1 9010 0 rfl, b1, b5, c1 s hs, q_cl, q_ps, q_pn, bI_t, bI_f, gI_same, gI_ne, gR_pI, gJ_pI, gV_pI, gN_pI, gC_pI, gS_pI, gI_pJ, gR_pJ, gV_pJ, gN_pJ, gJ_same, gJ_ne, gI_pR, gJ_pR, gV_pR, gN_pR, gR_same, gR_ne, zin_t, zin_f, x_ltt, x_ltf, x_let, x_lef, x_eqt, x_eqf, n_0, n_1, n_2, n_3, n_4, n_5, n_6, n_7, n_8, n_9, n_10, n_11, n_12, n_16, n_19, n_20, n_24, n_25, n_32, n_40, n_48, n_50, n_60, n_64, n_80, n_96, n_114, n_684, n_1000, n_9330, n_16806, n_1000000, n_5764800, ↓n_m, m_ltI, m_leI, m_lt', m_le', m_eq, m_eq', m_add, m_sub, mm_lt, mm_le, mm_eq, q_sub, nI_add, q_mul, nI_clamp, bz_0, bz_1, q_bzb, b_0, b_1, b_ft, b_tf, ne_eq, not_true_eq_false, not_false_eq_true, decide_true, decide_false, Bool.and_self, Bool.false_and, Bool.and_false, Bool.and_true, Bool.true_and, Bool.not_true, Bool.not_false, ↓reduceIte]
        · simp (disch := first | omega | rfl | assumption) only [bX11_script_0, bX11_script_5, bX11_script_12, bX11_script_21, bX11_script_24, bX11_script_30, bX11_script_31, rX11_script, m_isTongue (h := (pI (pI h 6391 t s (mkI v)) 7080 t 6 (nI 1))) _ nl (by simp (disch := first | omega | rfl | assumption) only [a2, q_cl, q_ps, q_pn, bI_t, bI_f, gI_same, gI_ne, gR_pI, gJ_pI, gV_pI, gN_pI, gC_pI, gS_pI, gI_pJ, gR_pJ, gV_pJ, gN_pJ, gJ_same, gJ_ne, gI_pR, gJ_pR, gV_pR, gN_pR, gR_same, gR_ne, zin_t, zin_f, x_ltt, x_ltf, x_let, x_lef, x_eqt, x_eqf, n_0, n_1, n_2, n_3, n_4, n_5, n_6, n_7, n_8, n_9, n_10, n_11, n_12, n_16, n_19, n_20, n_24, n_25, n_32, n_40, n_48, n_50, n_60, n_64, n_80, n_96, n_114, n_684, n_1000, n_9330, n_16806, n_1000000, n_5764800, ↓n_m, m_ltI, m_leI, m_lt', m_le', m_eq, m_eq', m_add, m_sub, mm_lt, mm_le, mm_eq, q_sub, nI_add, q_mul, nI_clamp, bz_0, bz_1, q_bzb, b_0, b_1, b_ft, b_tf, ne_eq, not_true_eq_false, not_false_eq_true, decide_true, decide_false, Bool.and_self, Bool.false_and, Bool.and_false, Bool.and_true, Bool.true_and, Bool.not_true, Bool.not_false, ↓reduceIte]), g1, m_isSound, g2, m_withinN, u3, u4, m 13 rfl, c4 s hs, q_cl, q_ps, q_pn, bI_t, bI_f, gI_same, gI_ne, gR_pI, gJ_pI, gV_pI, gN_pI, gC_pI, gS_pI, gI_pJ, gR_pJ, gV_pJ, gN_pJ, gJ_same, gJ_ne, gI_pR, gJ_pR, gV_pR, gN_pR, gR_same, gR_ne, zin_t, zin_f, x_ltt, x_ltf, x_let, x_lef, x_eqt, x_eqf, n_0, n_1, n_2, n_3, n_4, n_5, n_6, n_7, n_8, n_9, n_10, n_11, n_12, n_16, n_19, n_20, n_24, n_25, n_32, n_40, n_48, n_50, n_60, n_64, n_80, n_96, n_114, n_684, n_1000, n_9330, n_16806, n_1000000, n_5764800, ↓n_m, m_ltI, m_leI, m_lt', m_le', m_eq, m_eq', m_add, m_sub, mm_lt, mm_le, mm_eq, q_sub, nI_add, q_mul, nI_clamp, bz_0, bz_1, q_bzb, b_0, b_1, b_ft, b_tf, ne_eq, not_true_eq_false, not_false_eq_true, decide_true, decide_false, Bool.and_self, Bool.false_and, Bool.and_false, Bool.and_true, Bool.true_and, Bool.not_true, Bool.not_false, ↓reduceIte]
        · simp (disch := first | omega | rfl | assumption) only [a1, q_cl, q_ps, q_pn, bI_t, bI_f, gI_same, gI_ne, gR_pI, gJ_pI, gV_pI, gN_pI, gC_pI, gS_pI, gI_pJ, gR_pJ, gV_pJ, gN_pJ, gJ_same, gJ_ne, gI_pR, gJ_pR, gV_pR, gN_pR, gR_same, gR_ne, zin_t, zin_f, x_ltt, x_ltf, x_let, x_lef, x_eqt, x_eqf, n_0, n_1, n_2, n_3, n_4, n_5, n_6, n_7, n_8, n_9, n_10, n_11, n_12, n_16, n_19, n_20, n_24, n_25, n_32, n_40, n_48, n_50, n_60, n_64, n_80, n_96, n_114, n_684, n_1000, n_9330, n_16806, n_1000000, n_5764800, ↓n_m, m_ltI, m_leI, m_lt', m_le', m_eq, m_eq', m_add, m_sub, mm_lt, mm_le, mm_eq, q_sub, nI_add, q_mul, nI_clamp, bz_0, bz_1, q_bzb, b_0, b_1, b_ft, b_tf, ne_eq, not_true_eq_false, not_false_eq_true, decide_true, decide_false, Bool.and_self, Bool.false_and, Bool.and_false, Bool.and_true, Bool.true_and, Bool.not_true, Bool.not_false, ↓reduceIte]; rfl
        · simp (disch := first | omega | rfl | assumption) only [a2, q_cl, q_ps, q_pn, bI_t, bI_f, gI_same, gI_ne, gR_pI, gJ_pI, gV_pI, gN_pI, gC_pI, gS_pI, gI_pJ, gR_pJ, gV_pJ, gN_pJ, gJ_same, gJ_ne, gI_pR, gJ_pR, gV_pR, gN_pR, gR_same, gR_ne, zin_t, zin_f, x_ltt, x_ltf, x_let, x_lef, x_eqt, x_eqf, n_0, n_1, n_2, n_3, n_4, n_5, n_6, n_7, n_8, n_9, n_10, n_11, n_12, n_16, n_19, n_20, n_24, n_25, n_32, n_40, n_48, n_50, n_60, n_64, n_80, n_96, n_114, n_684, n_1000, n_9330, n_16806, n_1000000, n_5764800, ↓n_m, m_ltI, m_leI, m_lt', m_le', m_eq, m_eq', m_add, m_sub, mm_lt, mm_le, mm_eq, q_sub, nI_add, q_mul, nI_clamp, bz_0, bz_1, q_bzb, b_0, b_1, b_ft, b_tf, ne_eq, not_true_eq_false, not_false_eq_true, decide_true, decide_false, Bool.and_self, Bool.false_and, Bool.and_false, Bool.and_true, Bool.true_and, Bool.not_true, Bool.not_false, ↓reduceIte]; rfl
        · obtain ⟨b1, b2, b3, b4, b5, b6, b7, b8, b9, c1, c2, c3, c4⟩ := a4 u hu
          have hu' : u < gnT G := hu
          have hu8 : u < 8 := by omega
          refine ⟨b1, by simp (disch := first | omega | rfl | assumption) only [b2, q_cl, q_ps, q_pn, bI_t, bI_f, gI_same, gI_ne, gR_pI, gJ_pI, gV_pI, gN_pI, gC_pI, gS_pI, gI_pJ, gR_pJ, gV_pJ, gN_pJ, gJ_same, gJ_ne, gI_pR, gJ_pR, gV_pR, gN_pR, gR_same, gR_ne, zin_t, zin_f, x_ltt, x_ltf, x_let, x_lef, x_eqt, x_eqf, n_0, n_1, n_2, n_3, n_4, n_5, n_6, n_7, n_8, n_9, n_10, n_11, n_12, n_16, n_19, n_20, n_24, n_25, n_32, n_40, n_48, n_50, n_60, n_64, n_80, n_96, n_114, n_684, n_1000, n_9330, n_16806, n_1000000, n_5764800, ↓n_m, m_ltI, m_leI, m_lt', m_le', m_eq, m_eq', m_add, m_sub, mm_lt, mm_le, mm_eq, q_sub, nI_add, q_mul, nI_clamp, bz_0, bz_1, q_bzb, b_0, b_1, b_ft, b_tf, ne_eq, not_true_eq_false, not_false_eq_true, decide_true, decide_false, Bool.and_self, Bool.false_and, Bool.and_false, Bool.and_true, Bool.true_and, Bool.not_true, Bool.not_false, ↓reduceIte]; rfl, by simp (disch := first | omega | rfl | assumption) only [b3, q_cl, q_ps, q_pn, bI_t, bI_f, gI_same, gI_ne, gR_pI, gJ_pI, gV_pI, gN_pI, gC_pI, gS_pI, gI_pJ, gR_pJ, gV_pJ, gN_pJ, gJ_same, gJ_ne, gI_pR, gJ_pR, gV_pR, gN_pR, gR_same, gR_ne, zin_t, zin_f, x_ltt, x_ltf, x_let, x_lef, x_eqt, x_eqf, n_0, n_1, n_2, n_3, n_4, n_5, n_6, n_7, n_8, n_9, n_10, n_11, n_12, n_16, n_19, n_20, n_24, n_25, n_32, n_40, n_48, n_50, n_60, n_64, n_80, n_96, n_114, n_684, n_1000, n_9330, n_16806, n_1000000, n_5764800, ↓n_m, m_ltI, m_leI, m_lt', m_le', m_eq, m_eq', m_add, m_sub, mm_lt, mm_le, mm_eq, q_sub, nI_add, q_mul, nI_clamp, bz_0, bz_1, q_bzb, b_0, b_1, b_ft, b_tf, ne_eq, not_true_eq_false, not_false_eq_true, decide_true, decide_false, Bool.and_self, Bool.false_and, Bool.and_false, Bool.and_true, Bool.true_and, Bool.not_true, Bool.not_false, ↓reduceIte]; rfl, b4, b5, by simp (disch := first | omega | rfl | assumption) only [b6, q_cl, q_ps, q_pn, bI_t, bI_f, gI_same, gI_ne, gR_pI, gJ_pI, gV_pI, gN_pI, gC_pI, gS_pI, gI_pJ, gR_pJ, gV_pJ, gN_pJ, gJ_same, gJ_ne, gI_pR, gJ_pR, gV_pR, gN_pR, gR_same, gR_ne, zin_t, zin_f, x_ltt, x_ltf, x_let, x_lef, x_eqt, x_eqf, n_0, n_1, n_2, n_3, n_4, n_5, n_6, n_7, n_8, n_9, n_10, n_11, n_12, n_16, n_19, n_20, n_24, n_25, n_32, n_40, n_48, n_50, n_60, n_64, n_80, n_96, n_114, n_684, n_1000, n_9330, n_16806, n_1000000, n_5764800, ↓n_m, m_ltI, m_leI, m_lt', m_le', m_eq, m_eq', m_add, m_sub, mm_lt, mm_le, mm_eq, q_sub, nI_add, q_mul, nI_clamp, bz_0, bz_1, q_bzb, b_0, b_1, b_ft, b_tf, ne_eq, not_true_eq_false, not_false_eq_true, decide_true, decide_false, Bool.and_self, Bool.false_and, Bool.and_false, Bool.and_true, Bool.true_and, Bool.not_true, Bool.not_false, ↓reduceIte]; rfl, b7, fun i x hx => ?_, fun r hr => ?_, fun r hr => ?_, by simp (disch := first | omega | rfl | assumption) only [c2, q_cl, q_ps, q_pn, bI_t, bI_f, gI_same, gI_ne, gR_pI, gJ_pI, gV_pI, gN_pI, gC_pI, gS_pI, gI_pJ, gR_pJ, gV_pJ, gN_pJ, gJ_same, gJ_ne, gI_pR, gJ_pR, gV_pR, gN_pR, gR_same, gR_ne, zin_t, zin_f, x_ltt, x_ltf, x_let, x_lef, x_eqt, x_eqf, n_0, n_1, n_2, n_3, n_4, n_5, n_6, n_7, n_8, n_9, n_10, n_11, n_12, n_16, n_19, n_20, n_24, n_25, n_32, n_40, n_48, n_50, n_60, n_64, n_80, n_96, n_114, n_684, n_1000, n_9330, n_16806, n_1000000, n_5764800, ↓n_m, m_ltI, m_leI, m_lt', m_le', m_eq, m_eq', m_add, m_sub, mm_lt, mm_le, mm_eq, q_sub, nI_add, q_mul, nI_clamp, bz_0, bz_1, q_bzb, b_0, b_1, b_ft, b_tf, ne_eq, not_true_eq_false, not_false_eq_true, decide_true, decide_false, Bool.and_self, Bool.false_and, Bool.and_false, Bool.and_true, Bool.true_and, Bool.not_true, Bool.not_false, ↓reduceIte]; rfl, by simp (disch := first | omega | rfl | assumption) only [c3, q_cl, q_ps, q_pn, bI_t, bI_f, gI_same, gI_ne, gR_pI, gJ_pI, gV_pI, gN_pI, gC_pI, gS_pI, gI_pJ, gR_pJ, gV_pJ, gN_pJ, gJ_same, gJ_ne, gI_pR, gJ_pR, gV_pR, gN_pR, gR_same, gR_ne, zin_t, zin_f, x_ltt, x_ltf, x_let, x_lef, x_eqt, x_eqf, n_0, n_1, n_2, n_3, n_4, n_5, n_6, n_7, n_8, n_9, n_10, n_11, n_12, n_16, n_19, n_20, n_24, n_25, n_32, n_40, n_48, n_50, n_60, n_64, n_80, n_96, n_114, n_684, n_1000, n_9330, n_16806, n_1000000, n_5764800, ↓n_m, m_ltI, m_leI, m_lt', m_le', m_eq, m_eq', m_add, m_sub, mm_lt, mm_le, mm_eq, q_sub, nI_add, q_mul, nI_clamp, bz_0, bz_1, q_bzb, b_0, b_1, b_ft, b_tf, ne_eq, not_true_eq_false, not_false_eq_true, decide_true, decide_false, Bool.and_self, Bool.false_and, Bool.and_false, Bool.and_true, Bool.true_and, Bool.not_true, Bool.not_false, ↓reduceIte]; rfl, fun r hr => ?_⟩
          · obtain ⟨o1, o2, o3⟩ := b8 i x hx
            exact ⟨o1, o2, by simp (disch := first | omega | rfl | assumption) only [o3, q_cl, q_ps, q_pn, bI_t, bI_f, gI_same, gI_ne, gR_pI, gJ_pI, gV_pI, gN_pI, gC_pI, gS_pI, gI_pJ, gR_pJ, gV_pJ, gN_pJ, gJ_same, gJ_ne, gI_pR, gJ_pR, gV_pR, gN_pR, gR_same, gR_ne, zin_t, zin_f, x_ltt, x_ltf, x_let, x_lef, x_eqt, x_eqf, n_0, n_1, n_2, n_3, n_4, n_5, n_6, n_7, n_8, n_9, n_10, n_11, n_12, n_16, n_19, n_20, n_24, n_25, n_32, n_40, n_48, n_50, n_60, n_64, n_80, n_96, n_114, n_684, n_1000, n_9330, n_16806, n_1000000, n_5764800, ↓n_m, m_ltI, m_leI, m_lt', m_le', m_eq, m_eq', m_add, m_sub, mm_lt, mm_le, mm_eq, q_sub, nI_add, q_mul, nI_clamp, bz_0, bz_1, q_bzb, b_0, b_1, b_ft, b_tf, ne_eq, not_true_eq_false, not_false_eq_true, decide_true, decide_false, Bool.and_self, Bool.false_and, Bool.and_false, Bool.and_true, Bool.true_and, Bool.not_true, Bool.not_false, ↓reduceIte]⟩
          · show (if u = t then (fun r => if r = s then v else gsg G u r) else gsg G u) r ≤ 6
            split
            · show (if r = s then v else gsg G u r) ≤ 6
              split
              · exact hv
              · exact b9 r hr
            · exact b9 r hr
          · show _ = mkI ((if u = t then (fun r => if r = s then v else gsg G u r) else gsg G u) r)
            by_cases e : u = t
            · subst e
              by_cases e2 : r = s
              · subst e2
                simp (disch := first | omega | rfl | assumption) only [q_cl, q_ps, q_pn, bI_t, bI_f, gI_same, gI_ne, gR_pI, gJ_pI, gV_pI, gN_pI, gC_pI, gS_pI, gI_pJ, gR_pJ, gV_pJ, gN_pJ, gJ_same, gJ_ne, gI_pR, gJ_pR, gV_pR, gN_pR, gR_same, gR_ne, zin_t, zin_f, x_ltt, x_ltf, x_let, x_lef, x_eqt, x_eqf, n_0, n_1, n_2, n_3, n_4, n_5, n_6, n_7, n_8, n_9, n_10, n_11, n_12, n_16, n_19, n_20, n_24, n_25, n_32, n_40, n_48, n_50, n_60, n_64, n_80, n_96, n_114, n_684, n_1000, n_9330, n_16806, n_1000000, n_5764800, ↓n_m, m_ltI, m_leI, m_lt', m_le', m_eq, m_eq', m_add, m_sub, mm_lt, mm_le, mm_eq, q_sub, nI_add, q_mul, nI_clamp, bz_0, bz_1, q_bzb, b_0, b_1, b_ft, b_tf, ne_eq, not_true_eq_false, not_false_eq_true, decide_true, decide_false, Bool.and_self, Bool.false_and, Bool.and_false, Bool.and_true, Bool.true_and, Bool.not_true, Bool.not_false, ↓reduceIte]
              · simp (disch := first | omega | rfl | assumption) only [e2, c1 r hr, q_cl, q_ps, q_pn, bI_t, bI_f, gI_same, gI_ne, gR_pI, gJ_pI, gV_pI, gN_pI, gC_pI, gS_pI, gI_pJ, gR_pJ, gV_pJ, gN_pJ, gJ_same, gJ_ne, gI_pR, gJ_pR, gV_pR, gN_pR, gR_same, gR_ne, zin_t, zin_f, x_ltt, x_ltf, x_let, x_lef, x_eqt, x_eqf, n_0, n_1, n_2, n_3, n_4, n_5, n_6, n_7, n_8, n_9, n_10, n_11, n_12, n_16, n_19, n_20, n_24, n_25, n_32, n_40, n_48, n_50, n_60, n_64, n_80, n_96, n_114, n_684, n_1000, n_9330, n_16806, n_1000000, n_5764800, ↓n_m, m_ltI, m_leI, m_lt', m_le', m_eq, m_eq', m_add, m_sub, mm_lt, mm_le, mm_eq, q_sub, nI_add, q_mul, nI_clamp, bz_0, bz_1, q_bzb, b_0, b_1, b_ft, b_tf, ne_eq, not_true_eq_false, not_false_eq_true, decide_true, decide_false, Bool.and_self, Bool.false_and, Bool.and_false, Bool.and_true, Bool.true_and, Bool.not_true, Bool.not_false, ↓reduceIte]
            · simp (disch := first | omega | rfl | assumption) only [e, c1 r hr, q_cl, q_ps, q_pn, bI_t, bI_f, gI_same, gI_ne, gR_pI, gJ_pI, gV_pI, gN_pI, gC_pI, gS_pI, gI_pJ, gR_pJ, gV_pJ, gN_pJ, gJ_same, gJ_ne, gI_pR, gJ_pR, gV_pR, gN_pR, gR_same, gR_ne, zin_t, zin_f, x_ltt, x_ltf, x_let, x_lef, x_eqt, x_eqf, n_0, n_1, n_2, n_3, n_4, n_5, n_6, n_7, n_8, n_9, n_10, n_11, n_12, n_16, n_19, n_20, n_24, n_25, n_32, n_40, n_48, n_50, n_60, n_64, n_80, n_96, n_114, n_684, n_1000, n_9330, n_16806, n_1000000, n_5764800, ↓n_m, m_ltI, m_leI, m_lt', m_le', m_eq, m_eq', m_add, m_sub, mm_lt, mm_le, mm_eq, q_sub, nI_add, q_mul, nI_clamp, bz_0, bz_1, q_bzb, b_0, b_1, b_ft, b_tf, ne_eq, not_true_eq_false, not_false_eq_true, decide_true, decide_false, Bool.and_self, Bool.false_and, Bool.and_false, Bool.and_true, Bool.true_and, Bool.not_true, Bool.not_false, ↓reduceIte]
          · show _ = mkI ((if u = t then (fun r => if r = s then v else gsg G u r) else gsg G u) r)
            by_cases e : u = t
            · subst e
              by_cases e2 : r = s
              · subst e2
                simp (disch := first | omega | rfl | assumption) only [q_cl, q_ps, q_pn, bI_t, bI_f, gI_same, gI_ne, gR_pI, gJ_pI, gV_pI, gN_pI, gC_pI, gS_pI, gI_pJ, gR_pJ, gV_pJ, gN_pJ, gJ_same, gJ_ne, gI_pR, gJ_pR, gV_pR, gN_pR, gR_same, gR_ne, zin_t, zin_f, x_ltt, x_ltf, x_let, x_lef, x_eqt, x_eqf, n_0, n_1, n_2, n_3, n_4, n_5, n_6, n_7, n_8, n_9, n_10, n_11, n_12, n_16, n_19, n_20, n_24, n_25, n_32, n_40, n_48, n_50, n_60, n_64, n_80, n_96, n_114, n_684, n_1000, n_9330, n_16806, n_1000000, n_5764800, ↓n_m, m_ltI, m_leI, m_lt', m_le', m_eq, m_eq', m_add, m_sub, mm_lt, mm_le, mm_eq, q_sub, nI_add, q_mul, nI_clamp, bz_0, bz_1, q_bzb, b_0, b_1, b_ft, b_tf, ne_eq, not_true_eq_false, not_false_eq_true, decide_true, decide_false, Bool.and_self, Bool.false_and, Bool.and_false, Bool.and_true, Bool.true_and, Bool.not_true, Bool.not_false, ↓reduceIte]
              · simp (disch := first | omega | rfl | assumption) only [e2, c4 r hr, q_cl, q_ps, q_pn, bI_t, bI_f, gI_same, gI_ne, gR_pI, gJ_pI, gV_pI, gN_pI, gC_pI, gS_pI, gI_pJ, gR_pJ, gV_pJ, gN_pJ, gJ_same, gJ_ne, gI_pR, gJ_pR, gV_pR, gN_pR, gR_same, gR_ne, zin_t, zin_f, x_ltt, x_ltf, x_let, x_lef, x_eqt, x_eqf, n_0, n_1, n_2, n_3, n_4, n_5, n_6, n_7, n_8, n_9, n_10, n_11, n_12, n_16, n_19, n_20, n_24, n_25, n_32, n_40, n_48, n_50, n_60, n_64, n_80, n_96, n_114, n_684, n_1000, n_9330, n_16806, n_1000000, n_5764800, ↓n_m, m_ltI, m_leI, m_lt', m_le', m_eq, m_eq', m_add, m_sub, mm_lt, mm_le, mm_eq, q_sub, nI_add, q_mul, nI_clamp, bz_0, bz_1, q_bzb, b_0, b_1, b_ft, b_tf, ne_eq, not_true_eq_false, not_false_eq_true, decide_true, decide_false, Bool.and_self, Bool.false_and, Bool.and_false, Bool.and_true, Bool.true_and, Bool.not_true, Bool.not_false, ↓reduceIte]
            · simp (disch := first | omega | rfl | assumption) only [e, c4 r hr, q_cl, q_ps, q_pn, bI_t, bI_f, gI_same, gI_ne, gR_pI, gJ_pI, gV_pI, gN_pI, gC_pI, gS_pI, gI_pJ, gR_pJ, gV_pJ, gN_pJ, gJ_same, gJ_ne, gI_pR, gJ_pR, gV_pR, gN_pR, gR_same, gR_ne, zin_t, zin_f, x_ltt, x_ltf, x_let, x_lef, x_eqt, x_eqf, n_0, n_1, n_2, n_3, n_4, n_5, n_6, n_7, n_8, n_9, n_10, n_11, n_12, n_16, n_19, n_20, n_24, n_25, n_32, n_40, n_48, n_50, n_60, n_64, n_80, n_96, n_114, n_684, n_1000, n_9330, n_16806, n_1000000, n_5764800, ↓n_m, m_ltI, m_leI, m_lt', m_le', m_eq, m_eq', m_add, m_sub, mm_lt, mm_le, mm_eq, q_sub, nI_add, q_mul, nI_clamp, bz_0, bz_1, q_bzb, b_0, b_1, b_ft, b_tf, ne_eq, not_true_eq_false, not_false_eq_true, decide_true, decide_false, Bool.and_self, Bool.false_and, Bool.and_false, Bool.and_true, Bool.true_and, Bool.not_true, Bool.not_false, ↓reduceIte]
        · simp (disch := first | omega | rfl | assumption) only [a6 u h1 h2, q_cl, q_ps, q_pn, bI_t, bI_f, gI_same, gI_ne, gR_pI, gJ_pI, gV_pI, gN_pI, gC_pI, gS_pI, gI_pJ, gR_pJ, gV_pJ, gN_pJ, gJ_same, gJ_ne, gI_pR, gJ_pR, gV_pR, gN_pR, gR_same, gR_ne, zin_t, zin_f, x_ltt, x_ltf, x_let, x_lef, x_eqt, x_eqf, n_0, n_1, n_2, n_3, n_4, n_5, n_6, n_7, n_8, n_9, n_10, n_11, n_12, n_16, n_19, n_20, n_24, n_25, n_32, n_40, n_48, n_50, n_60, n_64, n_80, n_96, n_114, n_684, n_1000, n_9330, n_16806, n_1000000, n_5764800, ↓n_m, m_ltI, m_leI, m_lt', m_le', m_eq, m_eq', m_add, m_sub, mm_lt, mm_le, mm_eq, q_sub, nI_add, q_mul, nI_clamp, bz_0, bz_1, q_bzb, b_0, b_1, b_ft, b_tf, ne_eq, not_true_eq_false, not_false_eq_true, decide_true, decide_false, Bool.and_self, Bool.false_and, Bool.and_false, Bool.and_true, Bool.true_and, Bool.not_true, Bool.not_false, ↓reduceIte]
        · by_cases e : u = t
          · subst e
            left
            simp (disch := first | omega | rfl | assumption) only [q_cl, q_ps, q_pn, bI_t, bI_f, gI_same, gI_ne, gR_pI, gJ_pI, gV_pI, gN_pI, gC_pI, gS_pI, gI_pJ, gR_pJ, gV_pJ, gN_pJ, gJ_same, gJ_ne, gI_pR, gJ_pR, gV_pR, gN_pR, gR_same, gR_ne, zin_t, zin_f, x_ltt, x_ltf, x_let, x_lef, x_eqt, x_eqf, n_0, n_1, n_2, n_3, n_4, n_5, n_6, n_7, n_8, n_9, n_10, n_11, n_12, n_16, n_19, n_20, n_24, n_25, n_32, n_40, n_48, n_50, n_60, n_64, n_80, n_96, n_114, n_684, n_1000, n_9330, n_16806, n_1000000, n_5764800, ↓n_m, m_ltI, m_leI, m_lt', m_le', m_eq, m_eq', m_add, m_sub, mm_lt, mm_le, mm_eq, q_sub, nI_add, q_mul, nI_clamp, bz_0, bz_1, q_bzb, b_0, b_1, b_ft, b_tf, ne_eq, not_true_eq_false, not_false_eq_true, decide_true, decide_false, Bool.and_self, Bool.false_and, Bool.and_false, Bool.and_true, Bool.true_and, Bool.not_true, Bool.not_false, ↓reduceIte]
          · right
            refine ⟨by simp (disch := first | omega | rfl | assumption) only [q_cl, q_ps, q_pn, bI_t, bI_f, gI_same, gI_ne, gR_pI, gJ_pI, gV_pI, gN_pI, gC_pI, gS_pI, gI_pJ, gR_pJ, gV_pJ, gN_pJ, gJ_same, gJ_ne, gI_pR, gJ_pR, gV_pR, gN_pR, gR_same, gR_ne, zin_t, zin_f, x_ltt, x_ltf, x_let, x_lef, x_eqt, x_eqf, n_0, n_1, n_2, n_3, n_4, n_5, n_6, n_7, n_8, n_9, n_10, n_11, n_12, n_16, n_19, n_20, n_24, n_25, n_32, n_40, n_48, n_50, n_60, n_64, n_80, n_96, n_114, n_684, n_1000, n_9330, n_16806, n_1000000, n_5764800, ↓n_m, m_ltI, m_leI, m_lt', m_le', m_eq, m_eq', m_add, m_sub, mm_lt, mm_le, mm_eq, q_sub, nI_add, q_mul, nI_clamp, bz_0, bz_1, q_bzb, b_0, b_1, b_ft, b_tf, ne_eq, not_true_eq_false, not_false_eq_true, decide_true, decide_false, Bool.and_self, Bool.false_and, Bool.and_false, Bool.and_true, Bool.true_and, Bool.not_true, Bool.not_false, ↓reduceIte], fun q => ?_⟩
            have e1 : ∀ w, frm (gsSg G t s v) 0 u w = frm G 0 u w := fun w => frm_same (G := G) (G' := gsSg G t s v) rfl rfl rfl a5 0 u w (fun _ _ => rfl)
            unfold pkJ wrt
            rw [e1]
            show Int64.ofNat (rowN (signW (if u = t then (fun r => if r = s then v else gsg G u r) else gsg G u) _) * 2 ^ 24 + _) = _
            rw [if_neg e]
      by_cases hm : x3 = mI
      · exact good 0 (by omega) (by rw [mk_0]; exact hm)
      · rcases neg_or x3 with hx | ⟨y, hy, rfl⟩
        · have e1 : (mI ≤ x3) = False := eq_false (fun z => hm (by
            rw [Int32.le_iff_toInt_le, m_toInt] at z
            rw [Int32.lt_iff_toInt_lt] at hx
            apply Int32.toInt_inj.mp
            rw [m_toInt]
            have : (nI 0).toInt = 0 := by decide
            omega))
          have e2 : (x3 < mI) = True := eq_true (by
            have z := of_eq_false e1
            rw [Int32.le_iff_toInt_le] at z
            rw [Int32.lt_iff_toInt_lt]
            omega)
          exact ref (by simp (disch := first | omega | rfl | assumption) only [bX10_script_0, bX10_script_5, bX10_script_29, bX10_script_35, bX10_script_36, rX10_script, c_noTongue (h := h) _ nl c a1, g1, e2, c_finding, q_cl, q_ps, q_pn, bI_t, bI_f, gI_same, gI_ne, gR_pI, gJ_pI, gV_pI, gN_pI, gC_pI, gS_pI, gI_pJ, gR_pJ, gV_pJ, gN_pJ, gJ_same, gJ_ne, gI_pR, gJ_pR, gV_pR, gN_pR, gR_same, gR_ne, zin_t, zin_f, x_ltt, x_ltf, x_let, x_lef, x_eqt, x_eqf, n_0, n_1, n_2, n_3, n_4, n_5, n_6, n_7, n_8, n_9, n_10, n_11, n_12, n_16, n_19, n_20, n_24, n_25, n_32, n_40, n_48, n_50, n_60, n_64, n_80, n_96, n_114, n_684, n_1000, n_9330, n_16806, n_1000000, n_5764800, ↓n_m, m_ltI, m_leI, m_lt', m_le', m_eq, m_eq', m_add, m_sub, mm_lt, mm_le, mm_eq, q_sub, nI_add, q_mul, nI_clamp, bz_0, bz_1, q_bzb, b_0, b_1, b_ft, b_tf, ne_eq, not_true_eq_false, not_false_eq_true, decide_true, decide_false, Bool.and_self, Bool.false_and, Bool.and_false, Bool.and_true, Bool.true_and, Bool.not_true, Bool.not_false, ↓reduceIte]) (Or.inl e1)
        · by_cases h6 : y < 6
          · exact good (y + 1) (by omega) (by rw [mkI_pos (by omega), Nat.add_sub_cancel])
          · exact ref (by simp (disch := first | omega | rfl | assumption) only [bX10_script_0, bX10_script_5, bX10_script_29, bX10_script_35, bX10_script_36, rX10_script, c_noTongue (h := h) _ nl c a1, g1, c_finding, q_cl, q_ps, q_pn, bI_t, bI_f, gI_same, gI_ne, gR_pI, gJ_pI, gV_pI, gN_pI, gC_pI, gS_pI, gI_pJ, gR_pJ, gV_pJ, gN_pJ, gJ_same, gJ_ne, gI_pR, gJ_pR, gV_pR, gN_pR, gR_same, gR_ne, zin_t, zin_f, x_ltt, x_ltf, x_let, x_lef, x_eqt, x_eqf, n_0, n_1, n_2, n_3, n_4, n_5, n_6, n_7, n_8, n_9, n_10, n_11, n_12, n_16, n_19, n_20, n_24, n_25, n_32, n_40, n_48, n_50, n_60, n_64, n_80, n_96, n_114, n_684, n_1000, n_9330, n_16806, n_1000000, n_5764800, ↓n_m, m_ltI, m_leI, m_lt', m_le', m_eq, m_eq', m_add, m_sub, mm_lt, mm_le, mm_eq, q_sub, nI_add, q_mul, nI_clamp, bz_0, bz_1, q_bzb, b_0, b_1, b_ft, b_tf, ne_eq, not_true_eq_false, not_false_eq_true, decide_true, decide_false, Bool.and_self, Bool.false_and, Bool.and_false, Bool.and_true, Bool.true_and, Bool.not_true, Bool.not_false, ↓reduceIte]) (Or.inr (x_lef (by omega) (by omega)))
