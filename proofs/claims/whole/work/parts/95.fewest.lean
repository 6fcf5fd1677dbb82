/-! ===== fewest, simple, proof ===== -/
theorem pPr_g : ∀ p i k, pPr p i k → grp p i k ∈ [6, 12] := by
  rintro p i k (⟨rfl, rfl⟩ | rfl | rfl)
  · exact (by decide : (12 : Nat) ∈ [6, 12])
  · exact (by decide : (6 : Nat) ∈ [6, 12])
  · exact (by decide : (12 : Nat) ∈ [6, 12])
theorem pSe_g : ∀ p i k, pSe p i k → grp p i k ∈ [6, 12] := by
  rintro p i k (z | ⟨rfl, rfl | rfl⟩)
  · exact pPr_g p i k z
  · exact (by decide : (6 : Nat) ∈ [6, 12])
  · exact (by decide : (6 : Nat) ∈ [6, 12])
theorem pT3_g : ∀ p i k, pT3 p i k → grp p i k ∈ [6, 12] := by
  rintro p i k ((z | rfl) | ⟨rfl, rfl | rfl⟩ | rfl)
  · exact List.mem_cons_of_mem _ (pT2_g p i k z)
  · exact (by decide : (12 : Nat) ∈ [6, 12])
  · exact (by decide : (6 : Nat) ∈ [6, 12])
  · exact (by decide : (6 : Nat) ∈ [6, 12])
  · exact (by decide : (6 : Nat) ∈ [6, 12])
theorem pRf_g : ∀ p i k, pRf p i k → grp p i k ∈ [12] := by
  rintro p i k (z | rfl)
  · exact pT2_g p i k z
  · exact (by decide : (12 : Nat) ∈ [12])
theorem skR_len {V n : Nat} {pf pt : Nat → List Nat} {l : List Nat} (h : skR V n pf pt = some l) : l.length ≤ 2 := by
  unfold skR at h
  split at h
  · cases h; decide
  · split at h
    · cases h; exact Nat.le_succ _
    · split at h
      · cases h
      · cases h; exact Nat.le_refl _
/-- the class has found what there is -/
theorem c_searched (d : Nat) {h : z_H} {N : Nat} {xs : Nat → Int32} {G : Gh} {e : Int32} (hG : InvG h N xs G e) {n : Nat} {pf pt : Nat → List Nat} (hP : iPrG h (gvV G) n pf pt) :
    ∃ h', Rn (d + 7) 57 [z_R 8050 0, z_I (nI (gvV G))] h = some (none, h') ∧ InvG h' N xs G e ∧ iPrG h' (gvV G) n pf pt ∧ cSk h' (skR (gvV G) n pf pt) ∧ frX [6, 12] h h' := by
  have hV := (I_V hG).2.2
  obtain ⟨l1, l2, l3, l4, l5, l6⟩ := hP
  obtain ⟨h1, e1, e2, e3, e4⟩ := c_search d hV (h := h) (n := n) (pf := pf) (pt := pt) ⟨I_c hG, l1, l2, fun k hk => ⟨(l4 k hk).1, (l4 k hk).2.1, (l4 k hk).2.2.1, (l4 k hk).2.2.2.1⟩⟩ l5
  have kp : ∀ p i k, p ≠ 6000 → p ≠ 6311 → p ≠ 6341 → (p ≠ 8050 ∨ (k ≠ 1 ∧ k ≠ 2)) → gI h1 p i k = gI h p i k := fun p i k a b c dd => e4.2 p i k (fun z => by
    rcases z with (z | z | z) | z <;> omega)
  have F := frX_fr e4 pSe_g
  have hP1 : iPrG h1 (gvV G) n pf pt := by
    refine ⟨l1, by simp (disch := first | omega | rfl | assumption) only [kp, l2, q_cl, q_ps, q_pn, bI_t, bI_f, gI_same, gI_ne, gR_pI, gJ_pI, gV_pI, gN_pI, gC_pI, gS_pI, gI_pJ, gR_pJ, gV_pJ, gN_pJ, gJ_same, gJ_ne, gI_pR, gJ_pR, gV_pR, gN_pR, gR_same, gR_ne, zin_t, zin_f, x_ltt, x_ltf, x_let, x_lef, x_eqt, x_eqf, n_0, n_1, n_2, n_3, n_4, n_5, n_6, n_7, n_8, n_9, n_10, n_11, n_12, n_16, n_19, n_20, n_24, n_25, n_32, n_40, n_48, n_50, n_60, n_64, n_80, n_96, n_114, n_684, n_1000, n_9330, n_16806, n_1000000, n_5764800, ↓n_m, m_ltI, m_leI, m_lt', m_le', m_eq, m_eq', m_add, m_sub, mm_lt, mm_le, mm_eq, q_sub, nI_add, q_mul, nI_clamp, bz_0, bz_1, q_bzb, b_0, b_1, b_ft, b_tf, ne_eq, not_true_eq_false, not_false_eq_true, decide_true, decide_false, Bool.and_self, Bool.false_and, Bool.and_false, Bool.and_true, Bool.true_and, Bool.not_true, Bool.not_false, ↓reduceIte], by simp (disch := first | omega | rfl | assumption) only [kp, l3, q_cl, q_ps, q_pn, bI_t, bI_f, gI_same, gI_ne, gR_pI, gJ_pI, gV_pI, gN_pI, gC_pI, gS_pI, gI_pJ, gR_pJ, gV_pJ, gN_pJ, gJ_same, gJ_ne, gI_pR, gJ_pR, gV_pR, gN_pR, gR_same, gR_ne, zin_t, zin_f, x_ltt, x_ltf, x_let, x_lef, x_eqt, x_eqf, n_0, n_1, n_2, n_3, n_4, n_5, n_6, n_7, n_8, n_9, n_10, n_11, n_12, n_16, n_19, n_20, n_24, n_25, n_32, n_40, n_48, n_50, n_60, n_64, n_80, n_96, n_114, n_684, n_1000, n_9330, n_16806, n_1000000, n_5764800, ↓n_m, m_ltI, m_leI, m_lt', m_le', m_eq, m_eq', m_add, m_sub, mm_lt, mm_le, mm_eq, q_sub, nI_add, q_mul, nI_clamp, bz_0, bz_1, q_bzb, b_0, b_1, b_ft, b_tf, ne_eq, not_true_eq_false, not_false_eq_true, decide_true, decide_false, Bool.and_self, Bool.false_and, Bool.and_false, Bool.and_true, Bool.true_and, Bool.not_true, Bool.not_false, ↓reduceIte], fun k hk => ?_, Or.inr ⟨e2, e3⟩, ?_⟩
    · obtain ⟨t1, t2, t3, t4, t5, t6⟩ := l4 k hk
      exact ⟨t1, t2, by simp (disch := first | omega | rfl | assumption) only [kp, t3, q_cl, q_ps, q_pn, bI_t, bI_f, gI_same, gI_ne, gR_pI, gJ_pI, gV_pI, gN_pI, gC_pI, gS_pI, gI_pJ, gR_pJ, gV_pJ, gN_pJ, gJ_same, gJ_ne, gI_pR, gJ_pR, gV_pR, gN_pR, gR_same, gR_ne, zin_t, zin_f, x_ltt, x_ltf, x_let, x_lef, x_eqt, x_eqf, n_0, n_1, n_2, n_3, n_4, n_5, n_6, n_7, n_8, n_9, n_10, n_11, n_12, n_16, n_19, n_20, n_24, n_25, n_32, n_40, n_48, n_50, n_60, n_64, n_80, n_96, n_114, n_684, n_1000, n_9330, n_16806, n_1000000, n_5764800, ↓n_m, m_ltI, m_leI, m_lt', m_le', m_eq, m_eq', m_add, m_sub, mm_lt, mm_le, mm_eq, q_sub, nI_add, q_mul, nI_clamp, bz_0, bz_1, q_bzb, b_0, b_1, b_ft, b_tf, ne_eq, not_true_eq_false, not_false_eq_true, decide_true, decide_false, Bool.and_self, Bool.false_and, Bool.and_false, Bool.and_true, Bool.true_and, Bool.not_true, Bool.not_false, ↓reduceIte], by simp (disch := first | omega | rfl | assumption) only [kp, t4, q_cl, q_ps, q_pn, bI_t, bI_f, gI_same, gI_ne, gR_pI, gJ_pI, gV_pI, gN_pI, gC_pI, gS_pI, gI_pJ, gR_pJ, gV_pJ, gN_pJ, gJ_same, gJ_ne, gI_pR, gJ_pR, gV_pR, gN_pR, gR_same, gR_ne, zin_t, zin_f, x_ltt, x_ltf, x_let, x_lef, x_eqt, x_eqf, n_0, n_1, n_2, n_3, n_4, n_5, n_6, n_7, n_8, n_9, n_10, n_11, n_12, n_16, n_19, n_20, n_24, n_25, n_32, n_40, n_48, n_50, n_60, n_64, n_80, n_96, n_114, n_684, n_1000, n_9330, n_16806, n_1000000, n_5764800, ↓n_m, m_ltI, m_leI, m_lt', m_le', m_eq, m_eq', m_add, m_sub, mm_lt, mm_le, mm_eq, q_sub, nI_add, q_mul, nI_clamp, bz_0, bz_1, q_bzb, b_0, b_1, b_ft, b_tf, ne_eq, not_true_eq_false, not_false_eq_true, decide_true, decide_false, Bool.and_self, Bool.false_and, Bool.and_false, Bool.and_true, Bool.true_and, Bool.not_true, Bool.not_false, ↓reduceIte], by simp (disch := first | omega | rfl | assumption) only [kp, t5, q_cl, q_ps, q_pn, bI_t, bI_f, gI_same, gI_ne, gR_pI, gJ_pI, gV_pI, gN_pI, gC_pI, gS_pI, gI_pJ, gR_pJ, gV_pJ, gN_pJ, gJ_same, gJ_ne, gI_pR, gJ_pR, gV_pR, gN_pR, gR_same, gR_ne, zin_t, zin_f, x_ltt, x_ltf, x_let, x_lef, x_eqt, x_eqf, n_0, n_1, n_2, n_3, n_4, n_5, n_6, n_7, n_8, n_9, n_10, n_11, n_12, n_16, n_19, n_20, n_24, n_25, n_32, n_40, n_48, n_50, n_60, n_64, n_80, n_96, n_114, n_684, n_1000, n_9330, n_16806, n_1000000, n_5764800, ↓n_m, m_ltI, m_leI, m_lt', m_le', m_eq, m_eq', m_add, m_sub, mm_lt, mm_le, mm_eq, q_sub, nI_add, q_mul, nI_clamp, bz_0, bz_1, q_bzb, b_0, b_1, b_ft, b_tf, ne_eq, not_true_eq_false, not_false_eq_true, decide_true, decide_false, Bool.and_self, Bool.false_and, Bool.and_false, Bool.and_true, Bool.true_and, Bool.not_true, Bool.not_false, ↓reduceIte], by simp (disch := first | omega | rfl | assumption) only [kp, t6, q_cl, q_ps, q_pn, bI_t, bI_f, gI_same, gI_ne, gR_pI, gJ_pI, gV_pI, gN_pI, gC_pI, gS_pI, gI_pJ, gR_pJ, gV_pJ, gN_pJ, gJ_same, gJ_ne, gI_pR, gJ_pR, gV_pR, gN_pR, gR_same, gR_ne, zin_t, zin_f, x_ltt, x_ltf, x_let, x_lef, x_eqt, x_eqf, n_0, n_1, n_2, n_3, n_4, n_5, n_6, n_7, n_8, n_9, n_10, n_11, n_12, n_16, n_19, n_20, n_24, n_25, n_32, n_40, n_48, n_50, n_60, n_64, n_80, n_96, n_114, n_684, n_1000, n_9330, n_16806, n_1000000, n_5764800, ↓n_m, m_ltI, m_leI, m_lt', m_le', m_eq, m_eq', m_add, m_sub, mm_lt, mm_le, mm_eq, q_sub, nI_add, q_mul, nI_clamp, bz_0, bz_1, q_bzb, b_0, b_1, b_ft, b_tf, ne_eq, not_true_eq_false, not_false_eq_true, decide_true, decide_false, Bool.and_self, Bool.false_and, Bool.and_false, Bool.and_true, Bool.true_and, Bool.not_true, Bool.not_false, ↓reduceIte]⟩
    · rcases l6 with z | ⟨z1, z2⟩
      · exact Or.inl ((kp _ _ _ (by decide) (by decide) (by decide) (by decide)).trans z)
      · refine Or.inr ⟨(kp _ _ _ (by decide) (by decide) (by decide) (by decide)).trans z1, ?_⟩
        cases ho : skR (gvV G) n pf pt with
        | none =>
          rw [ho] at z2
          exact (kp 49100 0 44 (by decide) (by decide) (by decide) (by decide)).trans z2
        | some l =>
          rw [ho] at z2
          exact ⟨(kp 49100 0 44 (by decide) (by decide) (by decide) (by decide)).trans z2.1, fun i s hs => ⟨(z2.2 i s hs).1, (kp 2731 0 i (by decide) (by decide) (by decide) (Or.inl (by decide))).trans (z2.2 i s hs).2⟩⟩
  exact ⟨h1, e1, Inv_pair hG F ⟨n, pf, pt, hP1⟩, hP1, e3, F⟩
theorem m_sought (d : Nat) {h : z_H} {N : Nat} {xs : Nat → Int32} {G : Gh} {e : Int32} (hG : InvG h N xs G e) {n : Nat} {pf pt : Nat → List Nat} (hP : iPrG h (gvV G) n pf pt) :
    ∃ h', Rn (d + 10) 216 [z_R 49100 0] h = some (none, h') ∧ InvG h' N xs G e ∧ mSk h' (skR (gvV G) n pf pt) ∧ mPr h' (gvV G) n pf pt := by
  obtain ⟨v1, v2, v3⟩ := I_V hG
  obtain ⟨l1, l2, l3, l4, l5, l6⟩ := hP
  have m0 : mPr h (gvV G) n pf pt := ⟨I_m hG, v3, v2, l1, l3, fun k hk => ⟨(l4 k hk).1, (l4 k hk).2.1, (l4 k hk).2.2.2.2.1, (l4 k hk).2.2.2.2.2⟩⟩
  obtain ⟨h1, e1, e2, e3, e4⟩ := m_seek d m0 l6
  have kp : ∀ p i k, (p ≠ 8681 ∧ p ≠ 16691 ∧ (p ≠ 49100 ∨ (k ≠ 37 ∧ k ≠ 23 ∧ k ≠ 44)) ∧ p ≠ 25431 ∧ p ≠ 25441 ∧ p ≠ 50453 ∧ p ≠ 50461 ∧ p ≠ 50471 ∧ p ≠ 6741 ∧ p ≠ 2731) → gI h1 p i k = gI h p i k := fun p i k q => e4.2 p i k (pT3_no q)
  have F := frX_fr e4 pT3_g
  have hP1 : iPrG h1 (gvV G) n pf pt := by
    refine ⟨l1, (kp _ _ _ (by decide)).trans l2, (kp _ _ _ (by decide)).trans l3, fun k hk => ?_, ?_, Or.inr ⟨e2, e3⟩⟩
    · obtain ⟨t1, t2, t3, t4, t5, t6⟩ := l4 k hk
      exact ⟨t1, t2, (kp _ _ _ (by simp)).trans t3, (kp _ _ _ (by simp)).trans t4, (kp _ _ _ (by simp)).trans t5, (kp _ _ _ (by simp)).trans t6⟩
    · rcases l5 with z | ⟨z1, z2⟩
      · exact Or.inl ((kp _ _ _ (by decide)).trans z)
      · refine Or.inr ⟨(kp _ _ _ (by decide)).trans z1, ?_⟩
        cases ho : skR (gvV G) n pf pt with
        | none =>
          rw [ho] at z2
          exact (kp 8050 0 1 (by decide)).trans z2
        | some l =>
          rw [ho] at z2
          exact ⟨(kp 8050 0 1 (by decide)).trans z2.1, fun i s hs => ⟨(z2.2 i s hs).1, (kp 6311 0 _ (by simp)).trans (z2.2 i s hs).2.1, (kp 6311 0 _ (by simp)).trans (z2.2 i s hs).2.2.1, (kp 6311 0 _ (by simp)).trans (z2.2 i s hs).2.2.2⟩⟩
  exact ⟨h1, e1, Inv_pair hG F ⟨n, pf, pt, hP1⟩, e3, mPr_fr e4 m0⟩
theorem op_fewest {N : Nat} {xs : Nat → Int32} (d : Nat) {h : z_H} (hI : Inv h N xs) : OKc N xs (d + 60) 112 217 [] h := by
  obtain ⟨G, hG⟩ := hI
  have c := I_c hG
  obtain ⟨v1, v2, v3⟩ := I_V hG
  obtain ⟨n, pf, pt, hP⟩ := I_p hG
  obtain ⟨h1, e1, I1, hP1, s1, F1⟩ := c_searched (d + 52) hG hP
  have c1 := I_c I1
  cases ho : skR (gvV G) n pf pt with
  | none =>
    rw [ho] at s1
    have s1' : gI h1 8050 0 1 = mI := s1
    have I3 := Inv_cf I1
    have hP3 : iPrG (pI h1 10090 0 9 (gI h1 10090 0 9 + nI 1)) (gvV G) n pf pt := iPrG_fr (S := [0]) (frX_pI2 0 rfl (by decide) _ _) (by decide) hP1
    obtain ⟨h2, f1, I2, s2, -⟩ := m_sought (d + 49) I3 hP3
    rw [ho] at s2
    have s2' : gI h2 49100 0 44 = mI := s2
    have f1' : Rn (d + 59) 216 [z_R 49100 0] (pI h1 10090 0 9 (gI h1 10090 0 9 + nI 1)) = some (none, h2) := f1
    refine OK_fin (G := G) (h1 := h1) (h2 := h2) (-1000004) ?_ ?_ I2
    · simp (disch := first | omega | rfl | assumption) only [bX10_fewest_0, bX10_fewest_11, bX10_fewest_28, bX10_fewest_31, bX10_fewest_38, rX10_fewest, c.1 10090 4 rfl, v1, e1, c1.1 10090 4 rfl, s1', c_finding, q_cl, q_ps, q_pn, bI_t, bI_f, gI_same, gI_ne, gR_pI, gJ_pI, gV_pI, gN_pI, gC_pI, gS_pI, gI_pJ, gR_pJ, gV_pJ, gN_pJ, gJ_same, gJ_ne, gI_pR, gJ_pR, gV_pR, gN_pR, gR_same, gR_ne, zin_t, zin_f, x_ltt, x_ltf, x_let, x_lef, x_eqt, x_eqf, n_0, n_1, n_2, n_3, n_4, n_5, n_6, n_7, n_8, n_9, n_10, n_11, n_12, n_16, n_19, n_20, n_24, n_25, n_32, n_40, n_48, n_50, n_60, n_64, n_80, n_96, n_114, n_684, n_1000, n_9330, n_16806, n_1000000, n_5764800, ↓n_m, m_ltI, m_leI, m_lt', m_le', m_eq, m_eq', m_add, m_sub, mm_lt, mm_le, mm_eq, q_sub, nI_add, q_mul, nI_clamp, bz_0, bz_1, q_bzb, b_0, b_1, b_ft, b_tf, ne_eq, not_true_eq_false, not_false_eq_true, decide_true, decide_false, Bool.and_self, Bool.false_and, Bool.and_false, Bool.and_true, Bool.true_and, Bool.not_true, Bool.not_false, ↓reduceIte]
    · simp (disch := first | omega | rfl | assumption) only [bX11_fewest_0, bX11_fewest_4, bX11_fewest_17, bX11_fewest_20, bX11_fewest_24, rX11_fewest, f1', s2', show (nI 0 ≤ mI) = False from by decide, m_finding, q_cl, q_ps, q_pn, bI_t, bI_f, gI_same, gI_ne, gR_pI, gJ_pI, gV_pI, gN_pI, gC_pI, gS_pI, gI_pJ, gR_pJ, gV_pJ, gN_pJ, gJ_same, gJ_ne, gI_pR, gJ_pR, gV_pR, gN_pR, gR_same, gR_ne, zin_t, zin_f, x_ltt, x_ltf, x_let, x_lef, x_eqt, x_eqf, n_0, n_1, n_2, n_3, n_4, n_5, n_6, n_7, n_8, n_9, n_10, n_11, n_12, n_16, n_19, n_20, n_24, n_25, n_32, n_40, n_48, n_50, n_60, n_64, n_80, n_96, n_114, n_684, n_1000, n_9330, n_16806, n_1000000, n_5764800, ↓n_m, m_ltI, m_leI, m_lt', m_le', m_eq, m_eq', m_add, m_sub, mm_lt, mm_le, mm_eq, q_sub, nI_add, q_mul, nI_clamp, bz_0, bz_1, q_bzb, b_0, b_1, b_ft, b_tf, ne_eq, not_true_eq_false, not_false_eq_true, decide_true, decide_false, Bool.and_self, Bool.false_and, Bool.and_false, Bool.and_true, Bool.true_and, Bool.not_true, Bool.not_false, ↓reduceIte]
  | some l =>
    rw [ho] at s1
    obtain ⟨h2, f1, I2, s2, -⟩ := m_sought (d + 49) I1 hP1
    rw [ho] at s2
    have hl := skR_len ho
    have s1' := s1.1
    have s2' := s2.1
    refine ⟨nI l.length, h1, h2, ?_, ?_, G, I2⟩
    · simp (disch := first | omega | rfl | assumption) only [bX10_fewest_0, bX10_fewest_11, bX10_fewest_28, bX10_fewest_31, bX10_fewest_38, rX10_fewest, c.1 10090 4 rfl, v1, e1, c1.1 10090 4 rfl, s1', q_cl, q_ps, q_pn, bI_t, bI_f, gI_same, gI_ne, gR_pI, gJ_pI, gV_pI, gN_pI, gC_pI, gS_pI, gI_pJ, gR_pJ, gV_pJ, gN_pJ, gJ_same, gJ_ne, gI_pR, gJ_pR, gV_pR, gN_pR, gR_same, gR_ne, zin_t, zin_f, x_ltt, x_ltf, x_let, x_lef, x_eqt, x_eqf, n_0, n_1, n_2, n_3, n_4, n_5, n_6, n_7, n_8, n_9, n_10, n_11, n_12, n_16, n_19, n_20, n_24, n_25, n_32, n_40, n_48, n_50, n_60, n_64, n_80, n_96, n_114, n_684, n_1000, n_9330, n_16806, n_1000000, n_5764800, ↓n_m, m_ltI, m_leI, m_lt', m_le', m_eq, m_eq', m_add, m_sub, mm_lt, mm_le, mm_eq, q_sub, nI_add, q_mul, nI_clamp, bz_0, bz_1, q_bzb, b_0, b_1, b_ft, b_tf, ne_eq, not_true_eq_false, not_false_eq_true, decide_true, decide_false, Bool.and_self, Bool.false_and, Bool.and_false, Bool.and_true, Bool.true_and, Bool.not_true, Bool.not_false, ↓reduceIte]
    · simp (disch := first | omega | rfl | assumption) only [bX11_fewest_0, bX11_fewest_4, bX11_fewest_17, bX11_fewest_20, bX11_fewest_24, rX11_fewest, f1, s2', q_cl, q_ps, q_pn, bI_t, bI_f, gI_same, gI_ne, gR_pI, gJ_pI, gV_pI, gN_pI, gC_pI, gS_pI, gI_pJ, gR_pJ, gV_pJ, gN_pJ, gJ_same, gJ_ne, gI_pR, gJ_pR, gV_pR, gN_pR, gR_same, gR_ne, zin_t, zin_f, x_ltt, x_ltf, x_let, x_lef, x_eqt, x_eqf, n_0, n_1, n_2, n_3, n_4, n_5, n_6, n_7, n_8, n_9, n_10, n_11, n_12, n_16, n_19, n_20, n_24, n_25, n_32, n_40, n_48, n_50, n_60, n_64, n_80, n_96, n_114, n_684, n_1000, n_9330, n_16806, n_1000000, n_5764800, ↓n_m, m_ltI, m_leI, m_lt', m_le', m_eq, m_eq', m_add, m_sub, mm_lt, mm_le, mm_eq, q_sub, nI_add, q_mul, nI_clamp, bz_0, bz_1, q_bzb, b_0, b_1, b_ft, b_tf, ne_eq, not_true_eq_false, not_false_eq_true, decide_true, decide_false, Bool.and_self, Bool.false_and, Bool.and_false, Bool.and_true, Bool.true_and, Bool.not_true, Bool.not_false, ↓reduceIte]
theorem op_simple {N : Nat} {xs : Nat → Int32} (d : Nat) {h : z_H} (hI : Inv h N xs) (x1 x2 : Int32) : OKc N xs (d + 60) 113 218 [z_I x1, z_I x2] h := by
  obtain ⟨G, hG⟩ := hI
  have c := I_c hG
  obtain ⟨v1, v2, v3⟩ := I_V hG
  obtain ⟨n, pf, pt, hP⟩ := I_p hG
  have hw := within_zin2 x2 (n := 2) (by decide)
  rcases neg_or x1 with hx1 | ⟨i, hi, rfl⟩
  · exact OK_ref2 hG (-1000001) (by simp (disch := first | omega | rfl | assumption) only [bX10_simple_0, bX10_simple_13, bX10_simple_19, bX10_simple_20, bX10_simple_31, bX10_simple_48, bX10_simple_51, bX10_simple_64, rX10_simple, hx1, c_finding, q_cl, q_ps, q_pn, bI_t, bI_f, gI_same, gI_ne, gR_pI, gJ_pI, gV_pI, gN_pI, gC_pI, gS_pI, gI_pJ, gR_pJ, gV_pJ, gN_pJ, gJ_same, gJ_ne, gI_pR, gJ_pR, gV_pR, gN_pR, gR_same, gR_ne, zin_t, zin_f, x_ltt, x_ltf, x_let, x_lef, x_eqt, x_eqf, n_0, n_1, n_2, n_3, n_4, n_5, n_6, n_7, n_8, n_9, n_10, n_11, n_12, n_16, n_19, n_20, n_24, n_25, n_32, n_40, n_48, n_50, n_60, n_64, n_80, n_96, n_114, n_684, n_1000, n_9330, n_16806, n_1000000, n_5764800, ↓n_m, m_ltI, m_leI, m_lt', m_le', m_eq, m_eq', m_add, m_sub, mm_lt, mm_le, mm_eq, q_sub, nI_add, q_mul, nI_clamp, bz_0, bz_1, q_bzb, b_0, b_1, b_ft, b_tf, ne_eq, not_true_eq_false, not_false_eq_true, decide_true, decide_false, Bool.and_self, Bool.false_and, Bool.and_false, Bool.and_true, Bool.true_and, Bool.not_true, Bool.not_false, ↓reduceIte]) (by simp (disch := first | omega | rfl | assumption) only [bX11_simple_0, bX11_simple_10, bX11_simple_13, bX11_simple_19, bX11_simple_20, bX11_simple_24, bX11_simple_38, bX11_simple_39, bX11_simple_54, bX11_simple_57, bX11_simple_66, bX11_simple_69, bX11_simple_73, rX11_simple, hx1, m_finding, q_cl, q_ps, q_pn, bI_t, bI_f, gI_same, gI_ne, gR_pI, gJ_pI, gV_pI, gN_pI, gC_pI, gS_pI, gI_pJ, gR_pJ, gV_pJ, gN_pJ, gJ_same, gJ_ne, gI_pR, gJ_pR, gV_pR, gN_pR, gR_same, gR_ne, zin_t, zin_f, x_ltt, x_ltf, x_let, x_lef, x_eqt, x_eqf, n_0, n_1, n_2, n_3, n_4, n_5, n_6, n_7, n_8, n_9, n_10, n_11, n_12, n_16, n_19, n_20, n_24, n_25, n_32, n_40, n_48, n_50, n_60, n_64, n_80, n_96, n_114, n_684, n_1000, n_9330, n_16806, n_1000000, n_5764800, ↓n_m, m_ltI, m_leI, m_lt', m_le', m_eq, m_eq', m_add, m_sub, mm_lt, mm_le, mm_eq, q_sub, nI_add, q_mul, nI_clamp, bz_0, bz_1, q_bzb, b_0, b_1, b_ft, b_tf, ne_eq, not_true_eq_false, not_false_eq_true, decide_true, decide_false, Bool.and_self, Bool.false_and, Bool.and_false, Bool.and_true, Bool.true_and, Bool.not_true, Bool.not_false, ↓reduceIte])
  · cases g2 : z_in x2 3 with
    | false =>
      refine OK_ref2 hG (-1000001) ?_ (by simp (disch := first | omega | rfl | assumption) only [bX11_simple_0, bX11_simple_10, bX11_simple_13, bX11_simple_19, bX11_simple_20, bX11_simple_24, bX11_simple_38, bX11_simple_39, bX11_simple_54, bX11_simple_57, bX11_simple_66, bX11_simple_69, bX11_simple_73, rX11_simple, m_withinN, hw, g2, m_finding, q_cl, q_ps, q_pn, bI_t, bI_f, gI_same, gI_ne, gR_pI, gJ_pI, gV_pI, gN_pI, gC_pI, gS_pI, gI_pJ, gR_pJ, gV_pJ, gN_pJ, gJ_same, gJ_ne, gI_pR, gJ_pR, gV_pR, gN_pR, gR_same, gR_ne, zin_t, zin_f, x_ltt, x_ltf, x_let, x_lef, x_eqt, x_eqf, n_0, n_1, n_2, n_3, n_4, n_5, n_6, n_7, n_8, n_9, n_10, n_11, n_12, n_16, n_19, n_20, n_24, n_25, n_32, n_40, n_48, n_50, n_60, n_64, n_80, n_96, n_114, n_684, n_1000, n_9330, n_16806, n_1000000, n_5764800, ↓n_m, m_ltI, m_leI, m_lt', m_le', m_eq, m_eq', m_add, m_sub, mm_lt, mm_le, mm_eq, q_sub, nI_add, q_mul, nI_clamp, bz_0, bz_1, q_bzb, b_0, b_1, b_ft, b_tf, ne_eq, not_true_eq_false, not_false_eq_true, decide_true, decide_false, Bool.and_self, Bool.false_and, Bool.and_false, Bool.and_true, Bool.true_and, Bool.not_true, Bool.not_false, ↓reduceIte])
      rcases neg_or x2 with hx | ⟨y, hy, rfl⟩
      · simp (disch := first | omega | rfl | assumption) only [bX10_simple_0, bX10_simple_13, bX10_simple_19, bX10_simple_20, bX10_simple_31, bX10_simple_48, bX10_simple_51, bX10_simple_64, rX10_simple, hx, c_finding, q_cl, q_ps, q_pn, bI_t, bI_f, gI_same, gI_ne, gR_pI, gJ_pI, gV_pI, gN_pI, gC_pI, gS_pI, gI_pJ, gR_pJ, gV_pJ, gN_pJ, gJ_same, gJ_ne, gI_pR, gJ_pR, gV_pR, gN_pR, gR_same, gR_ne, zin_t, zin_f, x_ltt, x_ltf, x_let, x_lef, x_eqt, x_eqf, n_0, n_1, n_2, n_3, n_4, n_5, n_6, n_7, n_8, n_9, n_10, n_11, n_12, n_16, n_19, n_20, n_24, n_25, n_32, n_40, n_48, n_50, n_60, n_64, n_80, n_96, n_114, n_684, n_1000, n_9330, n_16806, n_1000000, n_5764800, ↓n_m, m_ltI, m_leI, m_lt', m_le', m_eq, m_eq', m_add, m_sub, mm_lt, mm_le, mm_eq, q_sub, nI_add, q_mul, nI_clamp, bz_0, bz_1, q_bzb, b_0, b_1, b_ft, b_tf, ne_eq, not_true_eq_false, not_false_eq_true, decide_true, decide_false, Bool.and_self, Bool.false_and, Bool.and_false, Bool.and_true, Bool.true_and, Bool.not_true, Bool.not_false, ↓reduceIte]
      · have : ¬ y < 3 := fun z => by rw [zin_t hy z] at g2; cases g2
        simp (disch := first | omega | rfl | assumption) only [bX10_simple_0, bX10_simple_13, bX10_simple_19, bX10_simple_20, bX10_simple_31, bX10_simple_48, bX10_simple_51, bX10_simple_64, rX10_simple, c_finding, q_cl, q_ps, q_pn, bI_t, bI_f, gI_same, gI_ne, gR_pI, gJ_pI, gV_pI, gN_pI, gC_pI, gS_pI, gI_pJ, gR_pJ, gV_pJ, gN_pJ, gJ_same, gJ_ne, gI_pR, gJ_pR, gV_pR, gN_pR, gR_same, gR_ne, zin_t, zin_f, x_ltt, x_ltf, x_let, x_lef, x_eqt, x_eqf, n_0, n_1, n_2, n_3, n_4, n_5, n_6, n_7, n_8, n_9, n_10, n_11, n_12, n_16, n_19, n_20, n_24, n_25, n_32, n_40, n_48, n_50, n_60, n_64, n_80, n_96, n_114, n_684, n_1000, n_9330, n_16806, n_1000000, n_5764800, ↓n_m, m_ltI, m_leI, m_lt', m_le', m_eq, m_eq', m_add, m_sub, mm_lt, mm_le, mm_eq, q_sub, nI_add, q_mul, nI_clamp, bz_0, bz_1, q_bzb, b_0, b_1, b_ft, b_tf, ne_eq, not_true_eq_false, not_false_eq_true, decide_true, decide_false, Bool.and_self, Bool.false_and, Bool.and_false, Bool.and_true, Bool.true_and, Bool.not_true, Bool.not_false, ↓reduceIte]
    | true =>
      obtain ⟨q, hq, -, rfl⟩ := zin_of g2
      obtain ⟨h1, e1, I1, hP1, s1, F1⟩ := c_searched (d + 52) hG hP
      have c1 := I_c I1
      have I3 := Inv_cf I1
      have hP3 : iPrG (pI h1 10090 0 9 (gI h1 10090 0 9 + nI 1)) (gvV G) n pf pt := iPrG_fr (S := [0]) (frX_pI2 0 rfl (by decide) _ _) (by decide) hP1
      cases ho : skR (gvV G) n pf pt with
      | none =>
        rw [ho] at s1
        have s1' : gI h1 8050 0 1 = mI := s1
        obtain ⟨h2, f1, I2, s2, -⟩ := m_sought (d + 49) I3 hP3
        rw [ho] at s2
        have s2' : gI h2 49100 0 44 = mI := s2
        have f1' : Rn (d + 59) 216 [z_R 49100 0] (pI h1 10090 0 9 (gI h1 10090 0 9 + nI 1)) = some (none, h2) := f1
        refine OK_fin (G := G) (h1 := h1) (h2 := h2) (-1000004) ?_ ?_ I2
        · simp (disch := first | omega | rfl | assumption) only [bX10_simple_0, bX10_simple_13, bX10_simple_19, bX10_simple_20, bX10_simple_31, bX10_simple_48, bX10_simple_51, bX10_simple_64, rX10_simple, c.1 10090 4 rfl, v1, e1, c1.1 10090 4 rfl, s1', c_finding, q_cl, q_ps, q_pn, bI_t, bI_f, gI_same, gI_ne, gR_pI, gJ_pI, gV_pI, gN_pI, gC_pI, gS_pI, gI_pJ, gR_pJ, gV_pJ, gN_pJ, gJ_same, gJ_ne, gI_pR, gJ_pR, gV_pR, gN_pR, gR_same, gR_ne, zin_t, zin_f, x_ltt, x_ltf, x_let, x_lef, x_eqt, x_eqf, n_0, n_1, n_2, n_3, n_4, n_5, n_6, n_7, n_8, n_9, n_10, n_11, n_12, n_16, n_19, n_20, n_24, n_25, n_32, n_40, n_48, n_50, n_60, n_64, n_80, n_96, n_114, n_684, n_1000, n_9330, n_16806, n_1000000, n_5764800, ↓n_m, m_ltI, m_leI, m_lt', m_le', m_eq, m_eq', m_add, m_sub, mm_lt, mm_le, mm_eq, q_sub, nI_add, q_mul, nI_clamp, bz_0, bz_1, q_bzb, b_0, b_1, b_ft, b_tf, ne_eq, not_true_eq_false, not_false_eq_true, decide_true, decide_false, Bool.and_self, Bool.false_and, Bool.and_false, Bool.and_true, Bool.true_and, Bool.not_true, Bool.not_false, ↓reduceIte]
        · simp (disch := first | omega | rfl | assumption) only [bX11_simple_0, bX11_simple_10, bX11_simple_13, bX11_simple_19, bX11_simple_20, bX11_simple_24, bX11_simple_38, bX11_simple_39, bX11_simple_54, bX11_simple_57, bX11_simple_66, bX11_simple_69, bX11_simple_73, rX11_simple, m_withinN, hw, g2, f1', s2', m_finding, q_cl, q_ps, q_pn, bI_t, bI_f, gI_same, gI_ne, gR_pI, gJ_pI, gV_pI, gN_pI, gC_pI, gS_pI, gI_pJ, gR_pJ, gV_pJ, gN_pJ, gJ_same, gJ_ne, gI_pR, gJ_pR, gV_pR, gN_pR, gR_same, gR_ne, zin_t, zin_f, x_ltt, x_ltf, x_let, x_lef, x_eqt, x_eqf, n_0, n_1, n_2, n_3, n_4, n_5, n_6, n_7, n_8, n_9, n_10, n_11, n_12, n_16, n_19, n_20, n_24, n_25, n_32, n_40, n_48, n_50, n_60, n_64, n_80, n_96, n_114, n_684, n_1000, n_9330, n_16806, n_1000000, n_5764800, ↓n_m, m_ltI, m_leI, m_lt', m_le', m_eq, m_eq', m_add, m_sub, mm_lt, mm_le, mm_eq, q_sub, nI_add, q_mul, nI_clamp, bz_0, bz_1, q_bzb, b_0, b_1, b_ft, b_tf, ne_eq, not_true_eq_false, not_false_eq_true, decide_true, decide_false, Bool.and_self, Bool.false_and, Bool.and_false, Bool.and_true, Bool.true_and, Bool.not_true, Bool.not_false, ↓reduceIte]
      | some l =>
        rw [ho] at s1
        have hl := skR_len ho
        have s1' := s1.1
        by_cases hil : i < l.length
        · obtain ⟨h2, f1, I2, s2, -⟩ := m_sought (d + 49) I1 hP1
          rw [ho] at s2
          have s2' := s2.1
          have hx : l[i]? = some l[i] := List.getElem?_eq_getElem hil
          obtain ⟨t1, t2, t3, t4⟩ := s1.2 i _ hx
          obtain ⟨t5, t6⟩ := s2.2 i _ hx
          generalize l[i] = s at t1 t2 t3 t4 t5 t6
          have m2 := I_m I2
          have hi3 : i * 3 = 3 * i := by omega
          have d1 : nI s - nI s / nI 19 * nI 19 = nI (s % 19) := q_rem (by omega) (by omega) (by omega)
          have hq3 : q = 0 ∨ q = 1 ∨ q = 2 := by omega
          rcases hq3 with rfl | rfl | rfl
          · refine ⟨nI (s_fr s), h1, h2, ?_, ?_, G, I2⟩
            · simp (disch := first | omega | rfl | assumption) only [bX10_simple_0, bX10_simple_13, bX10_simple_19, bX10_simple_20, bX10_simple_31, bX10_simple_48, bX10_simple_51, bX10_simple_64, rX10_simple, c.1 10090 4 rfl, v1, e1, c1.1 10090 4 rfl, s1', c1.1 8050 3 rfl, hi3, Nat.add_zero, t2, q_cl, q_ps, q_pn, bI_t, bI_f, gI_same, gI_ne, gR_pI, gJ_pI, gV_pI, gN_pI, gC_pI, gS_pI, gI_pJ, gR_pJ, gV_pJ, gN_pJ, gJ_same, gJ_ne, gI_pR, gJ_pR, gV_pR, gN_pR, gR_same, gR_ne, zin_t, zin_f, x_ltt, x_ltf, x_let, x_lef, x_eqt, x_eqf, n_0, n_1, n_2, n_3, n_4, n_5, n_6, n_7, n_8, n_9, n_10, n_11, n_12, n_16, n_19, n_20, n_24, n_25, n_32, n_40, n_48, n_50, n_60, n_64, n_80, n_96, n_114, n_684, n_1000, n_9330, n_16806, n_1000000, n_5764800, ↓n_m, m_ltI, m_leI, m_lt', m_le', m_eq, m_eq', m_add, m_sub, mm_lt, mm_le, mm_eq, q_sub, nI_add, q_mul, nI_clamp, bz_0, bz_1, q_bzb, b_0, b_1, b_ft, b_tf, ne_eq, not_true_eq_false, not_false_eq_true, decide_true, decide_false, Bool.and_self, Bool.false_and, Bool.and_false, Bool.and_true, Bool.true_and, Bool.not_true, Bool.not_false, ↓reduceIte]
            · simp (disch := first | omega | rfl | assumption) only [bX11_simple_0, bX11_simple_10, bX11_simple_13, bX11_simple_19, bX11_simple_20, bX11_simple_24, bX11_simple_38, bX11_simple_39, bX11_simple_54, bX11_simple_57, bX11_simple_66, bX11_simple_69, bX11_simple_73, rX11_simple, m_withinN, hw, g2, f1, s2', m2 45 rfl, t6, m_fromOf (d + 58) t1, q_cl, q_ps, q_pn, bI_t, bI_f, gI_same, gI_ne, gR_pI, gJ_pI, gV_pI, gN_pI, gC_pI, gS_pI, gI_pJ, gR_pJ, gV_pJ, gN_pJ, gJ_same, gJ_ne, gI_pR, gJ_pR, gV_pR, gN_pR, gR_same, gR_ne, zin_t, zin_f, x_ltt, x_ltf, x_let, x_lef, x_eqt, x_eqf, n_0, n_1, n_2, n_3, n_4, n_5, n_6, n_7, n_8, n_9, n_10, n_11, n_12, n_16, n_19, n_20, n_24, n_25, n_32, n_40, n_48, n_50, n_60, n_64, n_80, n_96, n_114, n_684, n_1000, n_9330, n_16806, n_1000000, n_5764800, ↓n_m, m_ltI, m_leI, m_lt', m_le', m_eq, m_eq', m_add, m_sub, mm_lt, mm_le, mm_eq, q_sub, nI_add, q_mul, nI_clamp, bz_0, bz_1, q_bzb, b_0, b_1, b_ft, b_tf, ne_eq, not_true_eq_false, not_false_eq_true, decide_true, decide_false, Bool.and_self, Bool.false_and, Bool.and_false, Bool.and_true, Bool.true_and, Bool.not_true, Bool.not_false, ↓reduceIte]
              rfl
          · refine ⟨mkI (s_to s), h1, h2, ?_, ?_, G, I2⟩
            · simp (disch := first | omega | rfl | assumption) only [bX10_simple_0, bX10_simple_13, bX10_simple_19, bX10_simple_20, bX10_simple_31, bX10_simple_48, bX10_simple_51, bX10_simple_64, rX10_simple, c.1 10090 4 rfl, v1, e1, c1.1 10090 4 rfl, s1', c1.1 8050 3 rfl, hi3, t3, q_cl, q_ps, q_pn, bI_t, bI_f, gI_same, gI_ne, gR_pI, gJ_pI, gV_pI, gN_pI, gC_pI, gS_pI, gI_pJ, gR_pJ, gV_pJ, gN_pJ, gJ_same, gJ_ne, gI_pR, gJ_pR, gV_pR, gN_pR, gR_same, gR_ne, zin_t, zin_f, x_ltt, x_ltf, x_let, x_lef, x_eqt, x_eqf, n_0, n_1, n_2, n_3, n_4, n_5, n_6, n_7, n_8, n_9, n_10, n_11, n_12, n_16, n_19, n_20, n_24, n_25, n_32, n_40, n_48, n_50, n_60, n_64, n_80, n_96, n_114, n_684, n_1000, n_9330, n_16806, n_1000000, n_5764800, ↓n_m, m_ltI, m_leI, m_lt', m_le', m_eq, m_eq', m_add, m_sub, mm_lt, mm_le, mm_eq, q_sub, nI_add, q_mul, nI_clamp, bz_0, bz_1, q_bzb, b_0, b_1, b_ft, b_tf, ne_eq, not_true_eq_false, not_false_eq_true, decide_true, decide_false, Bool.and_self, Bool.false_and, Bool.and_false, Bool.and_true, Bool.true_and, Bool.not_true, Bool.not_false, ↓reduceIte]
            · simp (disch := first | omega | rfl | assumption) only [bX11_simple_0, bX11_simple_10, bX11_simple_13, bX11_simple_19, bX11_simple_20, bX11_simple_24, bX11_simple_38, bX11_simple_39, bX11_simple_54, bX11_simple_57, bX11_simple_66, bX11_simple_69, bX11_simple_73, rX11_simple, m_withinN, hw, g2, f1, s2', m2 45 rfl, t6, m_toOf (d + 57) t1, q_cl, q_ps, q_pn, bI_t, bI_f, gI_same, gI_ne, gR_pI, gJ_pI, gV_pI, gN_pI, gC_pI, gS_pI, gI_pJ, gR_pJ, gV_pJ, gN_pJ, gJ_same, gJ_ne, gI_pR, gJ_pR, gV_pR, gN_pR, gR_same, gR_ne, zin_t, zin_f, x_ltt, x_ltf, x_let, x_lef, x_eqt, x_eqf, n_0, n_1, n_2, n_3, n_4, n_5, n_6, n_7, n_8, n_9, n_10, n_11, n_12, n_16, n_19, n_20, n_24, n_25, n_32, n_40, n_48, n_50, n_60, n_64, n_80, n_96, n_114, n_684, n_1000, n_9330, n_16806, n_1000000, n_5764800, ↓n_m, m_ltI, m_leI, m_lt', m_le', m_eq, m_eq', m_add, m_sub, mm_lt, mm_le, mm_eq, q_sub, nI_add, q_mul, nI_clamp, bz_0, bz_1, q_bzb, b_0, b_1, b_ft, b_tf, ne_eq, not_true_eq_false, not_false_eq_true, decide_true, decide_false, Bool.and_self, Bool.false_and, Bool.and_false, Bool.and_true, Bool.true_and, Bool.not_true, Bool.not_false, ↓reduceIte]
          · refine ⟨nI (s % 19), h1, h2, ?_, ?_, G, I2⟩
            · simp (disch := first | omega | rfl | assumption) only [bX10_simple_0, bX10_simple_13, bX10_simple_19, bX10_simple_20, bX10_simple_31, bX10_simple_48, bX10_simple_51, bX10_simple_64, rX10_simple, c.1 10090 4 rfl, v1, e1, c1.1 10090 4 rfl, s1', c1.1 8050 3 rfl, hi3, t4, q_cl, q_ps, q_pn, bI_t, bI_f, gI_same, gI_ne, gR_pI, gJ_pI, gV_pI, gN_pI, gC_pI, gS_pI, gI_pJ, gR_pJ, gV_pJ, gN_pJ, gJ_same, gJ_ne, gI_pR, gJ_pR, gV_pR, gN_pR, gR_same, gR_ne, zin_t, zin_f, x_ltt, x_ltf, x_let, x_lef, x_eqt, x_eqf, n_0, n_1, n_2, n_3, n_4, n_5, n_6, n_7, n_8, n_9, n_10, n_11, n_12, n_16, n_19, n_20, n_24, n_25, n_32, n_40, n_48, n_50, n_60, n_64, n_80, n_96, n_114, n_684, n_1000, n_9330, n_16806, n_1000000, n_5764800, ↓n_m, m_ltI, m_leI, m_lt', m_le', m_eq, m_eq', m_add, m_sub, mm_lt, mm_le, mm_eq, q_sub, nI_add, q_mul, nI_clamp, bz_0, bz_1, q_bzb, b_0, b_1, b_ft, b_tf, ne_eq, not_true_eq_false, not_false_eq_true, decide_true, decide_false, Bool.and_self, Bool.false_and, Bool.and_false, Bool.and_true, Bool.true_and, Bool.not_true, Bool.not_false, ↓reduceIte]
            · simp (disch := first | omega | rfl | assumption) only [bX11_simple_0, bX11_simple_10, bX11_simple_13, bX11_simple_19, bX11_simple_20, bX11_simple_24, bX11_simple_38, bX11_simple_39, bX11_simple_54, bX11_simple_57, bX11_simple_66, bX11_simple_69, bX11_simple_73, rX11_simple, m_withinN, hw, g2, f1, s2', m2 45 rfl, t6, d1, q_cl, q_ps, q_pn, bI_t, bI_f, gI_same, gI_ne, gR_pI, gJ_pI, gV_pI, gN_pI, gC_pI, gS_pI, gI_pJ, gR_pJ, gV_pJ, gN_pJ, gJ_same, gJ_ne, gI_pR, gJ_pR, gV_pR, gN_pR, gR_same, gR_ne, zin_t, zin_f, x_ltt, x_ltf, x_let, x_lef, x_eqt, x_eqf, n_0, n_1, n_2, n_3, n_4, n_5, n_6, n_7, n_8, n_9, n_10, n_11, n_12, n_16, n_19, n_20, n_24, n_25, n_32, n_40, n_48, n_50, n_60, n_64, n_80, n_96, n_114, n_684, n_1000, n_9330, n_16806, n_1000000, n_5764800, ↓n_m, m_ltI, m_leI, m_lt', m_le', m_eq, m_eq', m_add, m_sub, mm_lt, mm_le, mm_eq, q_sub, nI_add, q_mul, nI_clamp, bz_0, bz_1, q_bzb, b_0, b_1, b_ft, b_tf, ne_eq, not_true_eq_false, not_false_eq_true, decide_true, decide_false, Bool.and_self, Bool.false_and, Bool.and_false, Bool.and_true, Bool.true_and, Bool.not_true, Bool.not_false, ↓reduceIte]
        · obtain ⟨h2, f1, I2, s2, -⟩ := m_sought (d + 49) I3 hP3
          rw [ho] at s2
          have s2' := s2.1
          have f1' : Rn (d + 59) 216 [z_R 49100 0] (pI h1 10090 0 9 (gI h1 10090 0 9 + nI 1)) = some (none, h2) := f1
          refine OK_fin (G := G) (h1 := h1) (h2 := h2) (-1000004) ?_ ?_ I2
          · simp (disch := first | omega | rfl | assumption) only [bX10_simple_0, bX10_simple_13, bX10_simple_19, bX10_simple_20, bX10_simple_31, bX10_simple_48, bX10_simple_51, bX10_simple_64, rX10_simple, c.1 10090 4 rfl, v1, e1, c1.1 10090 4 rfl, s1', c_finding, q_cl, q_ps, q_pn, bI_t, bI_f, gI_same, gI_ne, gR_pI, gJ_pI, gV_pI, gN_pI, gC_pI, gS_pI, gI_pJ, gR_pJ, gV_pJ, gN_pJ, gJ_same, gJ_ne, gI_pR, gJ_pR, gV_pR, gN_pR, gR_same, gR_ne, zin_t, zin_f, x_ltt, x_ltf, x_let, x_lef, x_eqt, x_eqf, n_0, n_1, n_2, n_3, n_4, n_5, n_6, n_7, n_8, n_9, n_10, n_11, n_12, n_16, n_19, n_20, n_24, n_25, n_32, n_40, n_48, n_50, n_60, n_64, n_80, n_96, n_114, n_684, n_1000, n_9330, n_16806, n_1000000, n_5764800, ↓n_m, m_ltI, m_leI, m_lt', m_le', m_eq, m_eq', m_add, m_sub, mm_lt, mm_le, mm_eq, q_sub, nI_add, q_mul, nI_clamp, bz_0, bz_1, q_bzb, b_0, b_1, b_ft, b_tf, ne_eq, not_true_eq_false, not_false_eq_true, decide_true, decide_false, Bool.and_self, Bool.false_and, Bool.and_false, Bool.and_true, Bool.true_and, Bool.not_true, Bool.not_false, ↓reduceIte]
          · simp (disch := first | omega | rfl | assumption) only [bX11_simple_0, bX11_simple_10, bX11_simple_13, bX11_simple_19, bX11_simple_20, bX11_simple_24, bX11_simple_38, bX11_simple_39, bX11_simple_54, bX11_simple_57, bX11_simple_66, bX11_simple_69, bX11_simple_73, rX11_simple, m_withinN, hw, g2, f1', s2', m_finding, q_cl, q_ps, q_pn, bI_t, bI_f, gI_same, gI_ne, gR_pI, gJ_pI, gV_pI, gN_pI, gC_pI, gS_pI, gI_pJ, gR_pJ, gV_pJ, gN_pJ, gJ_same, gJ_ne, gI_pR, gJ_pR, gV_pR, gN_pR, gR_same, gR_ne, zin_t, zin_f, x_ltt, x_ltf, x_let, x_lef, x_eqt, x_eqf, n_0, n_1, n_2, n_3, n_4, n_5, n_6, n_7, n_8, n_9, n_10, n_11, n_12, n_16, n_19, n_20, n_24, n_25, n_32, n_40, n_48, n_50, n_60, n_64, n_80, n_96, n_114, n_684, n_1000, n_9330, n_16806, n_1000000, n_5764800, ↓n_m, m_ltI, m_leI, m_lt', m_le', m_eq, m_eq', m_add, m_sub, mm_lt, mm_le, mm_eq, q_sub, nI_add, q_mul, nI_clamp, bz_0, bz_1, q_bzb, b_0, b_1, b_ft, b_tf, ne_eq, not_true_eq_false, not_false_eq_true, decide_true, decide_false, Bool.and_self, Bool.false_and, Bool.and_false, Bool.and_true, Bool.true_and, Bool.not_true, Bool.not_false, ↓reduceIte]
theorem op_proof {N : Nat} {xs : Nat → Int32} (d : Nat) {h : z_H} (hI : Inv h N xs) (x1 : Int32) : OKc N xs (d + 60) 114 219 [z_I x1] h := by
  obtain ⟨G, hG⟩ := hI
  have c := I_c hG
  obtain ⟨v1, v2, v3⟩ := I_V hG
  obtain ⟨n, pf, pt, hP⟩ := I_p hG
  have hP' := hP
  obtain ⟨l1, l2, l3, l4, l5, l6⟩ := hP'
  have nn : n < 2 ^ 31 := by omega
  have hw := within_zin x1 nn
  have gd : ∀ (h' : z_H), gI h' 49100 0 20 = nI n → ∀ b, z_in x1 n = b → EX (d + 59) 219 0 [z_R 49100 0, z_I x1] [] h' = EX (d + 59) 219 11 [z_R 49100 0, z_I x1] [z_I (bI b)] h' := by
    intro h' q b hb
    rw [bX11_proof_0, q]
    have := m_withinN (d + 58) x1 (nI 0) (nI n - nI 1) h'
    rw [hw, hb] at this
    show z_cl (Rn (d + 59) 139 [z_I x1, z_I (nI 0), z_I (nI n - nI 1)] h') _ = _
    rw [this, q_cl, q_ps]
  cases g1 : z_in x1 n with
  | false =>
    refine OK_ref2 hG (-1000001) ?_ (by simp (disch := first | omega | rfl | assumption) only [rX11_proof, gd (pI h 10090 0 9 (gI h 10090 0 9 + nI 1)) (by simp (disch := first | omega | rfl | assumption) only [l3, q_cl, q_ps, q_pn, bI_t, bI_f, gI_same, gI_ne, gR_pI, gJ_pI, gV_pI, gN_pI, gC_pI, gS_pI, gI_pJ, gR_pJ, gV_pJ, gN_pJ, gJ_same, gJ_ne, gI_pR, gJ_pR, gV_pR, gN_pR, gR_same, gR_ne, zin_t, zin_f, x_ltt, x_ltf, x_let, x_lef, x_eqt, x_eqf, n_0, n_1, n_2, n_3, n_4, n_5, n_6, n_7, n_8, n_9, n_10, n_11, n_12, n_16, n_19, n_20, n_24, n_25, n_32, n_40, n_48, n_50, n_60, n_64, n_80, n_96, n_114, n_684, n_1000, n_9330, n_16806, n_1000000, n_5764800, ↓n_m, m_ltI, m_leI, m_lt', m_le', m_eq, m_eq', m_add, m_sub, mm_lt, mm_le, mm_eq, q_sub, nI_add, q_mul, nI_clamp, bz_0, bz_1, q_bzb, b_0, b_1, b_ft, b_tf, ne_eq, not_true_eq_false, not_false_eq_true, decide_true, decide_false, Bool.and_self, Bool.false_and, Bool.and_false, Bool.and_true, Bool.true_and, Bool.not_true, Bool.not_false, ↓reduceIte]) _ g1, bX11_proof_11, bX11_proof_20, bX11_proof_21, bX11_proof_25, bX11_proof_38, bX11_proof_39, bX11_proof_51, bX11_proof_57, bX11_proof_60, rX11_proof, m_finding, q_cl, q_ps, q_pn, bI_t, bI_f, gI_same, gI_ne, gR_pI, gJ_pI, gV_pI, gN_pI, gC_pI, gS_pI, gI_pJ, gR_pJ, gV_pJ, gN_pJ, gJ_same, gJ_ne, gI_pR, gJ_pR, gV_pR, gN_pR, gR_same, gR_ne, zin_t, zin_f, x_ltt, x_ltf, x_let, x_lef, x_eqt, x_eqf, n_0, n_1, n_2, n_3, n_4, n_5, n_6, n_7, n_8, n_9, n_10, n_11, n_12, n_16, n_19, n_20, n_24, n_25, n_32, n_40, n_48, n_50, n_60, n_64, n_80, n_96, n_114, n_684, n_1000, n_9330, n_16806, n_1000000, n_5764800, ↓n_m, m_ltI, m_leI, m_lt', m_le', m_eq, m_eq', m_add, m_sub, mm_lt, mm_le, mm_eq, q_sub, nI_add, q_mul, nI_clamp, bz_0, bz_1, q_bzb, b_0, b_1, b_ft, b_tf, ne_eq, not_true_eq_false, not_false_eq_true, decide_true, decide_false, Bool.and_self, Bool.false_and, Bool.and_false, Bool.and_true, Bool.true_and, Bool.not_true, Bool.not_false, ↓reduceIte])
    rcases neg_or x1 with hx | ⟨y, hy, rfl⟩
    · simp (disch := first | omega | rfl | assumption) only [bX10_proof_0, bX10_proof_15, bX10_proof_21, bX10_proof_22, bX10_proof_33, bX10_proof_50, bX10_proof_53, bX10_proof_65, bX10_proof_68, rX10_proof, hx, c_finding, q_cl, q_ps, q_pn, bI_t, bI_f, gI_same, gI_ne, gR_pI, gJ_pI, gV_pI, gN_pI, gC_pI, gS_pI, gI_pJ, gR_pJ, gV_pJ, gN_pJ, gJ_same, gJ_ne, gI_pR, gJ_pR, gV_pR, gN_pR, gR_same, gR_ne, zin_t, zin_f, x_ltt, x_ltf, x_let, x_lef, x_eqt, x_eqf, n_0, n_1, n_2, n_3, n_4, n_5, n_6, n_7, n_8, n_9, n_10, n_11, n_12, n_16, n_19, n_20, n_24, n_25, n_32, n_40, n_48, n_50, n_60, n_64, n_80, n_96, n_114, n_684, n_1000, n_9330, n_16806, n_1000000, n_5764800, ↓n_m, m_ltI, m_leI, m_lt', m_le', m_eq, m_eq', m_add, m_sub, mm_lt, mm_le, mm_eq, q_sub, nI_add, q_mul, nI_clamp, bz_0, bz_1, q_bzb, b_0, b_1, b_ft, b_tf, ne_eq, not_true_eq_false, not_false_eq_true, decide_true, decide_false, Bool.and_self, Bool.false_and, Bool.and_false, Bool.and_true, Bool.true_and, Bool.not_true, Bool.not_false, ↓reduceIte]
    · have : ¬ y < n := fun q => by rw [zin_t hy q] at g1; cases g1
      simp (disch := first | omega | rfl | assumption) only [bX10_proof_0, bX10_proof_15, bX10_proof_21, bX10_proof_22, bX10_proof_33, bX10_proof_50, bX10_proof_53, bX10_proof_65, bX10_proof_68, rX10_proof, c.1 10090 4 rfl, l2, c_finding, q_cl, q_ps, q_pn, bI_t, bI_f, gI_same, gI_ne, gR_pI, gJ_pI, gV_pI, gN_pI, gC_pI, gS_pI, gI_pJ, gR_pJ, gV_pJ, gN_pJ, gJ_same, gJ_ne, gI_pR, gJ_pR, gV_pR, gN_pR, gR_same, gR_ne, zin_t, zin_f, x_ltt, x_ltf, x_let, x_lef, x_eqt, x_eqf, n_0, n_1, n_2, n_3, n_4, n_5, n_6, n_7, n_8, n_9, n_10, n_11, n_12, n_16, n_19, n_20, n_24, n_25, n_32, n_40, n_48, n_50, n_60, n_64, n_80, n_96, n_114, n_684, n_1000, n_9330, n_16806, n_1000000, n_5764800, ↓n_m, m_ltI, m_leI, m_lt', m_le', m_eq, m_eq', m_add, m_sub, mm_lt, mm_le, mm_eq, q_sub, nI_add, q_mul, nI_clamp, bz_0, bz_1, q_bzb, b_0, b_1, b_ft, b_tf, ne_eq, not_true_eq_false, not_false_eq_true, decide_true, decide_false, Bool.and_self, Bool.false_and, Bool.and_false, Bool.and_true, Bool.true_and, Bool.not_true, Bool.not_false, ↓reduceIte]
  | true =>
    obtain ⟨i, hi, -, rfl⟩ := zin_of g1
    obtain ⟨h1, e1, I1, hP1, s1, F1⟩ := c_searched (d + 52) hG hP
    have c1 := I_c I1
    obtain ⟨w1, w2, w3, w4, w5, w6⟩ := hP1.2.2.2.1 i hi
    cases ho : skR (gvV G) n pf pt with
    | none =>
      rw [ho] at s1
      have s1' : gI h1 8050 0 1 = mI := s1
      have I3 := Inv_cf I1
      have hP3 : iPrG (pI h1 10090 0 9 (gI h1 10090 0 9 + nI 1)) (gvV G) n pf pt := iPrG_fr (S := [0]) (frX_pI2 0 rfl (by decide) _ _) (by decide) hP1
      obtain ⟨h2, f1, I2, s2, -⟩ := m_sought (d + 49) I3 hP3
      rw [ho] at s2
      have s2' : gI h2 49100 0 44 = mI := s2
      have f1' : Rn (d + 59) 216 [z_R 49100 0] (pI h1 10090 0 9 (gI h1 10090 0 9 + nI 1)) = some (none, h2) := f1
      refine OK_fin (G := G) (h1 := h1) (h2 := h2) (-1000004) ?_ ?_ I2
      · simp (disch := first | omega | rfl | assumption) only [bX10_proof_0, bX10_proof_15, bX10_proof_21, bX10_proof_22, bX10_proof_33, bX10_proof_50, bX10_proof_53, bX10_proof_65, bX10_proof_68, rX10_proof, c.1 10090 4 rfl, l2, v1, e1, c1.1 10090 4 rfl, s1', c_finding, q_cl, q_ps, q_pn, bI_t, bI_f, gI_same, gI_ne, gR_pI, gJ_pI, gV_pI, gN_pI, gC_pI, gS_pI, gI_pJ, gR_pJ, gV_pJ, gN_pJ, gJ_same, gJ_ne, gI_pR, gJ_pR, gV_pR, gN_pR, gR_same, gR_ne, zin_t, zin_f, x_ltt, x_ltf, x_let, x_lef, x_eqt, x_eqf, n_0, n_1, n_2, n_3, n_4, n_5, n_6, n_7, n_8, n_9, n_10, n_11, n_12, n_16, n_19, n_20, n_24, n_25, n_32, n_40, n_48, n_50, n_60, n_64, n_80, n_96, n_114, n_684, n_1000, n_9330, n_16806, n_1000000, n_5764800, ↓n_m, m_ltI, m_leI, m_lt', m_le', m_eq, m_eq', m_add, m_sub, mm_lt, mm_le, mm_eq, q_sub, nI_add, q_mul, nI_clamp, bz_0, bz_1, q_bzb, b_0, b_1, b_ft, b_tf, ne_eq, not_true_eq_false, not_false_eq_true, decide_true, decide_false, Bool.and_self, Bool.false_and, Bool.and_false, Bool.and_true, Bool.true_and, Bool.not_true, Bool.not_false, ↓reduceIte]
      · simp (disch := first | omega | rfl | assumption) only [rX11_proof, gd (pI h1 10090 0 9 (gI h1 10090 0 9 + nI 1)) hP3.2.2.1 _ g1, bX11_proof_11, bX11_proof_20, bX11_proof_21, bX11_proof_25, bX11_proof_38, bX11_proof_39, bX11_proof_51, bX11_proof_57, bX11_proof_60, rX11_proof, f1', s2', show (nI 0 ≤ mI) = False from by decide, m_finding, q_cl, q_ps, q_pn, bI_t, bI_f, gI_same, gI_ne, gR_pI, gJ_pI, gV_pI, gN_pI, gC_pI, gS_pI, gI_pJ, gR_pJ, gV_pJ, gN_pJ, gJ_same, gJ_ne, gI_pR, gJ_pR, gV_pR, gN_pR, gR_same, gR_ne, zin_t, zin_f, x_ltt, x_ltf, x_let, x_lef, x_eqt, x_eqf, n_0, n_1, n_2, n_3, n_4, n_5, n_6, n_7, n_8, n_9, n_10, n_11, n_12, n_16, n_19, n_20, n_24, n_25, n_32, n_40, n_48, n_50, n_60, n_64, n_80, n_96, n_114, n_684, n_1000, n_9330, n_16806, n_1000000, n_5764800, ↓n_m, m_ltI, m_leI, m_lt', m_le', m_eq, m_eq', m_add, m_sub, mm_lt, mm_le, mm_eq, q_sub, nI_add, q_mul, nI_clamp, bz_0, bz_1, q_bzb, b_0, b_1, b_ft, b_tf, ne_eq, not_true_eq_false, not_false_eq_true, decide_true, decide_false, Bool.and_self, Bool.false_and, Bool.and_false, Bool.and_true, Bool.true_and, Bool.not_true, Bool.not_false, ↓reduceIte]
    | some l =>
      rw [ho] at s1
      have hl := skR_len ho
      have s1' := s1.1
      have v1' := (I_V I1).1
      cases l with
      | nil =>
        have s1'' : gI h1 8050 0 1 = nI 0 := s1'
        obtain ⟨h2, f1, I2, s2, mp⟩ := m_sought (d + 49) I1 hP1
        rw [ho] at s2
        have s2' : gI h2 49100 0 44 = nI 0 := s2.1
        obtain ⟨h3, k1, k2, k3⟩ := m_runFirst0 (d + 58) mp
        have m3 := fr_mOK k3 mp.1
        refine ⟨nI (wN (pf i)), h1, h3, ?_, ?_, G, Inv_scr (frX_fr k3 pRf_g) I2⟩
        · simp (disch := first | omega | rfl | assumption) only [bX10_proof_0, bX10_proof_15, bX10_proof_21, bX10_proof_22, bX10_proof_33, bX10_proof_50, bX10_proof_53, bX10_proof_65, bX10_proof_68, rX10_proof, c.1 10090 4 rfl, l2, v1, e1, c1.1 10090 4 rfl, s1'', v1', bX5_middleOf_0, bX5_middleOf_15, bX5_middleOf_45, bX5_middleOf_58, rX5_middleOf, c1.1 8050 4 rfl, w3, c_numberOf _ w1, q_cl, q_ps, q_pn, bI_t, bI_f, gI_same, gI_ne, gR_pI, gJ_pI, gV_pI, gN_pI, gC_pI, gS_pI, gI_pJ, gR_pJ, gV_pJ, gN_pJ, gJ_same, gJ_ne, gI_pR, gJ_pR, gV_pR, gN_pR, gR_same, gR_ne, zin_t, zin_f, x_ltt, x_ltf, x_let, x_lef, x_eqt, x_eqf, n_0, n_1, n_2, n_3, n_4, n_5, n_6, n_7, n_8, n_9, n_10, n_11, n_12, n_16, n_19, n_20, n_24, n_25, n_32, n_40, n_48, n_50, n_60, n_64, n_80, n_96, n_114, n_684, n_1000, n_9330, n_16806, n_1000000, n_5764800, ↓n_m, m_ltI, m_leI, m_lt', m_le', m_eq, m_eq', m_add, m_sub, mm_lt, mm_le, mm_eq, q_sub, nI_add, q_mul, nI_clamp, bz_0, bz_1, q_bzb, b_0, b_1, b_ft, b_tf, ne_eq, not_true_eq_false, not_false_eq_true, decide_true, decide_false, Bool.and_self, Bool.false_and, Bool.and_false, Bool.and_true, Bool.true_and, Bool.not_true, Bool.not_false, ↓reduceIte]
        · simp (disch := first | omega | rfl | assumption) only [rX11_proof, gd h1 hP1.2.2.1 _ g1, bX11_proof_11, bX11_proof_20, bX11_proof_21, bX11_proof_25, bX11_proof_38, bX11_proof_39, bX11_proof_51, bX11_proof_57, bX11_proof_60, rX11_proof, f1, s2', k1, m3 46 rfl, (k2 i hi).2, q_cl, q_ps, q_pn, bI_t, bI_f, gI_same, gI_ne, gR_pI, gJ_pI, gV_pI, gN_pI, gC_pI, gS_pI, gI_pJ, gR_pJ, gV_pJ, gN_pJ, gJ_same, gJ_ne, gI_pR, gJ_pR, gV_pR, gN_pR, gR_same, gR_ne, zin_t, zin_f, x_ltt, x_ltf, x_let, x_lef, x_eqt, x_eqf, n_0, n_1, n_2, n_3, n_4, n_5, n_6, n_7, n_8, n_9, n_10, n_11, n_12, n_16, n_19, n_20, n_24, n_25, n_32, n_40, n_48, n_50, n_60, n_64, n_80, n_96, n_114, n_684, n_1000, n_9330, n_16806, n_1000000, n_5764800, ↓n_m, m_ltI, m_leI, m_lt', m_le', m_eq, m_eq', m_add, m_sub, mm_lt, mm_le, mm_eq, q_sub, nI_add, q_mul, nI_clamp, bz_0, bz_1, q_bzb, b_0, b_1, b_ft, b_tf, ne_eq, not_true_eq_false, not_false_eq_true, decide_true, decide_false, Bool.and_self, Bool.false_and, Bool.and_false, Bool.and_true, Bool.true_and, Bool.not_true, Bool.not_false, ↓reduceIte]
      | cons s r =>
        obtain ⟨t1, t2, t3, t4⟩ := s1.2 0 s rfl
        have t2' : gI h1 6311 0 0 = nI (s / 114) := t2
        have t3' : gI h1 6311 0 1 = mkI (s_to s) := t3
        have t4' : gI h1 6311 0 2 = nI (s % 19) := t4
        obtain ⟨r1, r2, r3, r4, -⟩ := s_rng t1
        have hf2 : nI (s / 114) + nI 1 = nI (s / 114 + 1) := nI_add _ _
        obtain ⟨h1b, p1, p2, p3⟩ := c_setSimple (d + 56) v3 r1 r2 r4 100 h1
        have FC : frX [12] h1 h1b := frX_fr p3 (fun p i k z => by obtain ⟨rfl, rfl⟩ := z; exact (by decide : (12 : Nat) ∈ [12]))
        have I1b := Inv_scr FC I1
        have c1b := I_c I1b
        have hP1b := iPrG_fr FC (by decide) hP1
        obtain ⟨h2, f1, I2, s2, mp⟩ := m_sought (d + 49) I1b hP1b
        rw [ho] at s2
        have s2' : gI h2 49100 0 44 = nI (s :: r).length := s2.1
        have t6 : gI h2 2731 0 0 = nI s := (s2.2 0 s rfl).2
        have hpos : 1 ≤ (s :: r).length := by simp
        obtain ⟨h3, k1, k2, k3⟩ := m_runFirst (d + 51) t1 mp
        have m3 := fr_mOK k3 mp.1
        have ok := smL_ok r1 r2 r4
        have w3b : gI h1b 6321 0 i = nI (rowN (pf i)) := (hP1b.2.2.2.1 i hi).2.2.1
        have eo := c_over (d + 55) v3 ok p2 w1
        rw [← sL_eq] at eo
        have okr : isW (runW (gvV G) (sL s) (pf i)) := (k2 i hi).1
        refine ⟨nI (wN (runW (gvV G) (sL s) (pf i))), h1b, h3, ?_, ?_, G, Inv_scr (frX_fr k3 pRf_g) I2⟩
        · simp (disch := first | omega | rfl | assumption) only [bX10_proof_0, bX10_proof_15, bX10_proof_21, bX10_proof_22, bX10_proof_33, bX10_proof_50, bX10_proof_53, bX10_proof_65, bX10_proof_68, rX10_proof, c.1 10090 4 rfl, l2, v1, e1, c1.1 10090 4 rfl, s1', v1', bX5_middleOf_0, bX5_middleOf_15, bX5_middleOf_45, bX5_middleOf_58, rX5_middleOf, c1.2.1, c1.1 8050 3 rfl, t2', t3', t4', mk_add, hf2, p1, c1b.2.1, c1b.1 8050 4 rfl, w3b, eo, c_numberOf _ okr, q_cl, q_ps, q_pn, bI_t, bI_f, gI_same, gI_ne, gR_pI, gJ_pI, gV_pI, gN_pI, gC_pI, gS_pI, gI_pJ, gR_pJ, gV_pJ, gN_pJ, gJ_same, gJ_ne, gI_pR, gJ_pR, gV_pR, gN_pR, gR_same, gR_ne, zin_t, zin_f, x_ltt, x_ltf, x_let, x_lef, x_eqt, x_eqf, n_0, n_1, n_2, n_3, n_4, n_5, n_6, n_7, n_8, n_9, n_10, n_11, n_12, n_16, n_19, n_20, n_24, n_25, n_32, n_40, n_48, n_50, n_60, n_64, n_80, n_96, n_114, n_684, n_1000, n_9330, n_16806, n_1000000, n_5764800, ↓n_m, m_ltI, m_leI, m_lt', m_le', m_eq, m_eq', m_add, m_sub, mm_lt, mm_le, mm_eq, q_sub, nI_add, q_mul, nI_clamp, bz_0, bz_1, q_bzb, b_0, b_1, b_ft, b_tf, ne_eq, not_true_eq_false, not_false_eq_true, decide_true, decide_false, Bool.and_self, Bool.false_and, Bool.and_false, Bool.and_true, Bool.true_and, Bool.not_true, Bool.not_false, ↓reduceIte]
        · simp (disch := first | omega | rfl | assumption) only [rX11_proof, gd h1b hP1b.2.2.1 _ g1, bX11_proof_11, bX11_proof_20, bX11_proof_21, bX11_proof_25, bX11_proof_38, bX11_proof_39, bX11_proof_51, bX11_proof_57, bX11_proof_60, rX11_proof, f1, s2', mp.1 45 rfl, t6, k1, m3 46 rfl, (k2 i hi).2, q_cl, q_ps, q_pn, bI_t, bI_f, gI_same, gI_ne, gR_pI, gJ_pI, gV_pI, gN_pI, gC_pI, gS_pI, gI_pJ, gR_pJ, gV_pJ, gN_pJ, gJ_same, gJ_ne, gI_pR, gJ_pR, gV_pR, gN_pR, gR_same, gR_ne, zin_t, zin_f, x_ltt, x_ltf, x_let, x_lef, x_eqt, x_eqf, n_0, n_1, n_2, n_3, n_4, n_5, n_6, n_7, n_8, n_9, n_10, n_11, n_12, n_16, n_19, n_20, n_24, n_25, n_32, n_40, n_48, n_50, n_60, n_64, n_80, n_96, n_114, n_684, n_1000, n_9330, n_16806, n_1000000, n_5764800, ↓n_m, m_ltI, m_leI, m_lt', m_le', m_eq, m_eq', m_add, m_sub, mm_lt, mm_le, mm_eq, q_sub, nI_add, q_mul, nI_clamp, bz_0, bz_1, q_bzb, b_0, b_1, b_ft, b_tf, ne_eq, not_true_eq_false, not_false_eq_true, decide_true, decide_false, Bool.and_self, Bool.false_and, Bool.and_false, Bool.and_true, Bool.true_and, Bool.not_true, Bool.not_false, ↓reduceIte]
