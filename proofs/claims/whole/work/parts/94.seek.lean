/-! ===== the reference seeks simple laws ===== -/
theorem n_49 : (49 : Int32) = nI 49 := rfl
theorem m_fromOf (d : Nat) {s : Nat} (hs : s < 684) (h : z_H) : Rn (d + 1) 208 [z_I (nI s)] h = some (some (z_I (nI (s / 114))), h) := by
  have d1 : nI s / nI 114 = nI (s / 114) := q_div (by omega) (by omega) (by omega)
  simp (disch := first | omega | rfl | assumption) only [rX11_fromOf, bX11_fromOf_0, d1, q_cl, q_ps, q_pn, bI_t, bI_f, gI_same, gI_ne, gR_pI, gJ_pI, gV_pI, gN_pI, gC_pI, gS_pI, gI_pJ, gR_pJ, gV_pJ, gN_pJ, gJ_same, gJ_ne, gI_pR, gJ_pR, gV_pR, gN_pR, gR_same, gR_ne, zin_t, zin_f, x_ltt, x_ltf, x_let, x_lef, x_eqt, x_eqf, n_0, n_1, n_2, n_3, n_4, n_5, n_6, n_7, n_8, n_9, n_10, n_11, n_12, n_16, n_19, n_20, n_24, n_25, n_32, n_40, n_48, n_50, n_60, n_64, n_80, n_96, n_114, n_684, n_1000, n_9330, n_16806, n_1000000, n_5764800, ↓n_m, m_ltI, m_leI, m_lt', m_le', m_eq, m_eq', m_add, m_sub, mm_lt, mm_le, mm_eq, q_sub, nI_add, q_mul, nI_clamp, bz_0, bz_1, q_bzb, b_0, b_1, b_ft, b_tf, ne_eq, not_true_eq_false, not_false_eq_true, decide_true, decide_false, Bool.and_self, Bool.false_and, Bool.and_false, Bool.and_true, Bool.true_and, Bool.not_true, Bool.not_false, ↓reduceIte]
theorem m_toOf (d : Nat) {s : Nat} (hs : s < 684) (h : z_H) : Rn (d + 2) 209 [z_I (nI s)] h = some (some (z_I (mkI (s_to s))), h) := by
  have d1 := m_fromOf d hs h
  have d2 : nI s / nI 19 = nI (s / 19) := q_div (by omega) (by omega) (by omega)
  have d3 : nI (s / 19) - nI (s / 19) / nI 6 * nI 6 = nI (s / 19 % 6) := q_rem (by omega) (by omega) (by omega)
  rw [rX11_toOf, bX11_toOf_0]
  unfold s_to
  generalize hq : s / 19 % 6 = q at d3 ⊢
  have hq6 : q < 6 := by omega
  by_cases q0 : q = 0
  · subst q0
    rw [if_pos (by omega), mk_0]
    simp (disch := first | omega | rfl | assumption) only [d1, d2, d3, bX11_toOf_15, bX11_toOf_25, q_cl, q_ps, q_pn, bI_t, bI_f, gI_same, gI_ne, gR_pI, gJ_pI, gV_pI, gN_pI, gC_pI, gS_pI, gI_pJ, gR_pJ, gV_pJ, gN_pJ, gJ_same, gJ_ne, gI_pR, gJ_pR, gV_pR, gN_pR, gR_same, gR_ne, zin_t, zin_f, x_ltt, x_ltf, x_let, x_lef, x_eqt, x_eqf, n_0, n_1, n_2, n_3, n_4, n_5, n_6, n_7, n_8, n_9, n_10, n_11, n_12, n_16, n_19, n_20, n_24, n_25, n_32, n_40, n_48, n_50, n_60, n_64, n_80, n_96, n_114, n_684, n_1000, n_9330, n_16806, n_1000000, n_5764800, ↓n_m, m_ltI, m_leI, m_lt', m_le', m_eq, m_eq', m_add, m_sub, mm_lt, mm_le, mm_eq, q_sub, nI_add, q_mul, nI_clamp, bz_0, bz_1, q_bzb, b_0, b_1, b_ft, b_tf, ne_eq, not_true_eq_false, not_false_eq_true, decide_true, decide_false, Bool.and_self, Bool.false_and, Bool.and_false, Bool.and_true, Bool.true_and, Bool.not_true, Bool.not_false, ↓reduceIte]
  · by_cases ql : q < s / 114 + 1
    · rw [if_pos ql, mkI_pos (by omega)]
      simp (disch := first | omega | rfl | assumption) only [d1, d2, d3, bX11_toOf_15, bX11_toOf_25, q_cl, q_ps, q_pn, bI_t, bI_f, gI_same, gI_ne, gR_pI, gJ_pI, gV_pI, gN_pI, gC_pI, gS_pI, gI_pJ, gR_pJ, gV_pJ, gN_pJ, gJ_same, gJ_ne, gI_pR, gJ_pR, gV_pR, gN_pR, gR_same, gR_ne, zin_t, zin_f, x_ltt, x_ltf, x_let, x_lef, x_eqt, x_eqf, n_0, n_1, n_2, n_3, n_4, n_5, n_6, n_7, n_8, n_9, n_10, n_11, n_12, n_16, n_19, n_20, n_24, n_25, n_32, n_40, n_48, n_50, n_60, n_64, n_80, n_96, n_114, n_684, n_1000, n_9330, n_16806, n_1000000, n_5764800, ↓n_m, m_ltI, m_leI, m_lt', m_le', m_eq, m_eq', m_add, m_sub, mm_lt, mm_le, mm_eq, q_sub, nI_add, q_mul, nI_clamp, bz_0, bz_1, q_bzb, b_0, b_1, b_ft, b_tf, ne_eq, not_true_eq_false, not_false_eq_true, decide_true, decide_false, Bool.and_self, Bool.false_and, Bool.and_false, Bool.and_true, Bool.true_and, Bool.not_true, Bool.not_false, ↓reduceIte]
    · rw [if_neg ql, mkI_pos (by omega)]
      simp (disch := first | omega | rfl | assumption) only [d1, d2, d3, bX11_toOf_15, bX11_toOf_22, bX11_toOf_25, show q - 1 + 1 = q by omega, Nat.add_sub_cancel, q_cl, q_ps, q_pn, bI_t, bI_f, gI_same, gI_ne, gR_pI, gJ_pI, gV_pI, gN_pI, gC_pI, gS_pI, gI_pJ, gR_pJ, gV_pJ, gN_pJ, gJ_same, gJ_ne, gI_pR, gJ_pR, gV_pR, gN_pR, gR_same, gR_ne, zin_t, zin_f, x_ltt, x_ltf, x_let, x_lef, x_eqt, x_eqf, n_0, n_1, n_2, n_3, n_4, n_5, n_6, n_7, n_8, n_9, n_10, n_11, n_12, n_16, n_19, n_20, n_24, n_25, n_32, n_40, n_48, n_50, n_60, n_64, n_80, n_96, n_114, n_684, n_1000, n_9330, n_16806, n_1000000, n_5764800, ↓n_m, m_ltI, m_leI, m_lt', m_le', m_eq, m_eq', m_add, m_sub, mm_lt, mm_le, mm_eq, q_sub, nI_add, q_mul, nI_clamp, bz_0, bz_1, q_bzb, b_0, b_1, b_ft, b_tf, ne_eq, not_true_eq_false, not_false_eq_true, decide_true, decide_false, Bool.and_self, Bool.false_and, Bool.and_false, Bool.and_true, Bool.true_and, Bool.not_true, Bool.not_false, ↓reduceIte]
/-- scratch of the law that is tried -/
def pT2 : Nat → Nat → Nat → Prop := fun p i k => tW p i k ∨ ((p = 25431 ∨ p = 25441) ∧ k = 24) ∨ ((p = 50453 ∨ p = 50461 ∨ p = 50471) ∧ 48 ≤ k)
theorem pT2_g : ∀ p i k, pT2 p i k → grp p i k ∈ [12] := by
  rintro p i k (z | ⟨z | z, rfl⟩ | ⟨z | z | z, hk⟩)
  · exact tW_g p i k z
  · subst z; exact (by decide : (12 : Nat) ∈ [12])
  · subst z; exact (by decide : (12 : Nat) ∈ [12])
  · subst z; show (if k < 48 then 2 else 12) ∈ [12]; rw [if_neg (by omega)]; decide
  · subst z; show (if k < 48 then 2 else 12) ∈ [12]; rw [if_neg (by omega)]; decide
  · subst z; show (if k < 48 then 2 else 12) ∈ [12]; rw [if_neg (by omega)]; decide
theorem mk_add (t : Nat) : mkI t + nI 1 = nI t := by
  show nI t - 1 + 1 = nI t
  exact Int32.sub_add_cancel _ _
theorem m_trySimple (d : Nat) {s : Nat} (hs : s < 684) {h : z_H} (m : mOK h) : ∃ h', Rn (d + 3) 210 [z_R 49100 0, z_I (nI s)] h = some (none, h') ∧ mL h' 24 (sL s) ∧ fr pT2 h h' := by
  obtain ⟨r1, r2, r3, r4, -⟩ := s_rng hs
  have d1 : nI s - nI s / nI 19 * nI 19 = nI (s % 19) := q_rem (by omega) (by omega) (by omega)
  have e1 := m_fromOf (d + 1) hs
  have e2 := m_toOf d hs
  rw [sL_eq]
  generalize hp : s % 19 = p at d1 r4 ⊢
  generalize s_to s = t at e2 r2 r3 ⊢
  generalize hf : s / 114 = f at e1 r1 r3 ⊢
  have F : ∀ a b c v, fr pT2 h (pI (pI (pI (pI (pI (pI h 25431 0 24 (nI f)) 25441 0 24 (nI t)) 50453 0 48 a) 50453 0 49 b) 50461 0 48 c) 50471 0 48 v) := fun a b c v => fr_trans (fr_trans (fr_trans (fr_trans (fr_trans (fr_pI h _ (Or.inr (Or.inl ⟨Or.inl rfl, rfl⟩))) (fr_pI _ _ (Or.inr (Or.inl ⟨Or.inr rfl, rfl⟩)))) (fr_pI _ _ (Or.inr (Or.inr ⟨Or.inl rfl, by omega⟩)))) (fr_pI _ _ (Or.inr (Or.inr ⟨Or.inl rfl, by omega⟩)))) (fr_pI _ _ (Or.inr (Or.inr ⟨Or.inr (Or.inl rfl), by omega⟩)))) (fr_pI _ _ (Or.inr (Or.inr ⟨Or.inr (Or.inr rfl), by omega⟩)))
  have mk : ∀ a c v, (a = nI (if p = 0 then 0 else 1)) → (p ≠ 0 → c = mkI (if p ≤ 9 then p else 0)) → (p ≠ 0 → v = mkI (if p ≤ 9 then 0 else p - 9)) → mL (pI (pI (pI (pI (pI (pI h 25431 0 24 (nI f)) 25441 0 24 (nI t)) 50453 0 48 a) 50453 0 49 (nI 0)) 50461 0 48 c) 50471 0 48 v) 24 (smL (f + 1) t p) := by
    intro a c v ha hc hv
    refine ⟨?_, ?_, ?_, ?_, fun z => ?_, fun z => ?_⟩
    · rw [show smL (f + 1) t p 0 = f + 1 from rfl, mkI_pos (by omega), Nat.add_sub_cancel]; simp (disch := first | omega | rfl | assumption) only [q_cl, q_ps, q_pn, bI_t, bI_f, gI_same, gI_ne, gR_pI, gJ_pI, gV_pI, gN_pI, gC_pI, gS_pI, gI_pJ, gR_pJ, gV_pJ, gN_pJ, gJ_same, gJ_ne, gI_pR, gJ_pR, gV_pR, gN_pR, gR_same, gR_ne, zin_t, zin_f, x_ltt, x_ltf, x_let, x_lef, x_eqt, x_eqf, n_0, n_1, n_2, n_3, n_4, n_5, n_6, n_7, n_8, n_9, n_10, n_11, n_12, n_16, n_19, n_20, n_24, n_25, n_32, n_40, n_48, n_50, n_60, n_64, n_80, n_96, n_114, n_684, n_1000, n_9330, n_16806, n_1000000, n_5764800, ↓n_m, m_ltI, m_leI, m_lt', m_le', m_eq, m_eq', m_add, m_sub, mm_lt, mm_le, mm_eq, q_sub, nI_add, q_mul, nI_clamp, bz_0, bz_1, q_bzb, b_0, b_1, b_ft, b_tf, ne_eq, not_true_eq_false, not_false_eq_true, decide_true, decide_false, Bool.and_self, Bool.false_and, Bool.and_false, Bool.and_true, Bool.true_and, Bool.not_true, Bool.not_false, ↓reduceIte]
    · rw [show smL (f + 1) t p 1 = t from rfl]; simp (disch := first | omega | rfl | assumption) only [q_cl, q_ps, q_pn, bI_t, bI_f, gI_same, gI_ne, gR_pI, gJ_pI, gV_pI, gN_pI, gC_pI, gS_pI, gI_pJ, gR_pJ, gV_pJ, gN_pJ, gJ_same, gJ_ne, gI_pR, gJ_pR, gV_pR, gN_pR, gR_same, gR_ne, zin_t, zin_f, x_ltt, x_ltf, x_let, x_lef, x_eqt, x_eqf, n_0, n_1, n_2, n_3, n_4, n_5, n_6, n_7, n_8, n_9, n_10, n_11, n_12, n_16, n_19, n_20, n_24, n_25, n_32, n_40, n_48, n_50, n_60, n_64, n_80, n_96, n_114, n_684, n_1000, n_9330, n_16806, n_1000000, n_5764800, ↓n_m, m_ltI, m_leI, m_lt', m_le', m_eq, m_eq', m_add, m_sub, mm_lt, mm_le, mm_eq, q_sub, nI_add, q_mul, nI_clamp, bz_0, bz_1, q_bzb, b_0, b_1, b_ft, b_tf, ne_eq, not_true_eq_false, not_false_eq_true, decide_true, decide_false, Bool.and_self, Bool.false_and, Bool.and_false, Bool.and_true, Bool.true_and, Bool.not_true, Bool.not_false, ↓reduceIte]
    · rw [show smL (f + 1) t p 2 = (if p = 0 then 0 else 1) from rfl, ← ha]; simp (disch := first | omega | rfl | assumption) only [q_cl, q_ps, q_pn, bI_t, bI_f, gI_same, gI_ne, gR_pI, gJ_pI, gV_pI, gN_pI, gC_pI, gS_pI, gI_pJ, gR_pJ, gV_pJ, gN_pJ, gJ_same, gJ_ne, gI_pR, gJ_pR, gV_pR, gN_pR, gR_same, gR_ne, zin_t, zin_f, x_ltt, x_ltf, x_let, x_lef, x_eqt, x_eqf, n_0, n_1, n_2, n_3, n_4, n_5, n_6, n_7, n_8, n_9, n_10, n_11, n_12, n_16, n_19, n_20, n_24, n_25, n_32, n_40, n_48, n_50, n_60, n_64, n_80, n_96, n_114, n_684, n_1000, n_9330, n_16806, n_1000000, n_5764800, ↓n_m, m_ltI, m_leI, m_lt', m_le', m_eq, m_eq', m_add, m_sub, mm_lt, mm_le, mm_eq, q_sub, nI_add, q_mul, nI_clamp, bz_0, bz_1, q_bzb, b_0, b_1, b_ft, b_tf, ne_eq, not_true_eq_false, not_false_eq_true, decide_true, decide_false, Bool.and_self, Bool.false_and, Bool.and_false, Bool.and_true, Bool.true_and, Bool.not_true, Bool.not_false, ↓reduceIte]
    · rw [show smL (f + 1) t p 5 = 0 from rfl]; simp (disch := first | omega | rfl | assumption) only [q_cl, q_ps, q_pn, bI_t, bI_f, gI_same, gI_ne, gR_pI, gJ_pI, gV_pI, gN_pI, gC_pI, gS_pI, gI_pJ, gR_pJ, gV_pJ, gN_pJ, gJ_same, gJ_ne, gI_pR, gJ_pR, gV_pR, gN_pR, gR_same, gR_ne, zin_t, zin_f, x_ltt, x_ltf, x_let, x_lef, x_eqt, x_eqf, n_0, n_1, n_2, n_3, n_4, n_5, n_6, n_7, n_8, n_9, n_10, n_11, n_12, n_16, n_19, n_20, n_24, n_25, n_32, n_40, n_48, n_50, n_60, n_64, n_80, n_96, n_114, n_684, n_1000, n_9330, n_16806, n_1000000, n_5764800, ↓n_m, m_ltI, m_leI, m_lt', m_le', m_eq, m_eq', m_add, m_sub, mm_lt, mm_le, mm_eq, q_sub, nI_add, q_mul, nI_clamp, bz_0, bz_1, q_bzb, b_0, b_1, b_ft, b_tf, ne_eq, not_true_eq_false, not_false_eq_true, decide_true, decide_false, Bool.and_self, Bool.false_and, Bool.and_false, Bool.and_true, Bool.true_and, Bool.not_true, Bool.not_false, ↓reduceIte]
    · have hp0 : p ≠ 0 := fun q => by
        have z' : (if p = 0 then 0 else 1) = 1 := z
        rw [if_pos q] at z'
        cases z'
      rw [show smL (f + 1) t p 3 = (if p ≤ 9 then p else 0) from rfl, show smL (f + 1) t p 4 = (if p ≤ 9 then 0 else p - 9) from rfl, ← hc hp0, ← hv hp0]
      exact ⟨by simp (disch := first | omega | rfl | assumption) only [q_cl, q_ps, q_pn, bI_t, bI_f, gI_same, gI_ne, gR_pI, gJ_pI, gV_pI, gN_pI, gC_pI, gS_pI, gI_pJ, gR_pJ, gV_pJ, gN_pJ, gJ_same, gJ_ne, gI_pR, gJ_pR, gV_pR, gN_pR, gR_same, gR_ne, zin_t, zin_f, x_ltt, x_ltf, x_let, x_lef, x_eqt, x_eqf, n_0, n_1, n_2, n_3, n_4, n_5, n_6, n_7, n_8, n_9, n_10, n_11, n_12, n_16, n_19, n_20, n_24, n_25, n_32, n_40, n_48, n_50, n_60, n_64, n_80, n_96, n_114, n_684, n_1000, n_9330, n_16806, n_1000000, n_5764800, ↓n_m, m_ltI, m_leI, m_lt', m_le', m_eq, m_eq', m_add, m_sub, mm_lt, mm_le, mm_eq, q_sub, nI_add, q_mul, nI_clamp, bz_0, bz_1, q_bzb, b_0, b_1, b_ft, b_tf, ne_eq, not_true_eq_false, not_false_eq_true, decide_true, decide_false, Bool.and_self, Bool.false_and, Bool.and_false, Bool.and_true, Bool.true_and, Bool.not_true, Bool.not_false, ↓reduceIte], by simp (disch := first | omega | rfl | assumption) only [q_cl, q_ps, q_pn, bI_t, bI_f, gI_same, gI_ne, gR_pI, gJ_pI, gV_pI, gN_pI, gC_pI, gS_pI, gI_pJ, gR_pJ, gV_pJ, gN_pJ, gJ_same, gJ_ne, gI_pR, gJ_pR, gV_pR, gN_pR, gR_same, gR_ne, zin_t, zin_f, x_ltt, x_ltf, x_let, x_lef, x_eqt, x_eqf, n_0, n_1, n_2, n_3, n_4, n_5, n_6, n_7, n_8, n_9, n_10, n_11, n_12, n_16, n_19, n_20, n_24, n_25, n_32, n_40, n_48, n_50, n_60, n_64, n_80, n_96, n_114, n_684, n_1000, n_9330, n_16806, n_1000000, n_5764800, ↓n_m, m_ltI, m_leI, m_lt', m_le', m_eq, m_eq', m_add, m_sub, mm_lt, mm_le, mm_eq, q_sub, nI_add, q_mul, nI_clamp, bz_0, bz_1, q_bzb, b_0, b_1, b_ft, b_tf, ne_eq, not_true_eq_false, not_false_eq_true, decide_true, decide_false, Bool.and_self, Bool.false_and, Bool.and_false, Bool.and_true, Bool.true_and, Bool.not_true, Bool.not_false, ↓reduceIte]⟩
    · cases z
  by_cases p0 : p = 0
  · refine ⟨_, ?_, mk (nI 0) mI mI (by rw [if_pos p0]) (fun z => absurd p0 z) (fun z => absurd p0 z), F _ _ _ _⟩
    simp (disch := first | omega | rfl | assumption) only [rX11_trySimple, bX11_trySimple_0, m 2 rfl, e1, d1, p0, bX11_trySimple_15, m 3 rfl, e2, bX11_trySimple_26, mk_add, m 4 rfl, bX11_trySimple_43, bX11_trySimple_44, n_49, m 5 rfl, bX11_trySimple_75, bX11_trySimple_76, m 6 rfl, bX11_trySimple_96, bX11_trySimple_97, q_cl, q_ps, q_pn, bI_t, bI_f, gI_same, gI_ne, gR_pI, gJ_pI, gV_pI, gN_pI, gC_pI, gS_pI, gI_pJ, gR_pJ, gV_pJ, gN_pJ, gJ_same, gJ_ne, gI_pR, gJ_pR, gV_pR, gN_pR, gR_same, gR_ne, zin_t, zin_f, x_ltt, x_ltf, x_let, x_lef, x_eqt, x_eqf, n_0, n_1, n_2, n_3, n_4, n_5, n_6, n_7, n_8, n_9, n_10, n_11, n_12, n_16, n_19, n_20, n_24, n_25, n_32, n_40, n_48, n_50, n_60, n_64, n_80, n_96, n_114, n_684, n_1000, n_9330, n_16806, n_1000000, n_5764800, ↓n_m, m_ltI, m_leI, m_lt', m_le', m_eq, m_eq', m_add, m_sub, mm_lt, mm_le, mm_eq, q_sub, nI_add, q_mul, nI_clamp, bz_0, bz_1, q_bzb, b_0, b_1, b_ft, b_tf, ne_eq, not_true_eq_false, not_false_eq_true, decide_true, decide_false, Bool.and_self, Bool.false_and, Bool.and_false, Bool.and_true, Bool.true_and, Bool.not_true, Bool.not_false, ↓reduceIte]
  · by_cases p9 : p ≤ 9
    · refine ⟨_, ?_, mk (nI 1) (nI (p - 1)) mI (by rw [if_neg p0]) (fun z => by rw [if_pos p9, mkI_pos (by omega)]) (fun z => by rw [if_pos p9, mk_0]), F _ _ _ _⟩
      simp (disch := first | omega | rfl | assumption) only [rX11_trySimple, bX11_trySimple_0, m 2 rfl, e1, d1, bX11_trySimple_15, m 3 rfl, e2, bX11_trySimple_26, mk_add, m 4 rfl, bX11_trySimple_44, n_49, m 5 rfl, bX11_trySimple_76, m 6 rfl, bX11_trySimple_96, bX11_trySimple_97, q_cl, q_ps, q_pn, bI_t, bI_f, gI_same, gI_ne, gR_pI, gJ_pI, gV_pI, gN_pI, gC_pI, gS_pI, gI_pJ, gR_pJ, gV_pJ, gN_pJ, gJ_same, gJ_ne, gI_pR, gJ_pR, gV_pR, gN_pR, gR_same, gR_ne, zin_t, zin_f, x_ltt, x_ltf, x_let, x_lef, x_eqt, x_eqf, n_0, n_1, n_2, n_3, n_4, n_5, n_6, n_7, n_8, n_9, n_10, n_11, n_12, n_16, n_19, n_20, n_24, n_25, n_32, n_40, n_48, n_50, n_60, n_64, n_80, n_96, n_114, n_684, n_1000, n_9330, n_16806, n_1000000, n_5764800, ↓n_m, m_ltI, m_leI, m_lt', m_le', m_eq, m_eq', m_add, m_sub, mm_lt, mm_le, mm_eq, q_sub, nI_add, q_mul, nI_clamp, bz_0, bz_1, q_bzb, b_0, b_1, b_ft, b_tf, ne_eq, not_true_eq_false, not_false_eq_true, decide_true, decide_false, Bool.and_self, Bool.false_and, Bool.and_false, Bool.and_true, Bool.true_and, Bool.not_true, Bool.not_false, ↓reduceIte]
    · refine ⟨_, ?_, mk (nI 1) mI (nI (p - 10)) (by rw [if_neg p0]) (fun z => by rw [if_neg p9, mk_0]) (fun z => by rw [if_neg p9, mkI_pos (by omega), show p - 9 - 1 = p - 10 by omega]), F _ _ _ _⟩
      simp (disch := first | omega | rfl | assumption) only [rX11_trySimple, bX11_trySimple_0, m 2 rfl, e1, d1, bX11_trySimple_15, m 3 rfl, e2, bX11_trySimple_26, mk_add, m 4 rfl, bX11_trySimple_44, n_49, m 5 rfl, bX11_trySimple_75, bX11_trySimple_76, m 6 rfl, bX11_trySimple_97, q_cl, q_ps, q_pn, bI_t, bI_f, gI_same, gI_ne, gR_pI, gJ_pI, gV_pI, gN_pI, gC_pI, gS_pI, gI_pJ, gR_pJ, gV_pJ, gN_pJ, gJ_same, gJ_ne, gI_pR, gJ_pR, gV_pR, gN_pR, gR_same, gR_ne, zin_t, zin_f, x_ltt, x_ltf, x_let, x_lef, x_eqt, x_eqf, n_0, n_1, n_2, n_3, n_4, n_5, n_6, n_7, n_8, n_9, n_10, n_11, n_12, n_16, n_19, n_20, n_24, n_25, n_32, n_40, n_48, n_50, n_60, n_64, n_80, n_96, n_114, n_684, n_1000, n_9330, n_16806, n_1000000, n_5764800, ↓n_m, m_ltI, m_leI, m_lt', m_le', m_eq, m_eq', m_add, m_sub, mm_lt, mm_le, mm_eq, q_sub, nI_add, q_mul, nI_clamp, bz_0, bz_1, q_bzb, b_0, b_1, b_ft, b_tf, ne_eq, not_true_eq_false, not_false_eq_true, decide_true, decide_false, Bool.and_self, Bool.false_and, Bool.and_false, Bool.and_true, Bool.true_and, Bool.not_true, Bool.not_false, ↓reduceIte]
/-- the pairs, in the reference, and the words at hand -/
def mPr (h : z_H) (V n : Nat) (pf pt : Nat → List Nat) : Prop := mOK h ∧ V < 64 ∧ gI h 49100 0 0 = nI V ∧ n ≤ 6 ∧ gI h 49100 0 20 = nI n ∧ ∀ k, k < n → isW (pf k) ∧ isW (pt k) ∧ gI h 6571 0 k = nI (wN (pf k)) ∧ gI h 6581 0 k = nI (wN (pt k))
def mMd (h : z_H) (n : Nat) (ws : Nat → List Nat) : Prop := ∀ k, k < n → isW (ws k) ∧ gI h 6741 0 k = nI (wN (ws k))
def pRf : Nat → Nat → Nat → Prop := fun p i k => pT2 p i k ∨ p = 6741
def pT3 : Nat → Nat → Nat → Prop := fun p i k => pRf p i k ∨ (p = 49100 ∧ (k = 23 ∨ k = 44)) ∨ p = 2731
theorem pT2_no {p i k : Nat} (h : p ≠ 8681 ∧ p ≠ 16691 ∧ (p ≠ 49100 ∨ k ≠ 37) ∧ p ≠ 25431 ∧ p ≠ 25441 ∧ p ≠ 50453 ∧ p ≠ 50461 ∧ p ≠ 50471) : ¬ pT2 p i k := by
  rintro ((z | z | z) | ⟨z | z, -⟩ | ⟨z | z | z, -⟩) <;> omega
theorem pT3_no {p i k : Nat} (h : p ≠ 8681 ∧ p ≠ 16691 ∧ (p ≠ 49100 ∨ (k ≠ 37 ∧ k ≠ 23 ∧ k ≠ 44)) ∧ p ≠ 25431 ∧ p ≠ 25441 ∧ p ≠ 50453 ∧ p ≠ 50461 ∧ p ≠ 50471 ∧ p ≠ 6741 ∧ p ≠ 2731) : ¬ pT3 p i k := by
  rintro ((z | z) | z | z)
  · exact pT2_no (by omega) z
  · omega
  · omega
  · omega
theorem pRf_no {p i k : Nat} (h : p ≠ 8681 ∧ p ≠ 16691 ∧ (p ≠ 49100 ∨ k ≠ 37) ∧ p ≠ 25431 ∧ p ≠ 25441 ∧ p ≠ 50453 ∧ p ≠ 50461 ∧ p ≠ 50471 ∧ p ≠ 6741) : ¬ pRf p i k := by
  rintro (z | z)
  · exact pT2_no (by omega) z
  · omega
theorem mPr_fr {h h' : z_H} (f : fr pT3 h h') {V n : Nat} {pf pt : Nat → List Nat} (m : mPr h V n pf pt) : mPr h' V n pf pt := by
  obtain ⟨a1, a2, a3, a4, a5, a6⟩ := m
  exact ⟨fr_mOK f a1, a2, (f.2 _ _ _ (pT3_no (by decide))).trans a3, a4, (f.2 _ _ _ (pT3_no (by decide))).trans a5, fun k hk => ⟨(a6 k hk).1, (a6 k hk).2.1, (f.2 _ _ _ (pT3_no (by simp))).trans (a6 k hk).2.2.1, (f.2 _ _ _ (pT3_no (by simp))).trans (a6 k hk).2.2.2⟩⟩
theorem pT2_3 : ∀ p i k, pT2 p i k → pT3 p i k := fun _ _ _ z => Or.inl (Or.inl z)
theorem pT2_r : ∀ p i k, pT2 p i k → pRf p i k := fun _ _ _ z => Or.inl z
theorem pRf_3 : ∀ p i k, pRf p i k → pT3 p i k := fun _ _ _ z => Or.inl z
theorem tW_2 : ∀ p i k, tW p i k → pT2 p i k := fun _ _ _ z => Or.inl z
theorem mMd_fr {h h' : z_H} (f : fr pT2 h h') {n : Nat} {ws : Nat → List Nat} (m : mMd h n ws) : mMd h' n ws := fun k hk => ⟨(m k hk).1, (f.2 _ _ _ (pT2_no (by simp))).trans (m k hk).2⟩
theorem m_triedOver (d : Nat) {V n : Nat} {pf pt : Nat → List Nat} {h : z_H} (m : mPr h V n pf pt) {L : Lw} (ok : okL L) (hL : mL h 24 L) {w : List Nat} (hw : isW w) : ∃ h', Rn (d + 7) 211 [z_R 49100 0, z_I (nI (wN w))] h = some (some (z_I (nI (wN (runW V L w)))), h') ∧ fr tW h h' := by
  obtain ⟨a1, a2, a3, a4, a5, a6⟩ := m
  obtain ⟨h1, e1, e2, e3⟩ := m_load (d + 5) a1 hw
  obtain ⟨h2, e4, e5, e6⟩ := m_runLaw d (fr_mOK e3 a1) (V := V) ((tW_kp e3 _ _ _ (by decide) (by decide) (by first | decide | exact Or.inl (by decide))).trans a3) a2 hw e2 (j := 24) (by omega) ok (mL_fr e3 tW_laws hL)
  have e7 := m_number (d + 5) (fr_mOK (fr_trans e3 e6) a1) (runW_ok ok hw) e5
  refine ⟨h2, ?_, fr_trans e3 e6⟩
  simp (disch := first | omega | rfl | assumption) only [bX11_triedOver_0, bX11_triedOver_5, bX11_triedOver_11, bX11_triedOver_15, rX11_triedOver, e1, e4, e7, q_cl, q_ps, q_pn, bI_t, bI_f, gI_same, gI_ne, gR_pI, gJ_pI, gV_pI, gN_pI, gC_pI, gS_pI, gI_pJ, gR_pJ, gV_pJ, gN_pJ, gJ_same, gJ_ne, gI_pR, gJ_pR, gV_pR, gN_pR, gR_same, gR_ne, zin_t, zin_f, x_ltt, x_ltf, x_let, x_lef, x_eqt, x_eqf, n_0, n_1, n_2, n_3, n_4, n_5, n_6, n_7, n_8, n_9, n_10, n_11, n_12, n_16, n_19, n_20, n_24, n_25, n_32, n_40, n_48, n_50, n_60, n_64, n_80, n_96, n_114, n_684, n_1000, n_9330, n_16806, n_1000000, n_5764800, ↓n_m, m_ltI, m_leI, m_lt', m_le', m_eq, m_eq', m_add, m_sub, mm_lt, mm_le, mm_eq, q_sub, nI_add, q_mul, nI_clamp, bz_0, bz_1, q_bzb, b_0, b_1, b_ft, b_tf, ne_eq, not_true_eq_false, not_false_eq_true, decide_true, decide_false, Bool.and_self, Bool.false_and, Bool.and_false, Bool.and_true, Bool.true_and, Bool.not_true, Bool.not_false, ↓reduceIte]
theorem m_mk_loop (d : Nat) {V n s : Nat} {pf pt ws : Nat → List Nat} (hs : s < 684) : ∀ (r p : Nat) (h : z_H), p + r = n → mPr h V n pf pt → mMd h n ws → mL h 24 (sL s) → (∀ j, j < p → runW V (sL s) (ws j) = pt j) →
    ∃ h', EX (d + 7) 212 9 [z_R 49100 0, z_I (nI s), z_I (nI 1), z_I (nI p)] [] h = some (some (z_I (bI (mkAll V n s ws pt))), h') ∧ fr pT2 h h' := by
  obtain ⟨r1, r2, r3, r4, -⟩ := s_rng hs
  have ok : okL (sL s) := (smL_ok r1 r2 r4).1
  intro r
  induction r with
  | zero =>
    intro p h hp m hM hL hj
    obtain ⟨a1, a2, a3, a4, a5, a6⟩ := m
    have e : mkAll V n s ws pt = true := by rw [mkAll_eq, mkS_iff]; exact fun j hj' => hj j (by omega)
    refine ⟨h, ?_, fr_rfl _ _⟩
    rw [bX11_makesAll_9, e]
    simp (disch := first | omega | rfl | assumption) only [a5, bX11_makesAll_52, q_cl, q_ps, q_pn, bI_t, bI_f, gI_same, gI_ne, gR_pI, gJ_pI, gV_pI, gN_pI, gC_pI, gS_pI, gI_pJ, gR_pJ, gV_pJ, gN_pJ, gJ_same, gJ_ne, gI_pR, gJ_pR, gV_pR, gN_pR, gR_same, gR_ne, zin_t, zin_f, x_ltt, x_ltf, x_let, x_lef, x_eqt, x_eqf, n_0, n_1, n_2, n_3, n_4, n_5, n_6, n_7, n_8, n_9, n_10, n_11, n_12, n_16, n_19, n_20, n_24, n_25, n_32, n_40, n_48, n_50, n_60, n_64, n_80, n_96, n_114, n_684, n_1000, n_9330, n_16806, n_1000000, n_5764800, ↓n_m, m_ltI, m_leI, m_lt', m_le', m_eq, m_eq', m_add, m_sub, mm_lt, mm_le, mm_eq, q_sub, nI_add, q_mul, nI_clamp, bz_0, bz_1, q_bzb, b_0, b_1, b_ft, b_tf, ne_eq, not_true_eq_false, not_false_eq_true, decide_true, decide_false, Bool.and_self, Bool.false_and, Bool.and_false, Bool.and_true, Bool.true_and, Bool.not_true, Bool.not_false, ↓reduceIte]
  | succ r ih =>
    intro p h hp m hM hL hj
    have m' := m
    obtain ⟨a1, a2, a3, a4, a5, a6⟩ := m
    obtain ⟨w1, w2⟩ := hM p (by omega)
    obtain ⟨h1, e1, e2⟩ := m_triedOver d m' ok hL w1
    have f1 := fr_mono e2 tW_2
    have m1 := mPr_fr (fr_mono f1 pT2_3) m'
    obtain ⟨b1, b2, b3, b4, b5, b6⟩ := m1
    have o1 := (b6 p (by omega)).2.1
    have o2 := (b6 p (by omega)).2.2.2
    have w3 := runW_ok (V := V) ok w1
    have l1 := wN_lt w3
    have l2 := wN_lt o1
    rw [bX11_makesAll_9]
    by_cases e : runW V (sL s) (ws p) = pt p
    · obtain ⟨h', q1, q2⟩ := ih (p + 1) h1 (by omega) (mPr_fr (fr_mono f1 pT2_3) m') (mMd_fr f1 hM) (mL_fr e2 tW_laws hL) (fun j hj' => by
        by_cases z : j = p
        · subst z; exact e
        · exact hj j (by omega))
      have e3 : wN (runW V (sL s) (ws p)) = wN (pt p) := by rw [e]
      refine ⟨h', ?_, fr_trans f1 q2⟩
      simp (disch := first | omega | rfl | assumption) only [a5, a1 46 rfl, w2, e1, bX11_makesAll_31, b1 22 rfl, o2, e3, bX11_makesAll_45, q_cl, q_ps, q_pn, bI_t, bI_f, gI_same, gI_ne, gR_pI, gJ_pI, gV_pI, gN_pI, gC_pI, gS_pI, gI_pJ, gR_pJ, gV_pJ, gN_pJ, gJ_same, gJ_ne, gI_pR, gJ_pR, gV_pR, gN_pR, gR_same, gR_ne, zin_t, zin_f, x_ltt, x_ltf, x_let, x_lef, x_eqt, x_eqf, n_0, n_1, n_2, n_3, n_4, n_5, n_6, n_7, n_8, n_9, n_10, n_11, n_12, n_16, n_19, n_20, n_24, n_25, n_32, n_40, n_48, n_50, n_60, n_64, n_80, n_96, n_114, n_684, n_1000, n_9330, n_16806, n_1000000, n_5764800, ↓n_m, m_ltI, m_leI, m_lt', m_le', m_eq, m_eq', m_add, m_sub, mm_lt, mm_le, mm_eq, q_sub, nI_add, q_mul, nI_clamp, bz_0, bz_1, q_bzb, b_0, b_1, b_ft, b_tf, ne_eq, not_true_eq_false, not_false_eq_true, decide_true, decide_false, Bool.and_self, Bool.false_and, Bool.and_false, Bool.and_true, Bool.true_and, Bool.not_true, Bool.not_false, ↓reduceIte]
      exact q1
    · have e3 : wN (runW V (sL s) (ws p)) ≠ wN (pt p) := fun z => e (wN_inj w3 o1 z)
      have e4 : mkAll V n s ws pt = false := by
        cases hx : mkAll V n s ws pt with
        | false => rfl
        | true =>
          rw [mkAll_eq, mkS_iff] at hx
          exact absurd (hx p (by omega)) e
      refine ⟨h1, ?_, f1⟩
      rw [e4]
      by_cases hl : n ≤ p + 1
      · simp (disch := first | omega | rfl | assumption) only [a5, a1 46 rfl, w2, e1, bX11_makesAll_31, b1 22 rfl, o2, bX11_makesAll_44, bX11_makesAll_45, bX11_makesAll_9, b5, bX11_makesAll_52, q_cl, q_ps, q_pn, bI_t, bI_f, gI_same, gI_ne, gR_pI, gJ_pI, gV_pI, gN_pI, gC_pI, gS_pI, gI_pJ, gR_pJ, gV_pJ, gN_pJ, gJ_same, gJ_ne, gI_pR, gJ_pR, gV_pR, gN_pR, gR_same, gR_ne, zin_t, zin_f, x_ltt, x_ltf, x_let, x_lef, x_eqt, x_eqf, n_0, n_1, n_2, n_3, n_4, n_5, n_6, n_7, n_8, n_9, n_10, n_11, n_12, n_16, n_19, n_20, n_24, n_25, n_32, n_40, n_48, n_50, n_60, n_64, n_80, n_96, n_114, n_684, n_1000, n_9330, n_16806, n_1000000, n_5764800, ↓n_m, m_ltI, m_leI, m_lt', m_le', m_eq, m_eq', m_add, m_sub, mm_lt, mm_le, mm_eq, q_sub, nI_add, q_mul, nI_clamp, bz_0, bz_1, q_bzb, b_0, b_1, b_ft, b_tf, ne_eq, not_true_eq_false, not_false_eq_true, decide_true, decide_false, Bool.and_self, Bool.false_and, Bool.and_false, Bool.and_true, Bool.true_and, Bool.not_true, Bool.not_false, ↓reduceIte]
      · simp (disch := first | omega | rfl | assumption) only [a5, a1 46 rfl, w2, e1, bX11_makesAll_31, b1 22 rfl, o2, bX11_makesAll_44, bX11_makesAll_45, bX11_makesAll_9, b5, bX11_makesAll_52, q_cl, q_ps, q_pn, bI_t, bI_f, gI_same, gI_ne, gR_pI, gJ_pI, gV_pI, gN_pI, gC_pI, gS_pI, gI_pJ, gR_pJ, gV_pJ, gN_pJ, gJ_same, gJ_ne, gI_pR, gJ_pR, gV_pR, gN_pR, gR_same, gR_ne, zin_t, zin_f, x_ltt, x_ltf, x_let, x_lef, x_eqt, x_eqf, n_0, n_1, n_2, n_3, n_4, n_5, n_6, n_7, n_8, n_9, n_10, n_11, n_12, n_16, n_19, n_20, n_24, n_25, n_32, n_40, n_48, n_50, n_60, n_64, n_80, n_96, n_114, n_684, n_1000, n_9330, n_16806, n_1000000, n_5764800, ↓n_m, m_ltI, m_leI, m_lt', m_le', m_eq, m_eq', m_add, m_sub, mm_lt, mm_le, mm_eq, q_sub, nI_add, q_mul, nI_clamp, bz_0, bz_1, q_bzb, b_0, b_1, b_ft, b_tf, ne_eq, not_true_eq_false, not_false_eq_true, decide_true, decide_false, Bool.and_self, Bool.false_and, Bool.and_false, Bool.and_true, Bool.true_and, Bool.not_true, Bool.not_false, ↓reduceIte]
theorem m_makesAll (d : Nat) {V n s : Nat} {pf pt ws : Nat → List Nat} (hs : s < 684) {h : z_H} (m : mPr h V n pf pt) (hM : mMd h n ws) : ∃ h', Rn (d + 8) 212 [z_R 49100 0, z_I (nI s)] h = some (some (z_I (bI (mkAll V n s ws pt))), h') ∧ fr pT2 h h' := by
  obtain ⟨h1, e1, e2, e3⟩ := m_trySimple (d + 4) hs m.1
  obtain ⟨h', q1, q2⟩ := m_mk_loop d hs n 0 h1 (by omega) (mPr_fr (fr_mono e3 pT2_3) m) (mMd_fr e3 hM) e2 (fun j hj => by omega)
  refine ⟨h', ?_, fr_trans e3 q2⟩
  rw [rX11_makesAll, bX11_makesAll_0]
  simp (disch := first | omega | rfl | assumption) only [e1, bX11_makesAll_5, q_cl, q_ps, q_pn, bI_t, bI_f, gI_same, gI_ne, gR_pI, gJ_pI, gV_pI, gN_pI, gC_pI, gS_pI, gI_pJ, gR_pJ, gV_pJ, gN_pJ, gJ_same, gJ_ne, gI_pR, gJ_pR, gV_pR, gN_pR, gR_same, gR_ne, zin_t, zin_f, x_ltt, x_ltf, x_let, x_lef, x_eqt, x_eqf, n_0, n_1, n_2, n_3, n_4, n_5, n_6, n_7, n_8, n_9, n_10, n_11, n_12, n_16, n_19, n_20, n_24, n_25, n_32, n_40, n_48, n_50, n_60, n_64, n_80, n_96, n_114, n_684, n_1000, n_9330, n_16806, n_1000000, n_5764800, ↓n_m, m_ltI, m_leI, m_lt', m_le', m_eq, m_eq', m_add, m_sub, mm_lt, mm_le, mm_eq, q_sub, nI_add, q_mul, nI_clamp, bz_0, bz_1, q_bzb, b_0, b_1, b_ft, b_tf, ne_eq, not_true_eq_false, not_false_eq_true, decide_true, decide_false, Bool.and_self, Bool.false_and, Bool.and_false, Bool.and_true, Bool.true_and, Bool.not_true, Bool.not_false, ↓reduceIte]
  exact q1
theorem m_first_loop (d : Nat) {V n : Nat} {pf pt ws : Nat → List Nat} : ∀ (r s : Nat) (h : z_H), s + r = 684 → mPr h V n pf pt → mMd h n ws → (∀ j, j < s → mkAll V n j ws pt = false) →
    ∃ h', EX (d + 8) 213 2 [z_R 49100 0, z_I (nI s)] [] h = some (some (z_I (nxI (fstS V n ws pt))), h') ∧ fr pT2 h h' := by
  intro r
  induction r with
  | zero =>
    intro s h hs m hM hb
    have : s = 684 := by omega
    subst this
    have e : fstS V n ws pt = none := fnd_none.mpr hb
    refine ⟨h, ?_, fr_rfl _ _⟩
    rw [bX11_firstThatMakes_2, e, show nxI none = mI from rfl]
    simp (disch := first | omega | rfl | assumption) only [bX11_firstThatMakes_25, q_cl, q_ps, q_pn, bI_t, bI_f, gI_same, gI_ne, gR_pI, gJ_pI, gV_pI, gN_pI, gC_pI, gS_pI, gI_pJ, gR_pJ, gV_pJ, gN_pJ, gJ_same, gJ_ne, gI_pR, gJ_pR, gV_pR, gN_pR, gR_same, gR_ne, zin_t, zin_f, x_ltt, x_ltf, x_let, x_lef, x_eqt, x_eqf, n_0, n_1, n_2, n_3, n_4, n_5, n_6, n_7, n_8, n_9, n_10, n_11, n_12, n_16, n_19, n_20, n_24, n_25, n_32, n_40, n_48, n_50, n_60, n_64, n_80, n_96, n_114, n_684, n_1000, n_9330, n_16806, n_1000000, n_5764800, ↓n_m, m_ltI, m_leI, m_lt', m_le', m_eq, m_eq', m_add, m_sub, mm_lt, mm_le, mm_eq, q_sub, nI_add, q_mul, nI_clamp, bz_0, bz_1, q_bzb, b_0, b_1, b_ft, b_tf, ne_eq, not_true_eq_false, not_false_eq_true, decide_true, decide_false, Bool.and_self, Bool.false_and, Bool.and_false, Bool.and_true, Bool.true_and, Bool.not_true, Bool.not_false, ↓reduceIte]
  | succ r ih =>
    intro s h hs m hM hb
    obtain ⟨h1, p1, p2⟩ := m_makesAll d (show s < 684 by omega) m hM
    rw [bX11_firstThatMakes_2]
    cases hx : mkAll V n s ws pt with
    | true =>
      rw [hx] at p1
      have e : fstS V n ws pt = some s := fnd_some.mpr ⟨hx, by omega, hb⟩
      refine ⟨h1, ?_, p2⟩
      rw [e, show nxI (some s) = nI s from rfl]
      simp (disch := first | omega | rfl | assumption) only [p1, bX11_firstThatMakes_14, q_cl, q_ps, q_pn, bI_t, bI_f, gI_same, gI_ne, gR_pI, gJ_pI, gV_pI, gN_pI, gC_pI, gS_pI, gI_pJ, gR_pJ, gV_pJ, gN_pJ, gJ_same, gJ_ne, gI_pR, gJ_pR, gV_pR, gN_pR, gR_same, gR_ne, zin_t, zin_f, x_ltt, x_ltf, x_let, x_lef, x_eqt, x_eqf, n_0, n_1, n_2, n_3, n_4, n_5, n_6, n_7, n_8, n_9, n_10, n_11, n_12, n_16, n_19, n_20, n_24, n_25, n_32, n_40, n_48, n_50, n_60, n_64, n_80, n_96, n_114, n_684, n_1000, n_9330, n_16806, n_1000000, n_5764800, ↓n_m, m_ltI, m_leI, m_lt', m_le', m_eq, m_eq', m_add, m_sub, mm_lt, mm_le, mm_eq, q_sub, nI_add, q_mul, nI_clamp, bz_0, bz_1, q_bzb, b_0, b_1, b_ft, b_tf, ne_eq, not_true_eq_false, not_false_eq_true, decide_true, decide_false, Bool.and_self, Bool.false_and, Bool.and_false, Bool.and_true, Bool.true_and, Bool.not_true, Bool.not_false, ↓reduceIte]
    | false =>
      rw [hx] at p1
      obtain ⟨h', q1, q2⟩ := ih (s + 1) h1 (by omega) (mPr_fr (fr_mono p2 pT2_3) m) (mMd_fr p2 hM) (fun j hj => by
        by_cases z : j = s
        · subst z; exact hx
        · exact hb j (by omega))
      refine ⟨h', ?_, fr_trans p2 q2⟩
      simp (disch := first | omega | rfl | assumption) only [p1, bX11_firstThatMakes_14, bX11_firstThatMakes_19, q_cl, q_ps, q_pn, bI_t, bI_f, gI_same, gI_ne, gR_pI, gJ_pI, gV_pI, gN_pI, gC_pI, gS_pI, gI_pJ, gR_pJ, gV_pJ, gN_pJ, gJ_same, gJ_ne, gI_pR, gJ_pR, gV_pR, gN_pR, gR_same, gR_ne, zin_t, zin_f, x_ltt, x_ltf, x_let, x_lef, x_eqt, x_eqf, n_0, n_1, n_2, n_3, n_4, n_5, n_6, n_7, n_8, n_9, n_10, n_11, n_12, n_16, n_19, n_20, n_24, n_25, n_32, n_40, n_48, n_50, n_60, n_64, n_80, n_96, n_114, n_684, n_1000, n_9330, n_16806, n_1000000, n_5764800, ↓n_m, m_ltI, m_leI, m_lt', m_le', m_eq, m_eq', m_add, m_sub, mm_lt, mm_le, mm_eq, q_sub, nI_add, q_mul, nI_clamp, bz_0, bz_1, q_bzb, b_0, b_1, b_ft, b_tf, ne_eq, not_true_eq_false, not_false_eq_true, decide_true, decide_false, Bool.and_self, Bool.false_and, Bool.and_false, Bool.and_true, Bool.true_and, Bool.not_true, Bool.not_false, ↓reduceIte]
      exact q1
theorem m_firstThatMakes (d : Nat) {V n : Nat} {pf pt ws : Nat → List Nat} {h : z_H} (m : mPr h V n pf pt) (hM : mMd h n ws) : ∃ h', Rn (d + 9) 213 [z_R 49100 0] h = some (some (z_I (nxI (fstS V n ws pt))), h') ∧ fr pT2 h h' := by
  obtain ⟨h', q1, q2⟩ := m_first_loop d 684 0 h (by omega) m hM (fun j hj => by omega)
  refine ⟨h', ?_, q2⟩
  rw [rX11_firstThatMakes, bX11_firstThatMakes_0]
  exact q1
theorem m_are_loop (d : Nat) {V n : Nat} {pf pt ws : Nat → List Nat} {h : z_H} (m : mPr h V n pf pt) (hM : mMd h n ws) : ∀ (r p : Nat) (b : Bool), p + r = n → (b = true ↔ ∀ j, j < p → ws j = pt j) → EX d 214 4 [z_R 49100 0, z_I (bI b), z_I (nI p)] [] h = some (some (z_I (bI (same n ws pt))), h) := by
  obtain ⟨a1, a2, a3, a4, a5, a6⟩ := m
  intro r
  induction r with
  | zero =>
    intro p b hp hb
    have : p = n := by omega
    subst this
    have e : same p ws pt = b := by
      rw [Bool.eq_iff_iff, hb, same_iff]
    rw [bX11_areMade_4, e]
    simp (disch := first | omega | rfl | assumption) only [a5, bX11_areMade_43, q_cl, q_ps, q_pn, bI_t, bI_f, gI_same, gI_ne, gR_pI, gJ_pI, gV_pI, gN_pI, gC_pI, gS_pI, gI_pJ, gR_pJ, gV_pJ, gN_pJ, gJ_same, gJ_ne, gI_pR, gJ_pR, gV_pR, gN_pR, gR_same, gR_ne, zin_t, zin_f, x_ltt, x_ltf, x_let, x_lef, x_eqt, x_eqf, n_0, n_1, n_2, n_3, n_4, n_5, n_6, n_7, n_8, n_9, n_10, n_11, n_12, n_16, n_19, n_20, n_24, n_25, n_32, n_40, n_48, n_50, n_60, n_64, n_80, n_96, n_114, n_684, n_1000, n_9330, n_16806, n_1000000, n_5764800, ↓n_m, m_ltI, m_leI, m_lt', m_le', m_eq, m_eq', m_add, m_sub, mm_lt, mm_le, mm_eq, q_sub, nI_add, q_mul, nI_clamp, bz_0, bz_1, q_bzb, b_0, b_1, b_ft, b_tf, ne_eq, not_true_eq_false, not_false_eq_true, decide_true, decide_false, Bool.and_self, Bool.false_and, Bool.and_false, Bool.and_true, Bool.true_and, Bool.not_true, Bool.not_false, ↓reduceIte]
  | succ r ih =>
    intro p b hp hb
    obtain ⟨w1, w2⟩ := hM p (by omega)
    obtain ⟨o0, o1, -, o2⟩ := a6 p (by omega)
    have l1 := wN_lt w1
    have l2 := wN_lt o1
    rw [bX11_areMade_4]
    cases b with
    | false =>
      have ih1 := ih (p + 1) false (by omega) ⟨fun z => by (cases z), fun z => hb.mpr (fun j hj => z j (by omega))⟩
      simp (disch := first | omega | rfl | assumption) only [a5, bX11_areMade_35, bX11_areMade_36, q_cl, q_ps, q_pn, bI_t, bI_f, gI_same, gI_ne, gR_pI, gJ_pI, gV_pI, gN_pI, gC_pI, gS_pI, gI_pJ, gR_pJ, gV_pJ, gN_pJ, gJ_same, gJ_ne, gI_pR, gJ_pR, gV_pR, gN_pR, gR_same, gR_ne, zin_t, zin_f, x_ltt, x_ltf, x_let, x_lef, x_eqt, x_eqf, n_0, n_1, n_2, n_3, n_4, n_5, n_6, n_7, n_8, n_9, n_10, n_11, n_12, n_16, n_19, n_20, n_24, n_25, n_32, n_40, n_48, n_50, n_60, n_64, n_80, n_96, n_114, n_684, n_1000, n_9330, n_16806, n_1000000, n_5764800, ↓n_m, m_ltI, m_leI, m_lt', m_le', m_eq, m_eq', m_add, m_sub, mm_lt, mm_le, mm_eq, q_sub, nI_add, q_mul, nI_clamp, bz_0, bz_1, q_bzb, b_0, b_1, b_ft, b_tf, ne_eq, not_true_eq_false, not_false_eq_true, decide_true, decide_false, Bool.and_self, Bool.false_and, Bool.and_false, Bool.and_true, Bool.true_and, Bool.not_true, Bool.not_false, ↓reduceIte]
      exact ih1
    | true =>
      by_cases e : ws p = pt p
      · have ih1 := ih (p + 1) true (by omega) ⟨fun _ j hj => by
          by_cases z : j = p
          · subst z; exact e
          · exact hb.mp rfl j (by omega), fun _ => rfl⟩
        have e3 : wN (ws p) = wN (pt p) := by rw [e]
        simp (disch := first | omega | rfl | assumption) only [a5, a1 46 rfl, a1 22 rfl, w2, o2, e3, bX11_areMade_36, q_cl, q_ps, q_pn, bI_t, bI_f, gI_same, gI_ne, gR_pI, gJ_pI, gV_pI, gN_pI, gC_pI, gS_pI, gI_pJ, gR_pJ, gV_pJ, gN_pJ, gJ_same, gJ_ne, gI_pR, gJ_pR, gV_pR, gN_pR, gR_same, gR_ne, zin_t, zin_f, x_ltt, x_ltf, x_let, x_lef, x_eqt, x_eqf, n_0, n_1, n_2, n_3, n_4, n_5, n_6, n_7, n_8, n_9, n_10, n_11, n_12, n_16, n_19, n_20, n_24, n_25, n_32, n_40, n_48, n_50, n_60, n_64, n_80, n_96, n_114, n_684, n_1000, n_9330, n_16806, n_1000000, n_5764800, ↓n_m, m_ltI, m_leI, m_lt', m_le', m_eq, m_eq', m_add, m_sub, mm_lt, mm_le, mm_eq, q_sub, nI_add, q_mul, nI_clamp, bz_0, bz_1, q_bzb, b_0, b_1, b_ft, b_tf, ne_eq, not_true_eq_false, not_false_eq_true, decide_true, decide_false, Bool.and_self, Bool.false_and, Bool.and_false, Bool.and_true, Bool.true_and, Bool.not_true, Bool.not_false, ↓reduceIte]
        exact ih1
      · have ih1 := ih (p + 1) false (by omega) ⟨fun z => by (cases z), fun z => absurd (z p (by omega)) e⟩
        have e3 : wN (ws p) ≠ wN (pt p) := fun z => e (wN_inj w1 o1 z)
        simp (disch := first | omega | rfl | assumption) only [a5, a1 46 rfl, a1 22 rfl, w2, o2, bX11_areMade_35, bX11_areMade_36, q_cl, q_ps, q_pn, bI_t, bI_f, gI_same, gI_ne, gR_pI, gJ_pI, gV_pI, gN_pI, gC_pI, gS_pI, gI_pJ, gR_pJ, gV_pJ, gN_pJ, gJ_same, gJ_ne, gI_pR, gJ_pR, gV_pR, gN_pR, gR_same, gR_ne, zin_t, zin_f, x_ltt, x_ltf, x_let, x_lef, x_eqt, x_eqf, n_0, n_1, n_2, n_3, n_4, n_5, n_6, n_7, n_8, n_9, n_10, n_11, n_12, n_16, n_19, n_20, n_24, n_25, n_32, n_40, n_48, n_50, n_60, n_64, n_80, n_96, n_114, n_684, n_1000, n_9330, n_16806, n_1000000, n_5764800, ↓n_m, m_ltI, m_leI, m_lt', m_le', m_eq, m_eq', m_add, m_sub, mm_lt, mm_le, mm_eq, q_sub, nI_add, q_mul, nI_clamp, bz_0, bz_1, q_bzb, b_0, b_1, b_ft, b_tf, ne_eq, not_true_eq_false, not_false_eq_true, decide_true, decide_false, Bool.and_self, Bool.false_and, Bool.and_false, Bool.and_true, Bool.true_and, Bool.not_true, Bool.not_false, ↓reduceIte]
        exact ih1
theorem m_areMade (d : Nat) {V n : Nat} {pf pt ws : Nat → List Nat} {h : z_H} (m : mPr h V n pf pt) (hM : mMd h n ws) : Rn (d + 1) 214 [z_R 49100 0] h = some (some (z_I (bI (same n ws pt))), h) := by
  rw [rX11_areMade, bX11_areMade_0]
  exact m_are_loop d m hM n 0 true (by omega) ⟨fun _ j hj => by omega, fun _ => rfl⟩
theorem mMd_set {h : z_H} {n p : Nat} {ws : Nat → List Nat} (hw : isW (ws p)) (hb : ∀ j, j < p → isW (ws j) ∧ gI h 6741 0 j = nI (wN (ws j))) : ∀ j, j < p + 1 → isW (ws j) ∧ gI (pI h 6741 0 p (nI (wN (ws p)))) 6741 0 j = nI (wN (ws j)) := by
  intro j hj
  by_cases e : j = p
  · subst e; exact ⟨hw, by simp (disch := first | omega | rfl | assumption) only [q_cl, q_ps, q_pn, bI_t, bI_f, gI_same, gI_ne, gR_pI, gJ_pI, gV_pI, gN_pI, gC_pI, gS_pI, gI_pJ, gR_pJ, gV_pJ, gN_pJ, gJ_same, gJ_ne, gI_pR, gJ_pR, gV_pR, gN_pR, gR_same, gR_ne, zin_t, zin_f, x_ltt, x_ltf, x_let, x_lef, x_eqt, x_eqf, n_0, n_1, n_2, n_3, n_4, n_5, n_6, n_7, n_8, n_9, n_10, n_11, n_12, n_16, n_19, n_20, n_24, n_25, n_32, n_40, n_48, n_50, n_60, n_64, n_80, n_96, n_114, n_684, n_1000, n_9330, n_16806, n_1000000, n_5764800, ↓n_m, m_ltI, m_leI, m_lt', m_le', m_eq, m_eq', m_add, m_sub, mm_lt, mm_le, mm_eq, q_sub, nI_add, q_mul, nI_clamp, bz_0, bz_1, q_bzb, b_0, b_1, b_ft, b_tf, ne_eq, not_true_eq_false, not_false_eq_true, decide_true, decide_false, Bool.and_self, Bool.false_and, Bool.and_false, Bool.and_true, Bool.true_and, Bool.not_true, Bool.not_false, ↓reduceIte]⟩
  · exact ⟨(hb j (by omega)).1, by simp (disch := first | omega | rfl | assumption) only [(hb j (by omega)).2, q_cl, q_ps, q_pn, bI_t, bI_f, gI_same, gI_ne, gR_pI, gJ_pI, gV_pI, gN_pI, gC_pI, gS_pI, gI_pJ, gR_pJ, gV_pJ, gN_pJ, gJ_same, gJ_ne, gI_pR, gJ_pR, gV_pR, gN_pR, gR_same, gR_ne, zin_t, zin_f, x_ltt, x_ltf, x_let, x_lef, x_eqt, x_eqf, n_0, n_1, n_2, n_3, n_4, n_5, n_6, n_7, n_8, n_9, n_10, n_11, n_12, n_16, n_19, n_20, n_24, n_25, n_32, n_40, n_48, n_50, n_60, n_64, n_80, n_96, n_114, n_684, n_1000, n_9330, n_16806, n_1000000, n_5764800, ↓n_m, m_ltI, m_leI, m_lt', m_le', m_eq, m_eq', m_add, m_sub, mm_lt, mm_le, mm_eq, q_sub, nI_add, q_mul, nI_clamp, bz_0, bz_1, q_bzb, b_0, b_1, b_ft, b_tf, ne_eq, not_true_eq_false, not_false_eq_true, decide_true, decide_false, Bool.and_self, Bool.false_and, Bool.and_false, Bool.and_true, Bool.true_and, Bool.not_true, Bool.not_false, ↓reduceIte]⟩
theorem m_rf0_loop (d : Nat) {V n : Nat} {pf pt : Nat → List Nat} : ∀ (r p : Nat) (h : z_H), p + r = n → mPr h V n pf pt → (∀ j, j < p → isW (pf j) ∧ gI h 6741 0 j = nI (wN (pf j))) →
    ∃ h', EX d 215 11 [z_R 49100 0, z_I mI, z_I (nI p)] [] h = some (none, h') ∧ mMd h' n pf ∧ fr pRf h h' := by
  intro r
  induction r with
  | zero =>
    intro p h hp m hb
    obtain ⟨a1, a2, a3, a4, a5, a6⟩ := m
    have : p = n := by omega
    subst this
    refine ⟨h, ?_, hb, fr_rfl _ _⟩
    rw [bX11_runFirst_11]
    simp (disch := first | omega | rfl | assumption) only [a5, bX11_runFirst_54, q_cl, q_ps, q_pn, bI_t, bI_f, gI_same, gI_ne, gR_pI, gJ_pI, gV_pI, gN_pI, gC_pI, gS_pI, gI_pJ, gR_pJ, gV_pJ, gN_pJ, gJ_same, gJ_ne, gI_pR, gJ_pR, gV_pR, gN_pR, gR_same, gR_ne, zin_t, zin_f, x_ltt, x_ltf, x_let, x_lef, x_eqt, x_eqf, n_0, n_1, n_2, n_3, n_4, n_5, n_6, n_7, n_8, n_9, n_10, n_11, n_12, n_16, n_19, n_20, n_24, n_25, n_32, n_40, n_48, n_50, n_60, n_64, n_80, n_96, n_114, n_684, n_1000, n_9330, n_16806, n_1000000, n_5764800, ↓n_m, m_ltI, m_leI, m_lt', m_le', m_eq, m_eq', m_add, m_sub, mm_lt, mm_le, mm_eq, q_sub, nI_add, q_mul, nI_clamp, bz_0, bz_1, q_bzb, b_0, b_1, b_ft, b_tf, ne_eq, not_true_eq_false, not_false_eq_true, decide_true, decide_false, Bool.and_self, Bool.false_and, Bool.and_false, Bool.and_true, Bool.true_and, Bool.not_true, Bool.not_false, ↓reduceIte]
  | succ r ih =>
    intro p h hp m hb
    have m' := m
    obtain ⟨a1, a2, a3, a4, a5, a6⟩ := m
    obtain ⟨o0, o1, o2, o3⟩ := a6 p (by omega)
    have f0 : fr pRf h (pI h 6741 0 p (nI (wN (pf p)))) := fr_pI h _ (Or.inr rfl)
    obtain ⟨h', q1, q2, q3⟩ := ih (p + 1) _ (by omega) (mPr_fr (fr_mono f0 pRf_3) m') (mMd_set (n := n) o0 hb)
    refine ⟨h', ?_, q2, fr_trans f0 q3⟩
    rw [bX11_runFirst_11]
    simp (disch := first | omega | rfl | assumption) only [a5, a1 46 rfl, a1 21 rfl, o2, bX11_runFirst_47, q_cl, q_ps, q_pn, bI_t, bI_f, gI_same, gI_ne, gR_pI, gJ_pI, gV_pI, gN_pI, gC_pI, gS_pI, gI_pJ, gR_pJ, gV_pJ, gN_pJ, gJ_same, gJ_ne, gI_pR, gJ_pR, gV_pR, gN_pR, gR_same, gR_ne, zin_t, zin_f, x_ltt, x_ltf, x_let, x_lef, x_eqt, x_eqf, n_0, n_1, n_2, n_3, n_4, n_5, n_6, n_7, n_8, n_9, n_10, n_11, n_12, n_16, n_19, n_20, n_24, n_25, n_32, n_40, n_48, n_50, n_60, n_64, n_80, n_96, n_114, n_684, n_1000, n_9330, n_16806, n_1000000, n_5764800, ↓n_m, m_ltI, m_leI, m_lt', m_le', m_eq, m_eq', m_add, m_sub, mm_lt, mm_le, mm_eq, q_sub, nI_add, q_mul, nI_clamp, bz_0, bz_1, q_bzb, b_0, b_1, b_ft, b_tf, ne_eq, not_true_eq_false, not_false_eq_true, decide_true, decide_false, Bool.and_self, Bool.false_and, Bool.and_false, Bool.and_true, Bool.true_and, Bool.not_true, Bool.not_false, ↓reduceIte]
    exact q1
theorem m_rfs_loop (d : Nat) {V n s : Nat} {pf pt : Nat → List Nat} (hs : s < 684) : ∀ (r p : Nat) (h : z_H), p + r = n → mPr h V n pf pt → mL h 24 (sL s) → (∀ j, j < p → isW (runW V (sL s) (pf j)) ∧ gI h 6741 0 j = nI (wN (runW V (sL s) (pf j)))) →
    ∃ h', EX (d + 7) 215 11 [z_R 49100 0, z_I (nI s), z_I (nI p)] [] h = some (none, h') ∧ mMd h' n (fun i => runW V (sL s) (pf i)) ∧ fr pRf h h' := by
  obtain ⟨r1, r2, r3, r4, -⟩ := s_rng hs
  have ok : okL (sL s) := (smL_ok r1 r2 r4).1
  intro r
  induction r with
  | zero =>
    intro p h hp m hL hb
    obtain ⟨a1, a2, a3, a4, a5, a6⟩ := m
    have : p = n := by omega
    subst this
    refine ⟨h, ?_, hb, fr_rfl _ _⟩
    rw [bX11_runFirst_11]
    simp (disch := first | omega | rfl | assumption) only [a5, bX11_runFirst_54, q_cl, q_ps, q_pn, bI_t, bI_f, gI_same, gI_ne, gR_pI, gJ_pI, gV_pI, gN_pI, gC_pI, gS_pI, gI_pJ, gR_pJ, gV_pJ, gN_pJ, gJ_same, gJ_ne, gI_pR, gJ_pR, gV_pR, gN_pR, gR_same, gR_ne, zin_t, zin_f, x_ltt, x_ltf, x_let, x_lef, x_eqt, x_eqf, n_0, n_1, n_2, n_3, n_4, n_5, n_6, n_7, n_8, n_9, n_10, n_11, n_12, n_16, n_19, n_20, n_24, n_25, n_32, n_40, n_48, n_50, n_60, n_64, n_80, n_96, n_114, n_684, n_1000, n_9330, n_16806, n_1000000, n_5764800, ↓n_m, m_ltI, m_leI, m_lt', m_le', m_eq, m_eq', m_add, m_sub, mm_lt, mm_le, mm_eq, q_sub, nI_add, q_mul, nI_clamp, bz_0, bz_1, q_bzb, b_0, b_1, b_ft, b_tf, ne_eq, not_true_eq_false, not_false_eq_true, decide_true, decide_false, Bool.and_self, Bool.false_and, Bool.and_false, Bool.and_true, Bool.true_and, Bool.not_true, Bool.not_false, ↓reduceIte]
  | succ r ih =>
    intro p h hp m hL hb
    have m' := m
    obtain ⟨a1, a2, a3, a4, a5, a6⟩ := m
    obtain ⟨o0, o1, o2, o3⟩ := a6 p (by omega)
    obtain ⟨h1, e1, e2⟩ := m_triedOver d m' ok hL o0
    have f1 := fr_mono (fr_mono e2 tW_2) pT2_r
    have f0 : fr pRf h1 (pI h1 6741 0 p (nI (wN (runW V (sL s) (pf p))))) := fr_pI h1 _ (Or.inr rfl)
    have hb1 : ∀ j, j < p → isW (runW V (sL s) (pf j)) ∧ gI h1 6741 0 j = nI (wN (runW V (sL s) (pf j))) := fun j hj => ⟨(hb j hj).1, (tW_kp e2 _ _ _ (by decide) (by decide) (by first | decide | exact Or.inl (by decide))).trans (hb j hj).2⟩
    obtain ⟨h', q1, q2, q3⟩ := ih (p + 1) _ (by omega) (mPr_fr (fr_mono f0 pRf_3) (mPr_fr (fr_mono f1 pRf_3) m')) (mL_fr (P := fun q _ _ => q = 6741) (fr_pI h1 _ rfl) (fun q k z => by subst z; decide) (mL_fr e2 tW_laws hL)) (mMd_set (n := n) (ws := fun i => runW V (sL s) (pf i)) (runW_ok ok o0) hb1)
    refine ⟨h', ?_, q2, fr_trans f1 (fr_trans f0 q3)⟩
    rw [bX11_runFirst_11]
    simp (disch := first | omega | rfl | assumption) only [a5, a1 46 rfl, bX11_runFirst_37, a1 21 rfl, o2, e1, bX11_runFirst_47, q_cl, q_ps, q_pn, bI_t, bI_f, gI_same, gI_ne, gR_pI, gJ_pI, gV_pI, gN_pI, gC_pI, gS_pI, gI_pJ, gR_pJ, gV_pJ, gN_pJ, gJ_same, gJ_ne, gI_pR, gJ_pR, gV_pR, gN_pR, gR_same, gR_ne, zin_t, zin_f, x_ltt, x_ltf, x_let, x_lef, x_eqt, x_eqf, n_0, n_1, n_2, n_3, n_4, n_5, n_6, n_7, n_8, n_9, n_10, n_11, n_12, n_16, n_19, n_20, n_24, n_25, n_32, n_40, n_48, n_50, n_60, n_64, n_80, n_96, n_114, n_684, n_1000, n_9330, n_16806, n_1000000, n_5764800, ↓n_m, m_ltI, m_leI, m_lt', m_le', m_eq, m_eq', m_add, m_sub, mm_lt, mm_le, mm_eq, q_sub, nI_add, q_mul, nI_clamp, bz_0, bz_1, q_bzb, b_0, b_1, b_ft, b_tf, ne_eq, not_true_eq_false, not_false_eq_true, decide_true, decide_false, Bool.and_self, Bool.false_and, Bool.and_false, Bool.and_true, Bool.true_and, Bool.not_true, Bool.not_false, ↓reduceIte]
    exact q1
theorem m_runFirst0 (d : Nat) {V n : Nat} {pf pt : Nat → List Nat} {h : z_H} (m : mPr h V n pf pt) : ∃ h', Rn (d + 1) 215 [z_R 49100 0, z_I mI] h = some (none, h') ∧ mMd h' n pf ∧ fr pRf h h' := by
  obtain ⟨h', q1, q2, q3⟩ := m_rf0_loop d n 0 h (by omega) m (fun j hj => by omega)
  refine ⟨h', ?_, q2, q3⟩
  rw [rX11_runFirst, bX11_runFirst_0, if_pos (by decide), bX11_runFirst_9]
  exact q1
theorem m_runFirst (d : Nat) {V n s : Nat} {pf pt : Nat → List Nat} (hs : s < 684) {h : z_H} (m : mPr h V n pf pt) : ∃ h', Rn (d + 8) 215 [z_R 49100 0, z_I (nI s)] h = some (none, h') ∧ mMd h' n (fun i => runW V (sL s) (pf i)) ∧ fr pRf h h' := by
  obtain ⟨h1, e1, e2, e3⟩ := m_trySimple (d + 4) hs m.1
  have f1 := fr_mono e3 pT2_r
  obtain ⟨h', q1, q2, q3⟩ := m_rfs_loop d hs n 0 h1 (by omega) (mPr_fr (fr_mono f1 pRf_3) m) e2 (fun j hj => by omega)
  refine ⟨h', ?_, q2, fr_trans f1 q3⟩
  rw [rX11_runFirst, bX11_runFirst_0]
  simp (disch := first | omega | rfl | assumption) only [e1, bX11_runFirst_9, q_cl, q_ps, q_pn, bI_t, bI_f, gI_same, gI_ne, gR_pI, gJ_pI, gV_pI, gN_pI, gC_pI, gS_pI, gI_pJ, gR_pJ, gV_pJ, gN_pJ, gJ_same, gJ_ne, gI_pR, gJ_pR, gV_pR, gN_pR, gR_same, gR_ne, zin_t, zin_f, x_ltt, x_ltf, x_let, x_lef, x_eqt, x_eqf, n_0, n_1, n_2, n_3, n_4, n_5, n_6, n_7, n_8, n_9, n_10, n_11, n_12, n_16, n_19, n_20, n_24, n_25, n_32, n_40, n_48, n_50, n_60, n_64, n_80, n_96, n_114, n_684, n_1000, n_9330, n_16806, n_1000000, n_5764800, ↓n_m, m_ltI, m_leI, m_lt', m_le', m_eq, m_eq', m_add, m_sub, mm_lt, mm_le, mm_eq, q_sub, nI_add, q_mul, nI_clamp, bz_0, bz_1, q_bzb, b_0, b_1, b_ft, b_tf, ne_eq, not_true_eq_false, not_false_eq_true, decide_true, decide_false, Bool.and_self, Bool.false_and, Bool.and_false, Bool.and_true, Bool.true_and, Bool.not_true, Bool.not_false, ↓reduceIte]
  exact q1
theorem m_sk_loop (d : Nat) {V n : Nat} {pf pt : Nat → List Nat} : ∀ (r s : Nat) (u2 : z_V) (h : z_H), s + r = 684 → mPr h V n pf pt → gI h 49100 0 44 = mI → (∀ j, j < s → qS V n pf pt j = false) →
    ∃ h', EX (d + 9) 216 71 [z_R 49100 0, z_I (nI s), u2] [] h = some (none, h') ∧ gI h' 49100 0 23 = gI h 49100 0 23 ∧ fr pT3 h h' ∧ (((∀ j, j < 684 → qS V n pf pt j = false) ∧ gI h' 49100 0 44 = mI) ∨ ∃ s s2, s < 684 ∧ qS V n pf pt s = true ∧ (∀ j, j < s → qS V n pf pt j = false) ∧ fstS V n (fun i => runW V (sL s) (pf i)) pt = some s2 ∧ gI h' 49100 0 44 = nI 2 ∧ gI h' 2731 0 0 = nI s ∧ gI h' 2731 0 1 = nI s2) := by
  intro r
  induction r with
  | zero =>
    intro s u2 h hs m h44 hb
    have : s = 684 := by omega
    subst this
    refine ⟨h, ?_, rfl, fr_rfl _ _, Or.inl ⟨hb, h44⟩⟩
    rw [bX11_seek_71]
    simp (disch := first | omega | rfl | assumption) only [bX11_seek_124, q_cl, q_ps, q_pn, bI_t, bI_f, gI_same, gI_ne, gR_pI, gJ_pI, gV_pI, gN_pI, gC_pI, gS_pI, gI_pJ, gR_pJ, gV_pJ, gN_pJ, gJ_same, gJ_ne, gI_pR, gJ_pR, gV_pR, gN_pR, gR_same, gR_ne, zin_t, zin_f, x_ltt, x_ltf, x_let, x_lef, x_eqt, x_eqf, n_0, n_1, n_2, n_3, n_4, n_5, n_6, n_7, n_8, n_9, n_10, n_11, n_12, n_16, n_19, n_20, n_24, n_25, n_32, n_40, n_48, n_50, n_60, n_64, n_80, n_96, n_114, n_684, n_1000, n_9330, n_16806, n_1000000, n_5764800, ↓n_m, m_ltI, m_leI, m_lt', m_le', m_eq, m_eq', m_add, m_sub, mm_lt, mm_le, mm_eq, q_sub, nI_add, q_mul, nI_clamp, bz_0, bz_1, q_bzb, b_0, b_1, b_ft, b_tf, ne_eq, not_true_eq_false, not_false_eq_true, decide_true, decide_false, Bool.and_self, Bool.false_and, Bool.and_false, Bool.and_true, Bool.true_and, Bool.not_true, Bool.not_false, ↓reduceIte]
  | succ r ih =>
    intro s u2 h hs m h44 hb
    obtain ⟨h1, p1, p2, p3⟩ := m_runFirst (d + 1) (show s < 684 by omega) m
    have m1 := mPr_fr (fr_mono p3 pRf_3) m
    obtain ⟨h2, q1, q2⟩ := m_firstThatMakes d m1 p2
    have F := fr_trans p3 (fr_mono q2 pT2_r)
    have F3 := fr_mono F pRf_3
    have m2 := mPr_fr F3 m
    have k23 : gI h2 49100 0 23 = gI h 49100 0 23 := F.2 _ _ _ (pRf_no (by decide))
    have k44 : gI h2 49100 0 44 = mI := (F.2 _ _ _ (pRf_no (by decide))).trans h44
    cases hx : fstS V n (fun i => runW V (sL s) (pf i)) pt with
    | none =>
      rw [hx] at q1
      have q1' : Rn (d + 9) 213 [z_R 49100 0] h1 = some (some (z_I mI), h2) := q1
      have hq : qS V n pf pt s = false := by unfold qS; rw [hx]; rfl
      obtain ⟨h', r1, r2, r3, r4⟩ := ih (s + 1) (z_I mI) h2 (by omega) m2 k44 (fun j hj => by
        by_cases z : j = s
        · subst z; exact hq
        · exact hb j (by omega))
      refine ⟨h', ?_, r2.trans k23, fr_trans F3 r3, r4⟩
      rw [bX11_seek_71]
      simp (disch := first | omega | rfl | assumption) only [h44, show (nI 0 ≤ mI) = False from by decide, p1, bX11_seek_90, q1', bX11_seek_94, mI_lt0, bX11_seek_118, q_cl, q_ps, q_pn, bI_t, bI_f, gI_same, gI_ne, gR_pI, gJ_pI, gV_pI, gN_pI, gC_pI, gS_pI, gI_pJ, gR_pJ, gV_pJ, gN_pJ, gJ_same, gJ_ne, gI_pR, gJ_pR, gV_pR, gN_pR, gR_same, gR_ne, zin_t, zin_f, x_ltt, x_ltf, x_let, x_lef, x_eqt, x_eqf, n_0, n_1, n_2, n_3, n_4, n_5, n_6, n_7, n_8, n_9, n_10, n_11, n_12, n_16, n_19, n_20, n_24, n_25, n_32, n_40, n_48, n_50, n_60, n_64, n_80, n_96, n_114, n_684, n_1000, n_9330, n_16806, n_1000000, n_5764800, ↓n_m, m_ltI, m_leI, m_lt', m_le', m_eq, m_eq', m_add, m_sub, mm_lt, mm_le, mm_eq, q_sub, nI_add, q_mul, nI_clamp, bz_0, bz_1, q_bzb, b_0, b_1, b_ft, b_tf, ne_eq, not_true_eq_false, not_false_eq_true, decide_true, decide_false, Bool.and_self, Bool.false_and, Bool.and_false, Bool.and_true, Bool.true_and, Bool.not_true, Bool.not_false, ↓reduceIte]
      exact r1
    | some s2 =>
      rw [hx] at q1
      have q1' : Rn (d + 9) 213 [z_R 49100 0] h1 = some (some (z_I (nI s2)), h2) := q1
      have hq : qS V n pf pt s = true := by unfold qS; rw [hx]; rfl
      have hs2 := (fnd_some.mp hx).2.1
      refine ⟨pI (pI (pI h2 49100 0 44 (nI 2)) 2731 0 0 (nI s)) 2731 0 1 (nI s2), ?_, by simp (disch := first | omega | rfl | assumption) only [k23, q_cl, q_ps, q_pn, bI_t, bI_f, gI_same, gI_ne, gR_pI, gJ_pI, gV_pI, gN_pI, gC_pI, gS_pI, gI_pJ, gR_pJ, gV_pJ, gN_pJ, gJ_same, gJ_ne, gI_pR, gJ_pR, gV_pR, gN_pR, gR_same, gR_ne, zin_t, zin_f, x_ltt, x_ltf, x_let, x_lef, x_eqt, x_eqf, n_0, n_1, n_2, n_3, n_4, n_5, n_6, n_7, n_8, n_9, n_10, n_11, n_12, n_16, n_19, n_20, n_24, n_25, n_32, n_40, n_48, n_50, n_60, n_64, n_80, n_96, n_114, n_684, n_1000, n_9330, n_16806, n_1000000, n_5764800, ↓n_m, m_ltI, m_leI, m_lt', m_le', m_eq, m_eq', m_add, m_sub, mm_lt, mm_le, mm_eq, q_sub, nI_add, q_mul, nI_clamp, bz_0, bz_1, q_bzb, b_0, b_1, b_ft, b_tf, ne_eq, not_true_eq_false, not_false_eq_true, decide_true, decide_false, Bool.and_self, Bool.false_and, Bool.and_false, Bool.and_true, Bool.true_and, Bool.not_true, Bool.not_false, ↓reduceIte], fr_trans F3 (fr_trans (fr_trans (fr_pI h2 _ (Or.inr (Or.inl ⟨rfl, Or.inr rfl⟩))) (fr_pI _ _ (Or.inr (Or.inr rfl)))) (fr_pI _ _ (Or.inr (Or.inr rfl)))), Or.inr ⟨s, s2, by omega, hq, hb, hx, by simp (disch := first | omega | rfl | assumption) only [q_cl, q_ps, q_pn, bI_t, bI_f, gI_same, gI_ne, gR_pI, gJ_pI, gV_pI, gN_pI, gC_pI, gS_pI, gI_pJ, gR_pJ, gV_pJ, gN_pJ, gJ_same, gJ_ne, gI_pR, gJ_pR, gV_pR, gN_pR, gR_same, gR_ne, zin_t, zin_f, x_ltt, x_ltf, x_let, x_lef, x_eqt, x_eqf, n_0, n_1, n_2, n_3, n_4, n_5, n_6, n_7, n_8, n_9, n_10, n_11, n_12, n_16, n_19, n_20, n_24, n_25, n_32, n_40, n_48, n_50, n_60, n_64, n_80, n_96, n_114, n_684, n_1000, n_9330, n_16806, n_1000000, n_5764800, ↓n_m, m_ltI, m_leI, m_lt', m_le', m_eq, m_eq', m_add, m_sub, mm_lt, mm_le, mm_eq, q_sub, nI_add, q_mul, nI_clamp, bz_0, bz_1, q_bzb, b_0, b_1, b_ft, b_tf, ne_eq, not_true_eq_false, not_false_eq_true, decide_true, decide_false, Bool.and_self, Bool.false_and, Bool.and_false, Bool.and_true, Bool.true_and, Bool.not_true, Bool.not_false, ↓reduceIte], by simp (disch := first | omega | rfl | assumption) only [q_cl, q_ps, q_pn, bI_t, bI_f, gI_same, gI_ne, gR_pI, gJ_pI, gV_pI, gN_pI, gC_pI, gS_pI, gI_pJ, gR_pJ, gV_pJ, gN_pJ, gJ_same, gJ_ne, gI_pR, gJ_pR, gV_pR, gN_pR, gR_same, gR_ne, zin_t, zin_f, x_ltt, x_ltf, x_let, x_lef, x_eqt, x_eqf, n_0, n_1, n_2, n_3, n_4, n_5, n_6, n_7, n_8, n_9, n_10, n_11, n_12, n_16, n_19, n_20, n_24, n_25, n_32, n_40, n_48, n_50, n_60, n_64, n_80, n_96, n_114, n_684, n_1000, n_9330, n_16806, n_1000000, n_5764800, ↓n_m, m_ltI, m_leI, m_lt', m_le', m_eq, m_eq', m_add, m_sub, mm_lt, mm_le, mm_eq, q_sub, nI_add, q_mul, nI_clamp, bz_0, bz_1, q_bzb, b_0, b_1, b_ft, b_tf, ne_eq, not_true_eq_false, not_false_eq_true, decide_true, decide_false, Bool.and_self, Bool.false_and, Bool.and_false, Bool.and_true, Bool.true_and, Bool.not_true, Bool.not_false, ↓reduceIte], by simp (disch := first | omega | rfl | assumption) only [q_cl, q_ps, q_pn, bI_t, bI_f, gI_same, gI_ne, gR_pI, gJ_pI, gV_pI, gN_pI, gC_pI, gS_pI, gI_pJ, gR_pJ, gV_pJ, gN_pJ, gJ_same, gJ_ne, gI_pR, gJ_pR, gV_pR, gN_pR, gR_same, gR_ne, zin_t, zin_f, x_ltt, x_ltf, x_let, x_lef, x_eqt, x_eqf, n_0, n_1, n_2, n_3, n_4, n_5, n_6, n_7, n_8, n_9, n_10, n_11, n_12, n_16, n_19, n_20, n_24, n_25, n_32, n_40, n_48, n_50, n_60, n_64, n_80, n_96, n_114, n_684, n_1000, n_9330, n_16806, n_1000000, n_5764800, ↓n_m, m_ltI, m_leI, m_lt', m_le', m_eq, m_eq', m_add, m_sub, mm_lt, mm_le, mm_eq, q_sub, nI_add, q_mul, nI_clamp, bz_0, bz_1, q_bzb, b_0, b_1, b_ft, b_tf, ne_eq, not_true_eq_false, not_false_eq_true, decide_true, decide_false, Bool.and_self, Bool.false_and, Bool.and_false, Bool.and_true, Bool.true_and, Bool.not_true, Bool.not_false, ↓reduceIte]⟩⟩
      have fin : EX (d + 9) 216 71 [z_R 49100 0, z_I (nI (s + 1)), z_I (nI s2)] [] (pI (pI (pI h2 49100 0 44 (nI 2)) 2731 0 0 (nI s)) 2731 0 1 (nI s2)) = some (none, pI (pI (pI h2 49100 0 44 (nI 2)) 2731 0 0 (nI s)) 2731 0 1 (nI s2)) := by
        rw [bX11_seek_71]
        by_cases z : 684 ≤ s + 1
        · simp (disch := first | omega | rfl | assumption) only [bX11_seek_124, q_cl, q_ps, q_pn, bI_t, bI_f, gI_same, gI_ne, gR_pI, gJ_pI, gV_pI, gN_pI, gC_pI, gS_pI, gI_pJ, gR_pJ, gV_pJ, gN_pJ, gJ_same, gJ_ne, gI_pR, gJ_pR, gV_pR, gN_pR, gR_same, gR_ne, zin_t, zin_f, x_ltt, x_ltf, x_let, x_lef, x_eqt, x_eqf, n_0, n_1, n_2, n_3, n_4, n_5, n_6, n_7, n_8, n_9, n_10, n_11, n_12, n_16, n_19, n_20, n_24, n_25, n_32, n_40, n_48, n_50, n_60, n_64, n_80, n_96, n_114, n_684, n_1000, n_9330, n_16806, n_1000000, n_5764800, ↓n_m, m_ltI, m_leI, m_lt', m_le', m_eq, m_eq', m_add, m_sub, mm_lt, mm_le, mm_eq, q_sub, nI_add, q_mul, nI_clamp, bz_0, bz_1, q_bzb, b_0, b_1, b_ft, b_tf, ne_eq, not_true_eq_false, not_false_eq_true, decide_true, decide_false, Bool.and_self, Bool.false_and, Bool.and_false, Bool.and_true, Bool.true_and, Bool.not_true, Bool.not_false, ↓reduceIte]
        · simp (disch := first | omega | rfl | assumption) only [bX11_seek_124, q_cl, q_ps, q_pn, bI_t, bI_f, gI_same, gI_ne, gR_pI, gJ_pI, gV_pI, gN_pI, gC_pI, gS_pI, gI_pJ, gR_pJ, gV_pJ, gN_pJ, gJ_same, gJ_ne, gI_pR, gJ_pR, gV_pR, gN_pR, gR_same, gR_ne, zin_t, zin_f, x_ltt, x_ltf, x_let, x_lef, x_eqt, x_eqf, n_0, n_1, n_2, n_3, n_4, n_5, n_6, n_7, n_8, n_9, n_10, n_11, n_12, n_16, n_19, n_20, n_24, n_25, n_32, n_40, n_48, n_50, n_60, n_64, n_80, n_96, n_114, n_684, n_1000, n_9330, n_16806, n_1000000, n_5764800, ↓n_m, m_ltI, m_leI, m_lt', m_le', m_eq, m_eq', m_add, m_sub, mm_lt, mm_le, mm_eq, q_sub, nI_add, q_mul, nI_clamp, bz_0, bz_1, q_bzb, b_0, b_1, b_ft, b_tf, ne_eq, not_true_eq_false, not_false_eq_true, decide_true, decide_false, Bool.and_self, Bool.false_and, Bool.and_false, Bool.and_true, Bool.true_and, Bool.not_true, Bool.not_false, ↓reduceIte]
      rw [bX11_seek_71]
      simp (disch := first | omega | rfl | assumption) only [h44, show (nI 0 ≤ mI) = False from by decide, p1, bX11_seek_90, q1', bX11_seek_94, m2.1 45 rfl, bX11_seek_118, q_cl, q_ps, q_pn, bI_t, bI_f, gI_same, gI_ne, gR_pI, gJ_pI, gV_pI, gN_pI, gC_pI, gS_pI, gI_pJ, gR_pJ, gV_pJ, gN_pJ, gJ_same, gJ_ne, gI_pR, gJ_pR, gV_pR, gN_pR, gR_same, gR_ne, zin_t, zin_f, x_ltt, x_ltf, x_let, x_lef, x_eqt, x_eqf, n_0, n_1, n_2, n_3, n_4, n_5, n_6, n_7, n_8, n_9, n_10, n_11, n_12, n_16, n_19, n_20, n_24, n_25, n_32, n_40, n_48, n_50, n_60, n_64, n_80, n_96, n_114, n_684, n_1000, n_9330, n_16806, n_1000000, n_5764800, ↓n_m, m_ltI, m_leI, m_lt', m_le', m_eq, m_eq', m_add, m_sub, mm_lt, mm_le, mm_eq, q_sub, nI_add, q_mul, nI_clamp, bz_0, bz_1, q_bzb, b_0, b_1, b_ft, b_tf, ne_eq, not_true_eq_false, not_false_eq_true, decide_true, decide_false, Bool.and_self, Bool.false_and, Bool.and_false, Bool.and_true, Bool.true_and, Bool.not_true, Bool.not_false, ↓reduceIte]
      exact fin
theorem m_seek (d : Nat) {V n : Nat} {pf pt : Nat → List Nat} {h : z_H} (m : mPr h V n pf pt) (hs : gI h 49100 0 23 = nI 0 ∨ (gI h 49100 0 23 = nI 1 ∧ mSk h (skR V n pf pt))) :
    ∃ h', Rn (d + 10) 216 [z_R 49100 0] h = some (none, h') ∧ gI h' 49100 0 23 = nI 1 ∧ mSk h' (skR V n pf pt) ∧ fr pT3 h h' := by
  rcases hs with hs | ⟨hs, hsk⟩
  · have f0 : fr pT3 h (pI h 49100 0 23 (nI 1)) := fr_pI h _ (Or.inr (Or.inl ⟨rfl, Or.inl rfl⟩))
    have mA := mPr_fr f0 m
    obtain ⟨h1, p1, p2, p3⟩ := m_runFirst0 (d + 8) mA
    have m1 := mPr_fr (fr_mono p3 pRf_3) mA
    have k1 : gI h1 49100 0 23 = nI 1 := (p3.2 _ _ _ (pRf_no (by decide))).trans (by simp (disch := first | omega | rfl | assumption) only [q_cl, q_ps, q_pn, bI_t, bI_f, gI_same, gI_ne, gR_pI, gJ_pI, gV_pI, gN_pI, gC_pI, gS_pI, gI_pJ, gR_pJ, gV_pJ, gN_pJ, gJ_same, gJ_ne, gI_pR, gJ_pR, gV_pR, gN_pR, gR_same, gR_ne, zin_t, zin_f, x_ltt, x_ltf, x_let, x_lef, x_eqt, x_eqf, n_0, n_1, n_2, n_3, n_4, n_5, n_6, n_7, n_8, n_9, n_10, n_11, n_12, n_16, n_19, n_20, n_24, n_25, n_32, n_40, n_48, n_50, n_60, n_64, n_80, n_96, n_114, n_684, n_1000, n_9330, n_16806, n_1000000, n_5764800, ↓n_m, m_ltI, m_leI, m_lt', m_le', m_eq, m_eq', m_add, m_sub, mm_lt, mm_le, mm_eq, q_sub, nI_add, q_mul, nI_clamp, bz_0, bz_1, q_bzb, b_0, b_1, b_ft, b_tf, ne_eq, not_true_eq_false, not_false_eq_true, decide_true, decide_false, Bool.and_self, Bool.false_and, Bool.and_false, Bool.and_true, Bool.true_and, Bool.not_true, Bool.not_false, ↓reduceIte])
    have e1 := m_areMade (d + 8) m1 p2
    have fA := fr_trans f0 (fr_mono p3 pRf_3)
    have step : Rn (d + 10) 216 [z_R 49100 0] h = EX (d + 9) 216 23 [z_R 49100 0, z_U, z_U] [z_I (bI (same n pf pt)), z_R 49100 0] h1 := by
      rw [rX11_seek, bX11_seek_0]
      simp (disch := first | omega | rfl | assumption) only [hs, bX11_seek_8, p1, bX11_seek_18, e1, q_cl, q_ps, q_pn, bI_t, bI_f, gI_same, gI_ne, gR_pI, gJ_pI, gV_pI, gN_pI, gC_pI, gS_pI, gI_pJ, gR_pJ, gV_pJ, gN_pJ, gJ_same, gJ_ne, gI_pR, gJ_pR, gV_pR, gN_pR, gR_same, gR_ne, zin_t, zin_f, x_ltt, x_ltf, x_let, x_lef, x_eqt, x_eqf, n_0, n_1, n_2, n_3, n_4, n_5, n_6, n_7, n_8, n_9, n_10, n_11, n_12, n_16, n_19, n_20, n_24, n_25, n_32, n_40, n_48, n_50, n_60, n_64, n_80, n_96, n_114, n_684, n_1000, n_9330, n_16806, n_1000000, n_5764800, ↓n_m, m_ltI, m_leI, m_lt', m_le', m_eq, m_eq', m_add, m_sub, mm_lt, mm_le, mm_eq, q_sub, nI_add, q_mul, nI_clamp, bz_0, bz_1, q_bzb, b_0, b_1, b_ft, b_tf, ne_eq, not_true_eq_false, not_false_eq_true, decide_true, decide_false, Bool.and_self, Bool.false_and, Bool.and_false, Bool.and_true, Bool.true_and, Bool.not_true, Bool.not_false, ↓reduceIte]
    cases hsame : same n pf pt with
    | true =>
      refine ⟨pI h1 49100 0 44 (nI 0), ?_, by simp (disch := first | omega | rfl | assumption) only [k1, q_cl, q_ps, q_pn, bI_t, bI_f, gI_same, gI_ne, gR_pI, gJ_pI, gV_pI, gN_pI, gC_pI, gS_pI, gI_pJ, gR_pJ, gV_pJ, gN_pJ, gJ_same, gJ_ne, gI_pR, gJ_pR, gV_pR, gN_pR, gR_same, gR_ne, zin_t, zin_f, x_ltt, x_ltf, x_let, x_lef, x_eqt, x_eqf, n_0, n_1, n_2, n_3, n_4, n_5, n_6, n_7, n_8, n_9, n_10, n_11, n_12, n_16, n_19, n_20, n_24, n_25, n_32, n_40, n_48, n_50, n_60, n_64, n_80, n_96, n_114, n_684, n_1000, n_9330, n_16806, n_1000000, n_5764800, ↓n_m, m_ltI, m_leI, m_lt', m_le', m_eq, m_eq', m_add, m_sub, mm_lt, mm_le, mm_eq, q_sub, nI_add, q_mul, nI_clamp, bz_0, bz_1, q_bzb, b_0, b_1, b_ft, b_tf, ne_eq, not_true_eq_false, not_false_eq_true, decide_true, decide_false, Bool.and_self, Bool.false_and, Bool.and_false, Bool.and_true, Bool.true_and, Bool.not_true, Bool.not_false, ↓reduceIte], ?_, fr_trans fA (fr_pI _ _ (Or.inr (Or.inl ⟨rfl, Or.inr rfl⟩)))⟩
      · rw [step, hsame, bX11_seek_23]
        simp (disch := first | omega | rfl | assumption) only [bX11_seek_31, bX11_seek_69, bX11_seek_71, bX11_seek_124, q_cl, q_ps, q_pn, bI_t, bI_f, gI_same, gI_ne, gR_pI, gJ_pI, gV_pI, gN_pI, gC_pI, gS_pI, gI_pJ, gR_pJ, gV_pJ, gN_pJ, gJ_same, gJ_ne, gI_pR, gJ_pR, gV_pR, gN_pR, gR_same, gR_ne, zin_t, zin_f, x_ltt, x_ltf, x_let, x_lef, x_eqt, x_eqf, n_0, n_1, n_2, n_3, n_4, n_5, n_6, n_7, n_8, n_9, n_10, n_11, n_12, n_16, n_19, n_20, n_24, n_25, n_32, n_40, n_48, n_50, n_60, n_64, n_80, n_96, n_114, n_684, n_1000, n_9330, n_16806, n_1000000, n_5764800, ↓n_m, m_ltI, m_leI, m_lt', m_le', m_eq, m_eq', m_add, m_sub, mm_lt, mm_le, mm_eq, q_sub, nI_add, q_mul, nI_clamp, bz_0, bz_1, q_bzb, b_0, b_1, b_ft, b_tf, ne_eq, not_true_eq_false, not_false_eq_true, decide_true, decide_false, Bool.and_self, Bool.false_and, Bool.and_false, Bool.and_true, Bool.true_and, Bool.not_true, Bool.not_false, ↓reduceIte]
      · rw [skR_same hsame]
        exact ⟨by simp (disch := first | omega | rfl | assumption) only [List.length_nil, q_cl, q_ps, q_pn, bI_t, bI_f, gI_same, gI_ne, gR_pI, gJ_pI, gV_pI, gN_pI, gC_pI, gS_pI, gI_pJ, gR_pJ, gV_pJ, gN_pJ, gJ_same, gJ_ne, gI_pR, gJ_pR, gV_pR, gN_pR, gR_same, gR_ne, zin_t, zin_f, x_ltt, x_ltf, x_let, x_lef, x_eqt, x_eqf, n_0, n_1, n_2, n_3, n_4, n_5, n_6, n_7, n_8, n_9, n_10, n_11, n_12, n_16, n_19, n_20, n_24, n_25, n_32, n_40, n_48, n_50, n_60, n_64, n_80, n_96, n_114, n_684, n_1000, n_9330, n_16806, n_1000000, n_5764800, ↓n_m, m_ltI, m_leI, m_lt', m_le', m_eq, m_eq', m_add, m_sub, mm_lt, mm_le, mm_eq, q_sub, nI_add, q_mul, nI_clamp, bz_0, bz_1, q_bzb, b_0, b_1, b_ft, b_tf, ne_eq, not_true_eq_false, not_false_eq_true, decide_true, decide_false, Bool.and_self, Bool.false_and, Bool.and_false, Bool.and_true, Bool.true_and, Bool.not_true, Bool.not_false, ↓reduceIte], fun i s z => by simp at z⟩
    | false =>
      have fB : fr pT3 h1 (pI h1 49100 0 44 mI) := fr_pI _ _ (Or.inr (Or.inl ⟨rfl, Or.inr rfl⟩))
      have mB := mPr_fr fB m1
      have hM : mMd (pI h1 49100 0 44 mI) n pf := fun k hk => ⟨(p2 k hk).1, by simp (disch := first | omega | rfl | assumption) only [(p2 k hk).2, q_cl, q_ps, q_pn, bI_t, bI_f, gI_same, gI_ne, gR_pI, gJ_pI, gV_pI, gN_pI, gC_pI, gS_pI, gI_pJ, gR_pJ, gV_pJ, gN_pJ, gJ_same, gJ_ne, gI_pR, gJ_pR, gV_pR, gN_pR, gR_same, gR_ne, zin_t, zin_f, x_ltt, x_ltf, x_let, x_lef, x_eqt, x_eqf, n_0, n_1, n_2, n_3, n_4, n_5, n_6, n_7, n_8, n_9, n_10, n_11, n_12, n_16, n_19, n_20, n_24, n_25, n_32, n_40, n_48, n_50, n_60, n_64, n_80, n_96, n_114, n_684, n_1000, n_9330, n_16806, n_1000000, n_5764800, ↓n_m, m_ltI, m_leI, m_lt', m_le', m_eq, m_eq', m_add, m_sub, mm_lt, mm_le, mm_eq, q_sub, nI_add, q_mul, nI_clamp, bz_0, bz_1, q_bzb, b_0, b_1, b_ft, b_tf, ne_eq, not_true_eq_false, not_false_eq_true, decide_true, decide_false, Bool.and_self, Bool.false_and, Bool.and_false, Bool.and_true, Bool.true_and, Bool.not_true, Bool.not_false, ↓reduceIte]⟩
      obtain ⟨h2, q1, q2⟩ := m_firstThatMakes d mB hM
      have f2 := fr_mono q2 pT2_3
      have m2 := mPr_fr f2 mB
      have k2 : gI h2 49100 0 23 = nI 1 := (q2.2 _ _ _ (pT2_no (by decide))).trans (by simp (disch := first | omega | rfl | assumption) only [k1, q_cl, q_ps, q_pn, bI_t, bI_f, gI_same, gI_ne, gR_pI, gJ_pI, gV_pI, gN_pI, gC_pI, gS_pI, gI_pJ, gR_pJ, gV_pJ, gN_pJ, gJ_same, gJ_ne, gI_pR, gJ_pR, gV_pR, gN_pR, gR_same, gR_ne, zin_t, zin_f, x_ltt, x_ltf, x_let, x_lef, x_eqt, x_eqf, n_0, n_1, n_2, n_3, n_4, n_5, n_6, n_7, n_8, n_9, n_10, n_11, n_12, n_16, n_19, n_20, n_24, n_25, n_32, n_40, n_48, n_50, n_60, n_64, n_80, n_96, n_114, n_684, n_1000, n_9330, n_16806, n_1000000, n_5764800, ↓n_m, m_ltI, m_leI, m_lt', m_le', m_eq, m_eq', m_add, m_sub, mm_lt, mm_le, mm_eq, q_sub, nI_add, q_mul, nI_clamp, bz_0, bz_1, q_bzb, b_0, b_1, b_ft, b_tf, ne_eq, not_true_eq_false, not_false_eq_true, decide_true, decide_false, Bool.and_self, Bool.false_and, Bool.and_false, Bool.and_true, Bool.true_and, Bool.not_true, Bool.not_false, ↓reduceIte])
      have F2 := fr_trans fA (fr_trans fB f2)
      cases hF : fstS V n pf pt with
      | some s =>
        rw [hF] at q1
        have q1' : Rn (d + 9) 213 [z_R 49100 0] (pI h1 49100 0 44 mI) = some (some (z_I (nI s)), h2) := q1
        have hs684 := (fnd_some.mp hF).2.1
        refine ⟨pI (pI h2 2731 0 0 (nI s)) 49100 0 44 (nI 1), ?_, by simp (disch := first | omega | rfl | assumption) only [k2, q_cl, q_ps, q_pn, bI_t, bI_f, gI_same, gI_ne, gR_pI, gJ_pI, gV_pI, gN_pI, gC_pI, gS_pI, gI_pJ, gR_pJ, gV_pJ, gN_pJ, gJ_same, gJ_ne, gI_pR, gJ_pR, gV_pR, gN_pR, gR_same, gR_ne, zin_t, zin_f, x_ltt, x_ltf, x_let, x_lef, x_eqt, x_eqf, n_0, n_1, n_2, n_3, n_4, n_5, n_6, n_7, n_8, n_9, n_10, n_11, n_12, n_16, n_19, n_20, n_24, n_25, n_32, n_40, n_48, n_50, n_60, n_64, n_80, n_96, n_114, n_684, n_1000, n_9330, n_16806, n_1000000, n_5764800, ↓n_m, m_ltI, m_leI, m_lt', m_le', m_eq, m_eq', m_add, m_sub, mm_lt, mm_le, mm_eq, q_sub, nI_add, q_mul, nI_clamp, bz_0, bz_1, q_bzb, b_0, b_1, b_ft, b_tf, ne_eq, not_true_eq_false, not_false_eq_true, decide_true, decide_false, Bool.and_self, Bool.false_and, Bool.and_false, Bool.and_true, Bool.true_and, Bool.not_true, Bool.not_false, ↓reduceIte], ?_, fr_trans F2 (fr_trans (fr_pI _ _ (Or.inr (Or.inr rfl))) (fr_pI _ _ (Or.inr (Or.inl ⟨rfl, Or.inr rfl⟩))))⟩
        · rw [step, hsame, bX11_seek_23]
          simp (disch := first | omega | rfl | assumption) only [bX11_seek_30, bX11_seek_31, show (nI 0 ≤ mI) = False from by decide, m1.1 45 rfl, q1', bX11_seek_50, m2.1 45 rfl, bX11_seek_66, bX11_seek_69, bX11_seek_71, bX11_seek_124, q_cl, q_ps, q_pn, bI_t, bI_f, gI_same, gI_ne, gR_pI, gJ_pI, gV_pI, gN_pI, gC_pI, gS_pI, gI_pJ, gR_pJ, gV_pJ, gN_pJ, gJ_same, gJ_ne, gI_pR, gJ_pR, gV_pR, gN_pR, gR_same, gR_ne, zin_t, zin_f, x_ltt, x_ltf, x_let, x_lef, x_eqt, x_eqf, n_0, n_1, n_2, n_3, n_4, n_5, n_6, n_7, n_8, n_9, n_10, n_11, n_12, n_16, n_19, n_20, n_24, n_25, n_32, n_40, n_48, n_50, n_60, n_64, n_80, n_96, n_114, n_684, n_1000, n_9330, n_16806, n_1000000, n_5764800, ↓n_m, m_ltI, m_leI, m_lt', m_le', m_eq, m_eq', m_add, m_sub, mm_lt, mm_le, mm_eq, q_sub, nI_add, q_mul, nI_clamp, bz_0, bz_1, q_bzb, b_0, b_1, b_ft, b_tf, ne_eq, not_true_eq_false, not_false_eq_true, decide_true, decide_false, Bool.and_self, Bool.false_and, Bool.and_false, Bool.and_true, Bool.true_and, Bool.not_true, Bool.not_false, ↓reduceIte]
        · rw [skR_one hsame hF]
          refine ⟨by simp (disch := first | omega | rfl | assumption) only [List.length_cons, List.length_nil, q_cl, q_ps, q_pn, bI_t, bI_f, gI_same, gI_ne, gR_pI, gJ_pI, gV_pI, gN_pI, gC_pI, gS_pI, gI_pJ, gR_pJ, gV_pJ, gN_pJ, gJ_same, gJ_ne, gI_pR, gJ_pR, gV_pR, gN_pR, gR_same, gR_ne, zin_t, zin_f, x_ltt, x_ltf, x_let, x_lef, x_eqt, x_eqf, n_0, n_1, n_2, n_3, n_4, n_5, n_6, n_7, n_8, n_9, n_10, n_11, n_12, n_16, n_19, n_20, n_24, n_25, n_32, n_40, n_48, n_50, n_60, n_64, n_80, n_96, n_114, n_684, n_1000, n_9330, n_16806, n_1000000, n_5764800, ↓n_m, m_ltI, m_leI, m_lt', m_le', m_eq, m_eq', m_add, m_sub, mm_lt, mm_le, mm_eq, q_sub, nI_add, q_mul, nI_clamp, bz_0, bz_1, q_bzb, b_0, b_1, b_ft, b_tf, ne_eq, not_true_eq_false, not_false_eq_true, decide_true, decide_false, Bool.and_self, Bool.false_and, Bool.and_false, Bool.and_true, Bool.true_and, Bool.not_true, Bool.not_false, ↓reduceIte], fun i s' z => ?_⟩
          have hi : i = 0 ∧ s = s' := by
            cases i with
            | zero => exact ⟨rfl, by simpa using z⟩
            | succ i => simp at z
          obtain ⟨rfl, rfl⟩ := hi
          exact ⟨hs684, by simp (disch := first | omega | rfl | assumption) only [q_cl, q_ps, q_pn, bI_t, bI_f, gI_same, gI_ne, gR_pI, gJ_pI, gV_pI, gN_pI, gC_pI, gS_pI, gI_pJ, gR_pJ, gV_pJ, gN_pJ, gJ_same, gJ_ne, gI_pR, gJ_pR, gV_pR, gN_pR, gR_same, gR_ne, zin_t, zin_f, x_ltt, x_ltf, x_let, x_lef, x_eqt, x_eqf, n_0, n_1, n_2, n_3, n_4, n_5, n_6, n_7, n_8, n_9, n_10, n_11, n_12, n_16, n_19, n_20, n_24, n_25, n_32, n_40, n_48, n_50, n_60, n_64, n_80, n_96, n_114, n_684, n_1000, n_9330, n_16806, n_1000000, n_5764800, ↓n_m, m_ltI, m_leI, m_lt', m_le', m_eq, m_eq', m_add, m_sub, mm_lt, mm_le, mm_eq, q_sub, nI_add, q_mul, nI_clamp, bz_0, bz_1, q_bzb, b_0, b_1, b_ft, b_tf, ne_eq, not_true_eq_false, not_false_eq_true, decide_true, decide_false, Bool.and_self, Bool.false_and, Bool.and_false, Bool.and_true, Bool.true_and, Bool.not_true, Bool.not_false, ↓reduceIte]⟩
      | none =>
        rw [hF] at q1
        have q1' : Rn (d + 9) 213 [z_R 49100 0] (pI h1 49100 0 44 mI) = some (some (z_I mI), h2) := q1
        have fC : fr pT3 h2 (pI (pI h2 2731 0 0 mI) 49100 0 44 mI) := fr_trans (fr_pI h2 _ (Or.inr (Or.inr rfl))) (fr_pI _ _ (Or.inr (Or.inl ⟨rfl, Or.inr rfl⟩)))
        have mC := mPr_fr fC m2
        obtain ⟨h3, r1, r2, r3, r4⟩ := m_sk_loop d 684 0 z_U (pI (pI h2 2731 0 0 mI) 49100 0 44 mI) (by omega) mC (by simp (disch := first | omega | rfl | assumption) only [q_cl, q_ps, q_pn, bI_t, bI_f, gI_same, gI_ne, gR_pI, gJ_pI, gV_pI, gN_pI, gC_pI, gS_pI, gI_pJ, gR_pJ, gV_pJ, gN_pJ, gJ_same, gJ_ne, gI_pR, gJ_pR, gV_pR, gN_pR, gR_same, gR_ne, zin_t, zin_f, x_ltt, x_ltf, x_let, x_lef, x_eqt, x_eqf, n_0, n_1, n_2, n_3, n_4, n_5, n_6, n_7, n_8, n_9, n_10, n_11, n_12, n_16, n_19, n_20, n_24, n_25, n_32, n_40, n_48, n_50, n_60, n_64, n_80, n_96, n_114, n_684, n_1000, n_9330, n_16806, n_1000000, n_5764800, ↓n_m, m_ltI, m_leI, m_lt', m_le', m_eq, m_eq', m_add, m_sub, mm_lt, mm_le, mm_eq, q_sub, nI_add, q_mul, nI_clamp, bz_0, bz_1, q_bzb, b_0, b_1, b_ft, b_tf, ne_eq, not_true_eq_false, not_false_eq_true, decide_true, decide_false, Bool.and_self, Bool.false_and, Bool.and_false, Bool.and_true, Bool.true_and, Bool.not_true, Bool.not_false, ↓reduceIte]) (fun j hj => by omega)
        have kC : gI (pI (pI h2 2731 0 0 mI) 49100 0 44 mI) 49100 0 23 = nI 1 := by simp (disch := first | omega | rfl | assumption) only [k2, q_cl, q_ps, q_pn, bI_t, bI_f, gI_same, gI_ne, gR_pI, gJ_pI, gV_pI, gN_pI, gC_pI, gS_pI, gI_pJ, gR_pJ, gV_pJ, gN_pJ, gJ_same, gJ_ne, gI_pR, gJ_pR, gV_pR, gN_pR, gR_same, gR_ne, zin_t, zin_f, x_ltt, x_ltf, x_let, x_lef, x_eqt, x_eqf, n_0, n_1, n_2, n_3, n_4, n_5, n_6, n_7, n_8, n_9, n_10, n_11, n_12, n_16, n_19, n_20, n_24, n_25, n_32, n_40, n_48, n_50, n_60, n_64, n_80, n_96, n_114, n_684, n_1000, n_9330, n_16806, n_1000000, n_5764800, ↓n_m, m_ltI, m_leI, m_lt', m_le', m_eq, m_eq', m_add, m_sub, mm_lt, mm_le, mm_eq, q_sub, nI_add, q_mul, nI_clamp, bz_0, bz_1, q_bzb, b_0, b_1, b_ft, b_tf, ne_eq, not_true_eq_false, not_false_eq_true, decide_true, decide_false, Bool.and_self, Bool.false_and, Bool.and_false, Bool.and_true, Bool.true_and, Bool.not_true, Bool.not_false, ↓reduceIte]
        have r1' : EX (d + 9) 216 71 [z_R 49100 0, z_I (nI 0), z_U] [] (pI (pI h2 2731 0 0 mI) 49100 0 44 mI) = some (none, h3) := r1
        refine ⟨h3, ?_, r2.trans kC, ?_, fr_trans F2 (fr_trans fC r3)⟩
        · rw [step, hsame, bX11_seek_23]
          simp (disch := first | omega | rfl | assumption) only [bX11_seek_30, bX11_seek_31, show (nI 0 ≤ mI) = False from by decide, m1.1 45 rfl, q1', bX11_seek_50, m2.1 45 rfl, mI_lt0, bX11_seek_65, bX11_seek_66, bX11_seek_69, q_cl, q_ps, q_pn, bI_t, bI_f, gI_same, gI_ne, gR_pI, gJ_pI, gV_pI, gN_pI, gC_pI, gS_pI, gI_pJ, gR_pJ, gV_pJ, gN_pJ, gJ_same, gJ_ne, gI_pR, gJ_pR, gV_pR, gN_pR, gR_same, gR_ne, zin_t, zin_f, x_ltt, x_ltf, x_let, x_lef, x_eqt, x_eqf, n_0, n_1, n_2, n_3, n_4, n_5, n_6, n_7, n_8, n_9, n_10, n_11, n_12, n_16, n_19, n_20, n_24, n_25, n_32, n_40, n_48, n_50, n_60, n_64, n_80, n_96, n_114, n_684, n_1000, n_9330, n_16806, n_1000000, n_5764800, ↓n_m, m_ltI, m_leI, m_lt', m_le', m_eq, m_eq', m_add, m_sub, mm_lt, mm_le, mm_eq, q_sub, nI_add, q_mul, nI_clamp, bz_0, bz_1, q_bzb, b_0, b_1, b_ft, b_tf, ne_eq, not_true_eq_false, not_false_eq_true, decide_true, decide_false, Bool.and_self, Bool.false_and, Bool.and_false, Bool.and_true, Bool.true_and, Bool.not_true, Bool.not_false, ↓reduceIte]
          exact r1'
        · rcases r4 with ⟨t1, t2⟩ | ⟨s, s2, t1, t2, t3, t4, t5, t6, t7⟩
          · rw [skR_none hsame hF t1]
            exact t2
          · rw [skR_two hsame hF t1 t2 t3 t4]
            have hs2 := (fnd_some.mp t4).2.1
            refine ⟨t5, fun i s' z => ?_⟩
            cases i with
            | zero =>
              have : s = s' := by simpa using z
              subst this
              exact ⟨t1, t6⟩
            | succ i =>
              cases i with
              | zero =>
                have : s2 = s' := by simpa using z
                subst this
                exact ⟨hs2, t7⟩
              | succ i => simp at z
  · refine ⟨h, ?_, hs, hsk, fr_rfl _ _⟩
    rw [rX11_seek, bX11_seek_0]
    simp (disch := first | omega | rfl | assumption) only [hs, q_cl, q_ps, q_pn, bI_t, bI_f, gI_same, gI_ne, gR_pI, gJ_pI, gV_pI, gN_pI, gC_pI, gS_pI, gI_pJ, gR_pJ, gV_pJ, gN_pJ, gJ_same, gJ_ne, gI_pR, gJ_pR, gV_pR, gN_pR, gR_same, gR_ne, zin_t, zin_f, x_ltt, x_ltf, x_let, x_lef, x_eqt, x_eqf, n_0, n_1, n_2, n_3, n_4, n_5, n_6, n_7, n_8, n_9, n_10, n_11, n_12, n_16, n_19, n_20, n_24, n_25, n_32, n_40, n_48, n_50, n_60, n_64, n_80, n_96, n_114, n_684, n_1000, n_9330, n_16806, n_1000000, n_5764800, ↓n_m, m_ltI, m_leI, m_lt', m_le', m_eq, m_eq', m_add, m_sub, mm_lt, mm_le, mm_eq, q_sub, nI_add, q_mul, nI_clamp, bz_0, bz_1, q_bzb, b_0, b_1, b_ft, b_tf, ne_eq, not_true_eq_false, not_false_eq_true, decide_true, decide_false, Bool.and_self, Bool.false_and, Bool.and_false, Bool.and_true, Bool.true_and, Bool.not_true, Bool.not_false, ↓reduceIte]
