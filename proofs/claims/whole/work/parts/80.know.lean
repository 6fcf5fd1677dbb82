/-! ===== what the reference knows and spreads ===== -/
def tM : Nat → Nat → Nat → Prop := fun p i k => tW p i k ∨ p = 8711 ∨ p = 8721
theorem tM_g : ∀ p i k, tM p i k → grp p i k ∈ [12] := by
  rintro p i k (z | rfl | rfl)
  · exact tW_g p i k z
  · exact (by decide : (12 : Nat) ∈ [12])
  · exact (by decide : (12 : Nat) ∈ [12])
theorem tM_tW {h h' : z_H} (f : fr tW h h') : fr tM h h' := fr_mono f (fun _ _ _ z => Or.inl z)
theorem mT_tM {h h' : z_H} (f : fr tM h h') {G : Gh} {mu : Nat} (m : mT h G mu) : mT h' G mu := mT_fr (frX_fr f tM_g) (by decide) (by decide) (by decide) (by decide) (by decide) m
theorem tM_no {p i k : Nat} (h : (p == 8681 || p == 16691 || (p == 49100 && k == 37) || p == 8711 || p == 8721) = false) : ¬ tM p i k := by
  rintro ((rfl | rfl | ⟨rfl, rfl⟩) | rfl | rfl) <;> simp at h
/-- what is known of matches, in the reference -/
def kn (h : z_H) (G : Gh) (nM : Nat) (K : Nat → Nat → Option (List Nat)) : Prop := nM ≤ 10 ∧ ∀ m, m < nM → ∀ t, t < gnT G → okO (K m t) ∧ gI h 80701 0 (8 * m + t) = numO (K m t)
theorem kn_tM {h h' : z_H} (f : fr tM h h') {G : Gh} {nM : Nat} {K : Nat → Nat → Option (List Nat)} (k : kn h G nM K) : kn h' G nM K := ⟨k.1, fun m hm t ht => ⟨(k.2 m hm t ht).1, (f.2 _ _ _ (tM_no rfl)).trans (k.2 m hm t ht).2⟩⟩
theorem m_learn_in (d : Nat) {nT nM nF : Nat} {fm ft fy : Nat → Nat} {fw : Nat → Option (List Nat)} (hT : nT ≤ 8) {y a : Nat} (hy : y < 1000) (ha : a < nM) : ∀ (r t : Nat) (h : z_H), t + r = nT → mOK h → gI h 49100 0 9 = nI nT → iFnG h nT nM nF fm ft fy fw →
    ∃ h', EX (d + 1) 193 12 [z_R 49100 0, z_I (nI y), z_I (nI a), z_I (nI t)] [] h = EX (d + 1) 193 44 [z_R 49100 0, z_I (nI y), z_I (nI a), z_I (nI nT)] [] h' ∧ (∀ u, t ≤ u → u < nT → gI h' 80701 0 (8 * a + u) = numO (knF fm ft fy fw a u y nF)) ∧ fr (fun p _ k => p = 80701 ∧ 8 * a + t ≤ k ∧ k < 8 * a + 8) h h' := by
  intro r
  induction r with
  | zero =>
    intro t h ht m e1 hF
    have : t = nT := by omega
    subst this
    refine ⟨h, ?_, fun u h1 h2 => by omega, fr_rfl _ _⟩
    rw [bX11_learns_12]
    simp (disch := first | omega | rfl | assumption) only [e1, q_cl, q_ps, q_pn, bI_t, bI_f, gI_same, gI_ne, gR_pI, gJ_pI, gV_pI, gN_pI, gC_pI, gS_pI, gI_pJ, gR_pJ, gV_pJ, gN_pJ, gJ_same, gJ_ne, gI_pR, gJ_pR, gV_pR, gN_pR, gR_same, gR_ne, zin_t, zin_f, x_ltt, x_ltf, x_let, x_lef, x_eqt, x_eqf, n_0, n_1, n_2, n_3, n_4, n_5, n_6, n_7, n_8, n_9, n_10, n_11, n_12, n_16, n_19, n_20, n_24, n_25, n_32, n_40, n_48, n_50, n_60, n_64, n_80, n_96, n_114, n_684, n_1000, n_9330, n_16806, n_1000000, n_5764800, ↓n_m, m_ltI, m_leI, m_lt', m_le', m_eq, m_eq', m_add, m_sub, mm_lt, mm_le, mm_eq, q_sub, nI_add, q_mul, nI_clamp, bz_0, bz_1, q_bzb, b_0, b_1, b_ft, b_tf, ne_eq, not_true_eq_false, not_false_eq_true, decide_true, decide_false, Bool.and_self, Bool.false_and, Bool.and_false, Bool.and_true, Bool.true_and, Bool.not_true, Bool.not_false, ↓reduceIte]
  | succ r ih =>
    intro t h ht m e1 hF
    have a10 := hF.1
    have f0 : fr (fun p _ k => p = 80701 ∧ 8 * a + t ≤ k ∧ k < 8 * a + 8) h (pI h 80701 0 (8 * a + t) (numO (knF fm ft fy fw a t y nF))) := fr_pI h _ ⟨rfl, Nat.le_refl _, by omega⟩
    obtain ⟨h', q1, q2, q3⟩ := ih (t + 1) _ (by omega) (fr_mOK f0 m) (by simp (disch := first | omega | rfl | assumption) only [e1, q_cl, q_ps, q_pn, bI_t, bI_f, gI_same, gI_ne, gR_pI, gJ_pI, gV_pI, gN_pI, gC_pI, gS_pI, gI_pJ, gR_pJ, gV_pJ, gN_pJ, gJ_same, gJ_ne, gI_pR, gJ_pR, gV_pR, gN_pR, gR_same, gR_ne, zin_t, zin_f, x_ltt, x_ltf, x_let, x_lef, x_eqt, x_eqf, n_0, n_1, n_2, n_3, n_4, n_5, n_6, n_7, n_8, n_9, n_10, n_11, n_12, n_16, n_19, n_20, n_24, n_25, n_32, n_40, n_48, n_50, n_60, n_64, n_80, n_96, n_114, n_684, n_1000, n_9330, n_16806, n_1000000, n_5764800, ↓n_m, m_ltI, m_leI, m_lt', m_le', m_eq, m_eq', m_add, m_sub, mm_lt, mm_le, mm_eq, q_sub, nI_add, q_mul, nI_clamp, bz_0, bz_1, q_bzb, b_0, b_1, b_ft, b_tf, ne_eq, not_true_eq_false, not_false_eq_true, decide_true, decide_false, Bool.and_self, Bool.false_and, Bool.and_false, Bool.and_true, Bool.true_and, Bool.not_true, Bool.not_false, ↓reduceIte]) (iFnG_fr (S := [12]) (frX_pI2 12 rfl (by decide) _ _) (by decide) hF)
    refine ⟨h', ?_, fun u h1 h2 => ?_, fr_trans f0 (fr_mono q3 (fun p j k z => ⟨z.1, by have := z.2.1; omega, z.2.2⟩))⟩
    · rw [bX11_learns_12]
      simp (disch := first | omega | rfl | assumption) only [e1, m 41 rfl, m_knownOf d m hT hF (show a < 10 by omega) (show t < 8 by omega) hy, bX11_learns_37, q_cl, q_ps, q_pn, bI_t, bI_f, gI_same, gI_ne, gR_pI, gJ_pI, gV_pI, gN_pI, gC_pI, gS_pI, gI_pJ, gR_pJ, gV_pJ, gN_pJ, gJ_same, gJ_ne, gI_pR, gJ_pR, gV_pR, gN_pR, gR_same, gR_ne, zin_t, zin_f, x_ltt, x_ltf, x_let, x_lef, x_eqt, x_eqf, n_0, n_1, n_2, n_3, n_4, n_5, n_6, n_7, n_8, n_9, n_10, n_11, n_12, n_16, n_19, n_20, n_24, n_25, n_32, n_40, n_48, n_50, n_60, n_64, n_80, n_96, n_114, n_684, n_1000, n_9330, n_16806, n_1000000, n_5764800, ↓n_m, m_ltI, m_leI, m_lt', m_le', m_eq, m_eq', m_add, m_sub, mm_lt, mm_le, mm_eq, q_sub, nI_add, q_mul, nI_clamp, bz_0, bz_1, q_bzb, b_0, b_1, b_ft, b_tf, ne_eq, not_true_eq_false, not_false_eq_true, decide_true, decide_false, Bool.and_self, Bool.false_and, Bool.and_false, Bool.and_true, Bool.true_and, Bool.not_true, Bool.not_false, ↓reduceIte]
      exact q1
    · by_cases e : u = t
      · subst e
        rw [q3.2 _ _ _ (fun z => by have := z.2.1; omega)]
        simp (disch := first | omega | rfl | assumption) only [q_cl, q_ps, q_pn, bI_t, bI_f, gI_same, gI_ne, gR_pI, gJ_pI, gV_pI, gN_pI, gC_pI, gS_pI, gI_pJ, gR_pJ, gV_pJ, gN_pJ, gJ_same, gJ_ne, gI_pR, gJ_pR, gV_pR, gN_pR, gR_same, gR_ne, zin_t, zin_f, x_ltt, x_ltf, x_let, x_lef, x_eqt, x_eqf, n_0, n_1, n_2, n_3, n_4, n_5, n_6, n_7, n_8, n_9, n_10, n_11, n_12, n_16, n_19, n_20, n_24, n_25, n_32, n_40, n_48, n_50, n_60, n_64, n_80, n_96, n_114, n_684, n_1000, n_9330, n_16806, n_1000000, n_5764800, ↓n_m, m_ltI, m_leI, m_lt', m_le', m_eq, m_eq', m_add, m_sub, mm_lt, mm_le, mm_eq, q_sub, nI_add, q_mul, nI_clamp, bz_0, bz_1, q_bzb, b_0, b_1, b_ft, b_tf, ne_eq, not_true_eq_false, not_false_eq_true, decide_true, decide_false, Bool.and_self, Bool.false_and, Bool.and_false, Bool.and_true, Bool.true_and, Bool.not_true, Bool.not_false, ↓reduceIte]
      · exact q2 u (by omega) h2
theorem m_learn_out (d : Nat) {nT nM nF : Nat} {fm ft fy : Nat → Nat} {fw : Nat → Option (List Nat)} (hT : nT ≤ 8) {y : Nat} (hy : y < 1000) : ∀ (r a : Nat) (u3 : z_V) (h : z_H), a + r = nM → mOK h → gI h 49100 0 9 = nI nT → iFnG h nT nM nF fm ft fy fw →
    ∃ h', EX (d + 1) 193 2 [z_R 49100 0, z_I (nI y), z_I (nI a), u3] [] h = some (none, h') ∧ (∀ b, a ≤ b → b < nM → ∀ u, u < nT → gI h' 80701 0 (8 * b + u) = numO (knF fm ft fy fw b u y nF)) ∧ fr (fun p _ k => p = 80701 ∧ 8 * a ≤ k) h h' := by
  intro r
  induction r with
  | zero =>
    intro a u3 h ha m e1 hF
    have : a = nM := by omega
    subst this
    refine ⟨h, ?_, fun u h1 h2 => by omega, fr_rfl _ _⟩
    have l1 := hF.1
    have l4 := hF.2.2.2.1
    rw [bX11_learns_2]
    simp (disch := first | omega | rfl | assumption) only [l4, bX11_learns_50, q_cl, q_ps, q_pn, bI_t, bI_f, gI_same, gI_ne, gR_pI, gJ_pI, gV_pI, gN_pI, gC_pI, gS_pI, gI_pJ, gR_pJ, gV_pJ, gN_pJ, gJ_same, gJ_ne, gI_pR, gJ_pR, gV_pR, gN_pR, gR_same, gR_ne, zin_t, zin_f, x_ltt, x_ltf, x_let, x_lef, x_eqt, x_eqf, n_0, n_1, n_2, n_3, n_4, n_5, n_6, n_7, n_8, n_9, n_10, n_11, n_12, n_16, n_19, n_20, n_24, n_25, n_32, n_40, n_48, n_50, n_60, n_64, n_80, n_96, n_114, n_684, n_1000, n_9330, n_16806, n_1000000, n_5764800, ↓n_m, m_ltI, m_leI, m_lt', m_le', m_eq, m_eq', m_add, m_sub, mm_lt, mm_le, mm_eq, q_sub, nI_add, q_mul, nI_clamp, bz_0, bz_1, q_bzb, b_0, b_1, b_ft, b_tf, ne_eq, not_true_eq_false, not_false_eq_true, decide_true, decide_false, Bool.and_self, Bool.false_and, Bool.and_false, Bool.and_true, Bool.true_and, Bool.not_true, Bool.not_false, ↓reduceIte]
  | succ r ih =>
    intro a u3 h ha m e1 hF
    have l1 := hF.1
    have l4 := hF.2.2.2.1
    obtain ⟨h1, p1, p2, p3⟩ := m_learn_in d hT hy (show a < nM by omega) nT 0 h (by omega) m e1 hF
    have F1 : frX [12] h h1 := frX_fr p3 (fun p i k q => by obtain ⟨rfl, -⟩ := q; exact (by decide : (12 : Nat) ∈ [12]))
    obtain ⟨h', q1, q2, q3⟩ := ih (a + 1) (z_I (nI nT)) h1 (by omega) (frX_mOK (by decide) F1 m) ((p3.2 _ _ _ (fun z => by have := z.1; omega)).trans e1) (iFnG_fr F1 (by decide) hF)
    refine ⟨h', ?_, fun b h1 h2 u hu => ?_, fr_trans (fr_mono p3 (fun p j k z => ⟨z.1, by have := z.2.1; omega⟩)) (fr_mono q3 (fun p j k z => ⟨z.1, by have := z.2; omega⟩))⟩
    · rw [bX11_learns_2]
      simp (disch := first | omega | rfl | assumption) only [l4, p1, bX11_learns_44, q_cl, q_ps, q_pn, bI_t, bI_f, gI_same, gI_ne, gR_pI, gJ_pI, gV_pI, gN_pI, gC_pI, gS_pI, gI_pJ, gR_pJ, gV_pJ, gN_pJ, gJ_same, gJ_ne, gI_pR, gJ_pR, gV_pR, gN_pR, gR_same, gR_ne, zin_t, zin_f, x_ltt, x_ltf, x_let, x_lef, x_eqt, x_eqf, n_0, n_1, n_2, n_3, n_4, n_5, n_6, n_7, n_8, n_9, n_10, n_11, n_12, n_16, n_19, n_20, n_24, n_25, n_32, n_40, n_48, n_50, n_60, n_64, n_80, n_96, n_114, n_684, n_1000, n_9330, n_16806, n_1000000, n_5764800, ↓n_m, m_ltI, m_leI, m_lt', m_le', m_eq, m_eq', m_add, m_sub, mm_lt, mm_le, mm_eq, q_sub, nI_add, q_mul, nI_clamp, bz_0, bz_1, q_bzb, b_0, b_1, b_ft, b_tf, ne_eq, not_true_eq_false, not_false_eq_true, decide_true, decide_false, Bool.and_self, Bool.false_and, Bool.and_false, Bool.and_true, Bool.true_and, Bool.not_true, Bool.not_false, ↓reduceIte]
      exact q1
    · by_cases e : b = a
      · subst e
        rw [q3.2 _ _ _ (fun z => by have := z.2; omega)]
        exact p2 u (Nat.zero_le _) hu
      · exact q2 b (by omega) h2 u hu
theorem m_learns (d : Nat) {h : z_H} {N : Nat} {xs : Nat → Int32} {G : Gh} {e : Int32} (hG : InvG h N xs G e) {nM nF : Nat} {fm ft fy : Nat → Nat} {fw : Nat → Option (List Nat)} (hF : iFnG h (gnT G) nM nF fm ft fy fw) {y : Nat} (hy : y < 1000) :
    ∃ h', Rn (d + 2) 193 [z_R 49100 0, z_I (nI y)] h = some (none, h') ∧ kn h' G nM (fun m t => knF fm ft fy fw m t y nF) ∧ mT h' G 0 ∧ frX [12] h h' := by
  have mt := mT_of hG
  obtain ⟨h', q1, q2, q3⟩ := m_learn_out d mt.1.2.2.2.1 hy nM 0 z_U h (by omega) mt.2.1 mt.2.2.2.2.2.1 hF
  have F : frX [12] h h' := frX_fr q3 (fun p i k q => by obtain ⟨rfl, -⟩ := q; exact (by decide : (12 : Nat) ∈ [12]))
  refine ⟨h', ?_, ⟨hF.1, fun m hm t ht => ⟨knF_ok nF (fun k hk => (hF.2.2.2.2.2.2.1 k hk).2.2.2.1), q2 m (Nat.zero_le _) hm t ht⟩⟩, mT_fr F (by decide) (by decide) (by decide) (by decide) (by decide) mt, F⟩
  rw [rX11_learns, bX11_learns_0]
  exact q1
/-- a stem is spread -/
def spr (h : z_H) (G : Gh) (mu : Nat) (w : List Nat) : Prop := ∀ t, t < gnT G → gI h 8711 0 t = nI (wN (frm G mu t w)) ∧ gI h 8721 0 t = nI (wN (wrt G mu t w))
theorem m_spread_loop (d : Nat) {G : Gh} {mu : Nat} (hmu : mu < 2 ^ 30) {w : List Nat} (hw : isW w) : ∀ (r t : Nat) (h : z_H), t + r = gnT G → mT h G mu → (∀ u, u < t → gI h 8711 0 u = nI (wN (frm G mu u w)) ∧ gI h 8721 0 u = nI (wN (wrt G mu u w))) →
    ∃ h', EX (d + 8) 194 2 [z_R 49100 0, z_I (nI (wN w)), z_I (nI t)] [] h = some (none, h') ∧ spr h' G mu w ∧ fr tM h h' := by
  intro r
  induction r with
  | zero =>
    intro t h ht m hs
    have : t = gnT G := by omega
    subst this
    have h8 := m.1.2.2.2.1
    refine ⟨h, ?_, hs, fr_rfl _ _⟩
    rw [bX11_spreads_2]
    simp (disch := first | omega | rfl | assumption) only [m.2.2.2.2.2.1, bX11_spreads_71, q_cl, q_ps, q_pn, bI_t, bI_f, gI_same, gI_ne, gR_pI, gJ_pI, gV_pI, gN_pI, gC_pI, gS_pI, gI_pJ, gR_pJ, gV_pJ, gN_pJ, gJ_same, gJ_ne, gI_pR, gJ_pR, gV_pR, gN_pR, gR_same, gR_ne, zin_t, zin_f, x_ltt, x_ltf, x_let, x_lef, x_eqt, x_eqf, n_0, n_1, n_2, n_3, n_4, n_5, n_6, n_7, n_8, n_9, n_10, n_11, n_12, n_16, n_19, n_20, n_24, n_25, n_32, n_40, n_48, n_50, n_60, n_64, n_80, n_96, n_114, n_684, n_1000, n_9330, n_16806, n_1000000, n_5764800, ↓n_m, m_ltI, m_leI, m_lt', m_le', m_eq, m_eq', m_add, m_sub, mm_lt, mm_le, mm_eq, q_sub, nI_add, q_mul, nI_clamp, bz_0, bz_1, q_bzb, b_0, b_1, b_ft, b_tf, ne_eq, not_true_eq_false, not_false_eq_true, decide_true, decide_false, Bool.and_self, Bool.false_and, Bool.and_false, Bool.and_true, Bool.true_and, Bool.not_true, Bool.not_false, ↓reduceIte]
  | succ r ih =>
    intro t h ht m hs
    have h8 := m.1.2.2.2.1
    have htn : t < gnT G := by omega
    obtain ⟨d2, d3, o3, d4⟩ := m.2.2.2.2.2.2.1 t htn
    have hab := (m.1.2.2.2.2.1 t).1
    have hfa := fa_ok m.1 mu (a := gab G t) (by omega) hw
    have hfl := wN_lt hfa
    obtain ⟨h1, e1, e2, e3⟩ := m_load (d + 7) m.2.1 hfa
    have m1 := mT_tW e3 m
    obtain ⟨h2, f1, f2, f3⟩ := m_runOwn (d + 1) htn hmu (k := 0) (Nat.zero_le _) m1 hfa e2
    have m2 := mT_tW f3 m1
    have hfr : ownR (gvV G) (gLF G) mu ((gow G t).drop 0) (fa G mu (gab G t) w) = frm G mu t w := (frm_eq G mu (fun t => (m.1.2.2.2.2.1 t).1) t w).symm
    rw [hfr] at f2
    have hfo := frm_ok m.1 mu t w htn hw
    have e7 := m_number (d + 7) m2.2.1 hfo f2
    have fA : fr tM h2 (pI h2 8711 0 t (nI (wN (frm G mu t w)))) := fr_pI h2 _ (Or.inr (Or.inl rfl))
    have mA := mT_tM fA m2
    have hWA : mW (pI h2 8711 0 t (nI (wN (frm G mu t w)))) (frm G mu t w) := ⟨by simp (disch := first | omega | rfl | assumption) only [f2.1, q_cl, q_ps, q_pn, bI_t, bI_f, gI_same, gI_ne, gR_pI, gJ_pI, gV_pI, gN_pI, gC_pI, gS_pI, gI_pJ, gR_pJ, gV_pJ, gN_pJ, gJ_same, gJ_ne, gI_pR, gJ_pR, gV_pR, gN_pR, gR_same, gR_ne, zin_t, zin_f, x_ltt, x_ltf, x_let, x_lef, x_eqt, x_eqf, n_0, n_1, n_2, n_3, n_4, n_5, n_6, n_7, n_8, n_9, n_10, n_11, n_12, n_16, n_19, n_20, n_24, n_25, n_32, n_40, n_48, n_50, n_60, n_64, n_80, n_96, n_114, n_684, n_1000, n_9330, n_16806, n_1000000, n_5764800, ↓n_m, m_ltI, m_leI, m_lt', m_le', m_eq, m_eq', m_add, m_sub, mm_lt, mm_le, mm_eq, q_sub, nI_add, q_mul, nI_clamp, bz_0, bz_1, q_bzb, b_0, b_1, b_ft, b_tf, ne_eq, not_true_eq_false, not_false_eq_true, decide_true, decide_false, Bool.and_self, Bool.false_and, Bool.and_false, Bool.and_true, Bool.true_and, Bool.not_true, Bool.not_false, ↓reduceIte], fun i x hx => by simp (disch := first | omega | rfl | assumption) only [f2.2 i x hx, q_cl, q_ps, q_pn, bI_t, bI_f, gI_same, gI_ne, gR_pI, gJ_pI, gV_pI, gN_pI, gC_pI, gS_pI, gI_pJ, gR_pJ, gV_pJ, gN_pJ, gJ_same, gJ_ne, gI_pR, gJ_pR, gV_pR, gN_pR, gR_same, gR_ne, zin_t, zin_f, x_ltt, x_ltf, x_let, x_lef, x_eqt, x_eqf, n_0, n_1, n_2, n_3, n_4, n_5, n_6, n_7, n_8, n_9, n_10, n_11, n_12, n_16, n_19, n_20, n_24, n_25, n_32, n_40, n_48, n_50, n_60, n_64, n_80, n_96, n_114, n_684, n_1000, n_9330, n_16806, n_1000000, n_5764800, ↓n_m, m_ltI, m_leI, m_lt', m_le', m_eq, m_eq', m_add, m_sub, mm_lt, mm_le, mm_eq, q_sub, nI_add, q_mul, nI_clamp, bz_0, bz_1, q_bzb, b_0, b_1, b_ft, b_tf, ne_eq, not_true_eq_false, not_false_eq_true, decide_true, decide_false, Bool.and_self, Bool.false_and, Bool.and_false, Bool.and_true, Bool.true_and, Bool.not_true, Bool.not_false, ↓reduceIte]⟩
    have e8 := m_writtenIn (d + 7) mA.2.1 (m.1.2.2.2.2.2 t htn).2.2 (show t < 8 by omega) (mA.2.2.2.2.2.2.1 t htn).2.2.2 hfo hWA
    have fB : fr tM h (pI (pI h2 8711 0 t (nI (wN (frm G mu t w)))) 8721 0 t (nI (wN (wrt G mu t w)))) := fr_trans (tM_tW (fr_trans e3 f3)) (fr_trans fA (fr_pI _ _ (Or.inr (Or.inr rfl))))
    obtain ⟨h', q1, q2, q3⟩ := ih (t + 1) (pI (pI h2 8711 0 t (nI (wN (frm G mu t w)))) 8721 0 t (nI (wN (wrt G mu t w)))) (by omega) (mT_tM fB m) (fun u hu => by
      by_cases e : u = t
      · subst e
        exact ⟨by simp (disch := first | omega | rfl | assumption) only [q_cl, q_ps, q_pn, bI_t, bI_f, gI_same, gI_ne, gR_pI, gJ_pI, gV_pI, gN_pI, gC_pI, gS_pI, gI_pJ, gR_pJ, gV_pJ, gN_pJ, gJ_same, gJ_ne, gI_pR, gJ_pR, gV_pR, gN_pR, gR_same, gR_ne, zin_t, zin_f, x_ltt, x_ltf, x_let, x_lef, x_eqt, x_eqf, n_0, n_1, n_2, n_3, n_4, n_5, n_6, n_7, n_8, n_9, n_10, n_11, n_12, n_16, n_19, n_20, n_24, n_25, n_32, n_40, n_48, n_50, n_60, n_64, n_80, n_96, n_114, n_684, n_1000, n_9330, n_16806, n_1000000, n_5764800, ↓n_m, m_ltI, m_leI, m_lt', m_le', m_eq, m_eq', m_add, m_sub, mm_lt, mm_le, mm_eq, q_sub, nI_add, q_mul, nI_clamp, bz_0, bz_1, q_bzb, b_0, b_1, b_ft, b_tf, ne_eq, not_true_eq_false, not_false_eq_true, decide_true, decide_false, Bool.and_self, Bool.false_and, Bool.and_false, Bool.and_true, Bool.true_and, Bool.not_true, Bool.not_false, ↓reduceIte], by simp (disch := first | omega | rfl | assumption) only [q_cl, q_ps, q_pn, bI_t, bI_f, gI_same, gI_ne, gR_pI, gJ_pI, gV_pI, gN_pI, gC_pI, gS_pI, gI_pJ, gR_pJ, gV_pJ, gN_pJ, gJ_same, gJ_ne, gI_pR, gJ_pR, gV_pR, gN_pR, gR_same, gR_ne, zin_t, zin_f, x_ltt, x_ltf, x_let, x_lef, x_eqt, x_eqf, n_0, n_1, n_2, n_3, n_4, n_5, n_6, n_7, n_8, n_9, n_10, n_11, n_12, n_16, n_19, n_20, n_24, n_25, n_32, n_40, n_48, n_50, n_60, n_64, n_80, n_96, n_114, n_684, n_1000, n_9330, n_16806, n_1000000, n_5764800, ↓n_m, m_ltI, m_leI, m_lt', m_le', m_eq, m_eq', m_add, m_sub, mm_lt, mm_le, mm_eq, q_sub, nI_add, q_mul, nI_clamp, bz_0, bz_1, q_bzb, b_0, b_1, b_ft, b_tf, ne_eq, not_true_eq_false, not_false_eq_true, decide_true, decide_false, Bool.and_self, Bool.false_and, Bool.and_false, Bool.and_true, Bool.true_and, Bool.not_true, Bool.not_false, ↓reduceIte]⟩
      · obtain ⟨s1, s2⟩ := hs u (by omega)
        have k1 : ∀ p i k, p ≠ 8681 → p ≠ 16691 → p ≠ 49100 → gI h2 p i k = gI h p i k := fun p i k n1 n2 n3 => (fr_trans e3 f3).2 p i k (fun z => by rcases z with z | z | ⟨z, _⟩ <;> omega)
        exact ⟨by simp (disch := first | omega | rfl | assumption) only [k1, s1, q_cl, q_ps, q_pn, bI_t, bI_f, gI_same, gI_ne, gR_pI, gJ_pI, gV_pI, gN_pI, gC_pI, gS_pI, gI_pJ, gR_pJ, gV_pJ, gN_pJ, gJ_same, gJ_ne, gI_pR, gJ_pR, gV_pR, gN_pR, gR_same, gR_ne, zin_t, zin_f, x_ltt, x_ltf, x_let, x_lef, x_eqt, x_eqf, n_0, n_1, n_2, n_3, n_4, n_5, n_6, n_7, n_8, n_9, n_10, n_11, n_12, n_16, n_19, n_20, n_24, n_25, n_32, n_40, n_48, n_50, n_60, n_64, n_80, n_96, n_114, n_684, n_1000, n_9330, n_16806, n_1000000, n_5764800, ↓n_m, m_ltI, m_leI, m_lt', m_le', m_eq, m_eq', m_add, m_sub, mm_lt, mm_le, mm_eq, q_sub, nI_add, q_mul, nI_clamp, bz_0, bz_1, q_bzb, b_0, b_1, b_ft, b_tf, ne_eq, not_true_eq_false, not_false_eq_true, decide_true, decide_false, Bool.and_self, Bool.false_and, Bool.and_false, Bool.and_true, Bool.true_and, Bool.not_true, Bool.not_false, ↓reduceIte], by simp (disch := first | omega | rfl | assumption) only [k1, s2, q_cl, q_ps, q_pn, bI_t, bI_f, gI_same, gI_ne, gR_pI, gJ_pI, gV_pI, gN_pI, gC_pI, gS_pI, gI_pJ, gR_pJ, gV_pJ, gN_pJ, gJ_same, gJ_ne, gI_pR, gJ_pR, gV_pR, gN_pR, gR_same, gR_ne, zin_t, zin_f, x_ltt, x_ltf, x_let, x_lef, x_eqt, x_eqf, n_0, n_1, n_2, n_3, n_4, n_5, n_6, n_7, n_8, n_9, n_10, n_11, n_12, n_16, n_19, n_20, n_24, n_25, n_32, n_40, n_48, n_50, n_60, n_64, n_80, n_96, n_114, n_684, n_1000, n_9330, n_16806, n_1000000, n_5764800, ↓n_m, m_ltI, m_leI, m_lt', m_le', m_eq, m_eq', m_add, m_sub, mm_lt, mm_le, mm_eq, q_sub, nI_add, q_mul, nI_clamp, bz_0, bz_1, q_bzb, b_0, b_1, b_ft, b_tf, ne_eq, not_true_eq_false, not_false_eq_true, decide_true, decide_false, Bool.and_self, Bool.false_and, Bool.and_false, Bool.and_true, Bool.true_and, Bool.not_true, Bool.not_false, ↓reduceIte]⟩)
    refine ⟨h', ?_, q2, fr_trans fB q3⟩
    rw [bX11_spreads_2]
    by_cases h0 : gab G t = 0
    · have e0 : fa G mu (gab G t) w = w := by rw [h0]; rfl
      rw [e0] at e1
      have d2' : gI h 8491 0 t = mI := by rw [d2, h0]; rfl
      simp (disch := first | omega | rfl | assumption) only [m.2.2.2.2.2.1, m.2.1 10 rfl, d2', bX11_spreads_35, e1, bX11_spreads_38, f1, bX11_spreads_44, m2.2.1 42 rfl, e7, bX11_spreads_53, m2.2.1 43 rfl, e8, bX11_spreads_64, q_cl, q_ps, q_pn, bI_t, bI_f, gI_same, gI_ne, gR_pI, gJ_pI, gV_pI, gN_pI, gC_pI, gS_pI, gI_pJ, gR_pJ, gV_pJ, gN_pJ, gJ_same, gJ_ne, gI_pR, gJ_pR, gV_pR, gN_pR, gR_same, gR_ne, zin_t, zin_f, x_ltt, x_ltf, x_let, x_lef, x_eqt, x_eqf, n_0, n_1, n_2, n_3, n_4, n_5, n_6, n_7, n_8, n_9, n_10, n_11, n_12, n_16, n_19, n_20, n_24, n_25, n_32, n_40, n_48, n_50, n_60, n_64, n_80, n_96, n_114, n_684, n_1000, n_9330, n_16806, n_1000000, n_5764800, ↓n_m, m_ltI, m_leI, m_lt', m_le', m_eq, m_eq', m_add, m_sub, mm_lt, mm_le, mm_eq, q_sub, nI_add, q_mul, nI_clamp, bz_0, bz_1, q_bzb, b_0, b_1, b_ft, b_tf, ne_eq, not_true_eq_false, not_false_eq_true, decide_true, decide_false, Bool.and_self, Bool.false_and, Bool.and_false, Bool.and_true, Bool.true_and, Bool.not_true, Bool.not_false, ↓reduceIte]
      exact q1
    · have d2' : gI h 8491 0 t = nI (gab G t - 1) := by rw [d2, mkI_pos (by omega)]
      have e0 : fa G mu (gab G t) w = frm G mu (gab G t - 1) w := if_neg h0
      have s1 := (hs (gab G t - 1) (by omega)).1
      rw [e0] at e1
      simp (disch := first | omega | rfl | assumption) only [m.2.2.2.2.2.1, m.2.1 10 rfl, m.2.1 42 rfl, d2', bX11_spreads_24, s1, bX11_spreads_35, e1, bX11_spreads_38, f1, bX11_spreads_44, m2.2.1 42 rfl, e7, bX11_spreads_53, m2.2.1 43 rfl, e8, bX11_spreads_64, q_cl, q_ps, q_pn, bI_t, bI_f, gI_same, gI_ne, gR_pI, gJ_pI, gV_pI, gN_pI, gC_pI, gS_pI, gI_pJ, gR_pJ, gV_pJ, gN_pJ, gJ_same, gJ_ne, gI_pR, gJ_pR, gV_pR, gN_pR, gR_same, gR_ne, zin_t, zin_f, x_ltt, x_ltf, x_let, x_lef, x_eqt, x_eqf, n_0, n_1, n_2, n_3, n_4, n_5, n_6, n_7, n_8, n_9, n_10, n_11, n_12, n_16, n_19, n_20, n_24, n_25, n_32, n_40, n_48, n_50, n_60, n_64, n_80, n_96, n_114, n_684, n_1000, n_9330, n_16806, n_1000000, n_5764800, ↓n_m, m_ltI, m_leI, m_lt', m_le', m_eq, m_eq', m_add, m_sub, mm_lt, mm_le, mm_eq, q_sub, nI_add, q_mul, nI_clamp, bz_0, bz_1, q_bzb, b_0, b_1, b_ft, b_tf, ne_eq, not_true_eq_false, not_false_eq_true, decide_true, decide_false, Bool.and_self, Bool.false_and, Bool.and_false, Bool.and_true, Bool.true_and, Bool.not_true, Bool.not_false, ↓reduceIte]
      exact q1
theorem m_spreads (d : Nat) {G : Gh} {mu : Nat} (hmu : mu < 2 ^ 30) {w : List Nat} (hw : isW w) {h : z_H} (m : mT h G mu) : ∃ h', Rn (d + 9) 194 [z_R 49100 0, z_I (nI (wN w))] h = some (none, h') ∧ spr h' G mu w ∧ fr tM h h' := by
  obtain ⟨h', q1, q2⟩ := m_spread_loop d hmu hw (gnT G) 0 h (by omega) m (fun u hu => by omega)
  refine ⟨h', ?_, q2⟩
  rw [rX11_spreads, bX11_spreads_0]
  exact q1
theorem num_eq {o : Option (List Nat)} {w : List Nat} (ho : okO o) (hw : isW w) : (o = none ∧ numO o = mI) ∨ (∃ v, o = some v ∧ numO o = nI (wN v) ∧ wN v < 5764801 ∧ ((wN v = wN w) ↔ o = some w)) := by
  cases o with
  | none => exact Or.inl ⟨rfl, rfl⟩
  | some v =>
    have hv := ho v rfl
    refine Or.inr ⟨v, rfl, rfl, wN_lt hv, ⟨fun z => by rw [wN_inj hv hw z], fun z => by rw [Option.some.inj z]⟩⟩
theorem mI_lt0 : (mI < nI 0) = True := eq_true (by decide)
theorem m_mo_loop (d : Nat) {h : z_H} {G : Gh} {mu nM a s : Nat} {K : Nat → Nat → Option (List Nat)} (m : mT h G mu) (k : kn h G nM K) (hs : spr h G mu (stW s)) (hsW : isW (stW s)) (ha : a < nM) : ∀ (r t : Nat) (u : z_V), t + r = gnT G →
    EX d 195 4 [z_R 49100 0, z_I (nI a), z_I (bI (moB G mu (K a) s t)), z_I (nI t), u] [] h = some (some (z_I (bI (moB G mu (K a) s (gnT G)))), h) := by
  have h8 := m.1.2.2.2.1
  have h10 := k.1
  intro r
  induction r with
  | zero =>
    intro t u ht
    have : t = gnT G := by omega
    subst this
    rw [bX11_isMother_4]
    simp (disch := first | omega | rfl | assumption) only [m.2.2.2.2.2.1, bX11_isMother_57, q_cl, q_ps, q_pn, bI_t, bI_f, gI_same, gI_ne, gR_pI, gJ_pI, gV_pI, gN_pI, gC_pI, gS_pI, gI_pJ, gR_pJ, gV_pJ, gN_pJ, gJ_same, gJ_ne, gI_pR, gJ_pR, gV_pR, gN_pR, gR_same, gR_ne, zin_t, zin_f, x_ltt, x_ltf, x_let, x_lef, x_eqt, x_eqf, n_0, n_1, n_2, n_3, n_4, n_5, n_6, n_7, n_8, n_9, n_10, n_11, n_12, n_16, n_19, n_20, n_24, n_25, n_32, n_40, n_48, n_50, n_60, n_64, n_80, n_96, n_114, n_684, n_1000, n_9330, n_16806, n_1000000, n_5764800, ↓n_m, m_ltI, m_leI, m_lt', m_le', m_eq, m_eq', m_add, m_sub, mm_lt, mm_le, mm_eq, q_sub, nI_add, q_mul, nI_clamp, bz_0, bz_1, q_bzb, b_0, b_1, b_ft, b_tf, ne_eq, not_true_eq_false, not_false_eq_true, decide_true, decide_false, Bool.and_self, Bool.false_and, Bool.and_false, Bool.and_true, Bool.true_and, Bool.not_true, Bool.not_false, ↓reduceIte]
  | succ r ih =>
    intro t u ht
    have htn : t < gnT G := by omega
    have hwo := wrt_ok m.1 mu htn hsW
    have hwl := wN_lt hwo
    obtain ⟨ko, ke⟩ := k.2 a ha t htn
    have hse := (hs t htn).2
    have e3 : moB G mu (K a) s (t + 1) = (moB G mu (K a) s t && (decide (K a t = none) || decide (K a t = some (wrt G mu t (stW s))))) := rfl
    have ih1 := fun u => ih (t + 1) u (by omega)
    rw [e3] at ih1
    rw [bX11_isMother_4]
    cases hb : moB G mu (K a) s t with
    | false =>
      simp only [hb, Bool.false_and] at ih1
      simp (disch := first | omega | rfl | assumption) only [m.2.2.2.2.2.1, m.2.1 41 rfl, bX11_isMother_49, bX11_isMother_50, q_cl, q_ps, q_pn, bI_t, bI_f, gI_same, gI_ne, gR_pI, gJ_pI, gV_pI, gN_pI, gC_pI, gS_pI, gI_pJ, gR_pJ, gV_pJ, gN_pJ, gJ_same, gJ_ne, gI_pR, gJ_pR, gV_pR, gN_pR, gR_same, gR_ne, zin_t, zin_f, x_ltt, x_ltf, x_let, x_lef, x_eqt, x_eqf, n_0, n_1, n_2, n_3, n_4, n_5, n_6, n_7, n_8, n_9, n_10, n_11, n_12, n_16, n_19, n_20, n_24, n_25, n_32, n_40, n_48, n_50, n_60, n_64, n_80, n_96, n_114, n_684, n_1000, n_9330, n_16806, n_1000000, n_5764800, ↓n_m, m_ltI, m_leI, m_lt', m_le', m_eq, m_eq', m_add, m_sub, mm_lt, mm_le, mm_eq, q_sub, nI_add, q_mul, nI_clamp, bz_0, bz_1, q_bzb, b_0, b_1, b_ft, b_tf, ne_eq, not_true_eq_false, not_false_eq_true, decide_true, decide_false, Bool.and_self, Bool.false_and, Bool.and_false, Bool.and_true, Bool.true_and, Bool.not_true, Bool.not_false, ↓reduceIte]
      exact ih1 _
    | true =>
      simp only [hb, Bool.true_and] at ih1
      rcases num_eq ko hwo with ⟨o1, o2⟩ | ⟨v, o1, o2, o3, o4⟩
      · simp only [o1, decide_true, Bool.true_or] at ih1
        rw [o2] at ke
        simp (disch := first | omega | rfl | assumption) only [m.2.2.2.2.2.1, m.2.1 41 rfl, ke, mI_lt0, bX11_isMother_45, bX11_isMother_50, q_cl, q_ps, q_pn, bI_t, bI_f, gI_same, gI_ne, gR_pI, gJ_pI, gV_pI, gN_pI, gC_pI, gS_pI, gI_pJ, gR_pJ, gV_pJ, gN_pJ, gJ_same, gJ_ne, gI_pR, gJ_pR, gV_pR, gN_pR, gR_same, gR_ne, zin_t, zin_f, x_ltt, x_ltf, x_let, x_lef, x_eqt, x_eqf, n_0, n_1, n_2, n_3, n_4, n_5, n_6, n_7, n_8, n_9, n_10, n_11, n_12, n_16, n_19, n_20, n_24, n_25, n_32, n_40, n_48, n_50, n_60, n_64, n_80, n_96, n_114, n_684, n_1000, n_9330, n_16806, n_1000000, n_5764800, ↓n_m, m_ltI, m_leI, m_lt', m_le', m_eq, m_eq', m_add, m_sub, mm_lt, mm_le, mm_eq, q_sub, nI_add, q_mul, nI_clamp, bz_0, bz_1, q_bzb, b_0, b_1, b_ft, b_tf, ne_eq, not_true_eq_false, not_false_eq_true, decide_true, decide_false, Bool.and_self, Bool.false_and, Bool.and_false, Bool.and_true, Bool.true_and, Bool.not_true, Bool.not_false, ↓reduceIte]
        exact ih1 _
      · rw [o2] at ke
        have hn : ¬ K a t = none := fun z => by rw [o1] at z; cases z
        by_cases hq : wN v = wN (wrt G mu t (stW s))
        · simp only [o4.mp hq, decide_true, Bool.or_true] at ih1
          simp (disch := first | omega | rfl | assumption) only [m.2.2.2.2.2.1, m.2.1 41 rfl, m.2.1 43 rfl, ke, hse, hq, bX11_isMother_45, bX11_isMother_50, q_cl, q_ps, q_pn, bI_t, bI_f, gI_same, gI_ne, gR_pI, gJ_pI, gV_pI, gN_pI, gC_pI, gS_pI, gI_pJ, gR_pJ, gV_pJ, gN_pJ, gJ_same, gJ_ne, gI_pR, gJ_pR, gV_pR, gN_pR, gR_same, gR_ne, zin_t, zin_f, x_ltt, x_ltf, x_let, x_lef, x_eqt, x_eqf, n_0, n_1, n_2, n_3, n_4, n_5, n_6, n_7, n_8, n_9, n_10, n_11, n_12, n_16, n_19, n_20, n_24, n_25, n_32, n_40, n_48, n_50, n_60, n_64, n_80, n_96, n_114, n_684, n_1000, n_9330, n_16806, n_1000000, n_5764800, ↓n_m, m_ltI, m_leI, m_lt', m_le', m_eq, m_eq', m_add, m_sub, mm_lt, mm_le, mm_eq, q_sub, nI_add, q_mul, nI_clamp, bz_0, bz_1, q_bzb, b_0, b_1, b_ft, b_tf, ne_eq, not_true_eq_false, not_false_eq_true, decide_true, decide_false, Bool.and_self, Bool.false_and, Bool.and_false, Bool.and_true, Bool.true_and, Bool.not_true, Bool.not_false, ↓reduceIte]
          exact ih1 _
        · have hq2 : ¬ K a t = some (wrt G mu t (stW s)) := fun z => hq (o4.mpr z)
          simp only [hn, hq2, decide_false, Bool.or_false] at ih1
          simp (disch := first | omega | rfl | assumption) only [m.2.2.2.2.2.1, m.2.1 41 rfl, m.2.1 43 rfl, ke, hse, bX11_isMother_49, bX11_isMother_50, q_cl, q_ps, q_pn, bI_t, bI_f, gI_same, gI_ne, gR_pI, gJ_pI, gV_pI, gN_pI, gC_pI, gS_pI, gI_pJ, gR_pJ, gV_pJ, gN_pJ, gJ_same, gJ_ne, gI_pR, gJ_pR, gV_pR, gN_pR, gR_same, gR_ne, zin_t, zin_f, x_ltt, x_ltf, x_let, x_lef, x_eqt, x_eqf, n_0, n_1, n_2, n_3, n_4, n_5, n_6, n_7, n_8, n_9, n_10, n_11, n_12, n_16, n_19, n_20, n_24, n_25, n_32, n_40, n_48, n_50, n_60, n_64, n_80, n_96, n_114, n_684, n_1000, n_9330, n_16806, n_1000000, n_5764800, ↓n_m, m_ltI, m_leI, m_lt', m_le', m_eq, m_eq', m_add, m_sub, mm_lt, mm_le, mm_eq, q_sub, nI_add, q_mul, nI_clamp, bz_0, bz_1, q_bzb, b_0, b_1, b_ft, b_tf, ne_eq, not_true_eq_false, not_false_eq_true, decide_true, decide_false, Bool.and_self, Bool.false_and, Bool.and_false, Bool.and_true, Bool.true_and, Bool.not_true, Bool.not_false, ↓reduceIte]
          exact ih1 _
theorem m_isMother (d : Nat) {h : z_H} {G : Gh} {mu nM a s : Nat} {K : Nat → Nat → Option (List Nat)} (m : mT h G mu) (k : kn h G nM K) (hs : spr h G mu (stW s)) (hsW : isW (stW s)) (ha : a < nM) : Rn (d + 1) 195 [z_R 49100 0, z_I (nI a)] h = some (some (z_I (bI (moB G mu (K a) s (gnT G)))), h) := by
  rw [rX11_isMother, bX11_isMother_0]
  exact m_mo_loop d m k hs hsW ha (gnT G) 0 _ (by omega)
theorem m_ag_loop (d : Nat) {h : z_H} {G : Gh} {mu nM a s : Nat} {K : Nat → Nat → Option (List Nat)} (m : mT h G mu) (k : kn h G nM K) (hs : spr h G mu (stW s)) (hsW : isW (stW s)) (ha : a < nM) : ∀ (r t : Nat), t + r = gnT G →
    EX d 196 4 [z_R 49100 0, z_I (nI a), z_I (nI (fitC G mu (K a) s t)), z_I (nI t)] [] h = some (some (z_I (nI (fitC G mu (K a) s (gnT G)))), h) := by
  have h8 := m.1.2.2.2.1
  have h10 := k.1
  intro r
  induction r with
  | zero =>
    intro t ht
    have : t = gnT G := by omega
    subst this
    rw [bX11_agrees_4]
    simp (disch := first | omega | rfl | assumption) only [m.2.2.2.2.2.1, bX11_agrees_60, q_cl, q_ps, q_pn, bI_t, bI_f, gI_same, gI_ne, gR_pI, gJ_pI, gV_pI, gN_pI, gC_pI, gS_pI, gI_pJ, gR_pJ, gV_pJ, gN_pJ, gJ_same, gJ_ne, gI_pR, gJ_pR, gV_pR, gN_pR, gR_same, gR_ne, zin_t, zin_f, x_ltt, x_ltf, x_let, x_lef, x_eqt, x_eqf, n_0, n_1, n_2, n_3, n_4, n_5, n_6, n_7, n_8, n_9, n_10, n_11, n_12, n_16, n_19, n_20, n_24, n_25, n_32, n_40, n_48, n_50, n_60, n_64, n_80, n_96, n_114, n_684, n_1000, n_9330, n_16806, n_1000000, n_5764800, ↓n_m, m_ltI, m_leI, m_lt', m_le', m_eq, m_eq', m_add, m_sub, mm_lt, mm_le, mm_eq, q_sub, nI_add, q_mul, nI_clamp, bz_0, bz_1, q_bzb, b_0, b_1, b_ft, b_tf, ne_eq, not_true_eq_false, not_false_eq_true, decide_true, decide_false, Bool.and_self, Bool.false_and, Bool.and_false, Bool.and_true, Bool.true_and, Bool.not_true, Bool.not_false, ↓reduceIte]
  | succ r ih =>
    intro t ht
    have htn : t < gnT G := by omega
    have hwo := wrt_ok m.1 mu htn hsW
    have hwl := wN_lt hwo
    obtain ⟨ko, ke⟩ := k.2 a ha t htn
    have hse := (hs t htn).2
    have e3 : fitC G mu (K a) s (t + 1) = fitC G mu (K a) s t + (if K a t = some (wrt G mu t (stW s)) then 1 else 0) := rfl
    have ih1 := ih (t + 1) (by omega)
    rw [bX11_agrees_4]
    rcases num_eq ko hwo with ⟨o1, o2⟩ | ⟨v, o1, o2, o3, o4⟩
    · rw [o2] at ke
      rw [if_neg (fun z => by rw [o1] at z; cases z)] at e3
      rw [e3] at ih1
      simp (disch := first | omega | rfl | assumption) only [m.2.2.2.2.2.1, m.2.1 41 rfl, ke, mI_lt0, bX11_agrees_51, bX11_agrees_52, q_cl, q_ps, q_pn, bI_t, bI_f, gI_same, gI_ne, gR_pI, gJ_pI, gV_pI, gN_pI, gC_pI, gS_pI, gI_pJ, gR_pJ, gV_pJ, gN_pJ, gJ_same, gJ_ne, gI_pR, gJ_pR, gV_pR, gN_pR, gR_same, gR_ne, zin_t, zin_f, x_ltt, x_ltf, x_let, x_lef, x_eqt, x_eqf, n_0, n_1, n_2, n_3, n_4, n_5, n_6, n_7, n_8, n_9, n_10, n_11, n_12, n_16, n_19, n_20, n_24, n_25, n_32, n_40, n_48, n_50, n_60, n_64, n_80, n_96, n_114, n_684, n_1000, n_9330, n_16806, n_1000000, n_5764800, ↓n_m, m_ltI, m_leI, m_lt', m_le', m_eq, m_eq', m_add, m_sub, mm_lt, mm_le, mm_eq, q_sub, nI_add, q_mul, nI_clamp, bz_0, bz_1, q_bzb, b_0, b_1, b_ft, b_tf, ne_eq, not_true_eq_false, not_false_eq_true, decide_true, decide_false, Bool.and_self, Bool.false_and, Bool.and_false, Bool.and_true, Bool.true_and, Bool.not_true, Bool.not_false, ↓reduceIte]
      exact ih1
    · rw [o2] at ke
      by_cases hq : wN v = wN (wrt G mu t (stW s))
      · rw [if_pos (o4.mp hq)] at e3
        rw [e3] at ih1
        simp (disch := first | omega | rfl | assumption) only [m.2.2.2.2.2.1, m.2.1 41 rfl, m.2.1 43 rfl, ke, hse, hq, bX11_agrees_52, q_cl, q_ps, q_pn, bI_t, bI_f, gI_same, gI_ne, gR_pI, gJ_pI, gV_pI, gN_pI, gC_pI, gS_pI, gI_pJ, gR_pJ, gV_pJ, gN_pJ, gJ_same, gJ_ne, gI_pR, gJ_pR, gV_pR, gN_pR, gR_same, gR_ne, zin_t, zin_f, x_ltt, x_ltf, x_let, x_lef, x_eqt, x_eqf, n_0, n_1, n_2, n_3, n_4, n_5, n_6, n_7, n_8, n_9, n_10, n_11, n_12, n_16, n_19, n_20, n_24, n_25, n_32, n_40, n_48, n_50, n_60, n_64, n_80, n_96, n_114, n_684, n_1000, n_9330, n_16806, n_1000000, n_5764800, ↓n_m, m_ltI, m_leI, m_lt', m_le', m_eq, m_eq', m_add, m_sub, mm_lt, mm_le, mm_eq, q_sub, nI_add, q_mul, nI_clamp, bz_0, bz_1, q_bzb, b_0, b_1, b_ft, b_tf, ne_eq, not_true_eq_false, not_false_eq_true, decide_true, decide_false, Bool.and_self, Bool.false_and, Bool.and_false, Bool.and_true, Bool.true_and, Bool.not_true, Bool.not_false, ↓reduceIte]
        exact ih1
      · rw [if_neg (fun z => hq (o4.mpr z))] at e3
        rw [e3] at ih1
        simp (disch := first | omega | rfl | assumption) only [m.2.2.2.2.2.1, m.2.1 41 rfl, m.2.1 43 rfl, ke, hse, bX11_agrees_51, bX11_agrees_52, q_cl, q_ps, q_pn, bI_t, bI_f, gI_same, gI_ne, gR_pI, gJ_pI, gV_pI, gN_pI, gC_pI, gS_pI, gI_pJ, gR_pJ, gV_pJ, gN_pJ, gJ_same, gJ_ne, gI_pR, gJ_pR, gV_pR, gN_pR, gR_same, gR_ne, zin_t, zin_f, x_ltt, x_ltf, x_let, x_lef, x_eqt, x_eqf, n_0, n_1, n_2, n_3, n_4, n_5, n_6, n_7, n_8, n_9, n_10, n_11, n_12, n_16, n_19, n_20, n_24, n_25, n_32, n_40, n_48, n_50, n_60, n_64, n_80, n_96, n_114, n_684, n_1000, n_9330, n_16806, n_1000000, n_5764800, ↓n_m, m_ltI, m_leI, m_lt', m_le', m_eq, m_eq', m_add, m_sub, mm_lt, mm_le, mm_eq, q_sub, nI_add, q_mul, nI_clamp, bz_0, bz_1, q_bzb, b_0, b_1, b_ft, b_tf, ne_eq, not_true_eq_false, not_false_eq_true, decide_true, decide_false, Bool.and_self, Bool.false_and, Bool.and_false, Bool.and_true, Bool.true_and, Bool.not_true, Bool.not_false, ↓reduceIte]
        exact ih1
theorem m_agrees (d : Nat) {h : z_H} {G : Gh} {mu nM a s : Nat} {K : Nat → Nat → Option (List Nat)} (m : mT h G mu) (k : kn h G nM K) (hs : spr h G mu (stW s)) (hsW : isW (stW s)) (ha : a < nM) : Rn (d + 1) 196 [z_R 49100 0, z_I (nI a)] h = some (some (z_I (nI (fitC G mu (K a) s (gnT G)))), h) := by
  rw [rX11_agrees, bX11_agrees_0]
  exact m_ag_loop d m k hs hsW ha (gnT G) 0 (by omega)
/-- one stem more -/
theorem m_step (d : Nat) {h : z_H} {G : Gh} {nM a s : Nat} {K : Nat → Nat → Option (List Nat)} (m : mT h G 0) (k : kn h G nM K) (hs : s < 9330) (ha : a < nM) : ∃ h1, Rn (d + 9) 194 [z_R 49100 0, z_I (nI (stN s))] h = some (none, h1) ∧ Rn (d + 9) 195 [z_R 49100 0, z_I (nI a)] h1 = some (some (z_I (bI (moB G 0 (K a) s (gnT G)))), h1) ∧ Rn (d + 9) 196 [z_R 49100 0, z_I (nI a)] h1 = some (some (z_I (nI (fitC G 0 (K a) s (gnT G)))), h1) ∧ mT h1 G 0 ∧ kn h1 G nM K ∧ fr tM h h1 := by
  have hsW : isW (stW s) := st_isW (by omega)
  obtain ⟨h1, e1, e2, e3⟩ := m_spreads d (by decide) hsW m
  have m1 := mT_tM e3 m
  have k1 := kn_tM e3 k
  exact ⟨h1, e1, m_isMother (d + 8) m1 k1 e2 hsW ha, m_agrees (d + 8) m1 k1 e2 hsW ha, m1, k1, e3⟩
