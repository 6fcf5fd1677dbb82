/-! ===== the reference's waves; comes ===== -/
def mRd (h : z_H) (rd sh : Nat → Nat) : Prop := mOK h ∧ (∀ k, k < 64 → rd k < 10 ∧ gI h 64591 0 k = nI (rd k)) ∧ ∀ p, p < 8 → sh p ≤ 1000 ∧ gI h 8601 0 p = nI (sh p)
theorem pCom_g (w : Nat) : ∀ p i k, pCom w p i k → grp p i k ∈ [12] := by
  rintro p i k ⟨rfl, -⟩
  exact (by decide : (12 : Nat) ∈ [12])
theorem mRd_fr {h h' : z_H} (f : frX [12] h h') {rd sh : Nat → Nat} (m : mRd h rd sh) : mRd h' rd sh := ⟨frX_mOK (by decide) f m.1, fun k hk => ⟨(m.2.1 k hk).1, (f.1 _ _ _ (by exact (by decide : (7 : Nat) ∉ [12]))).trans (m.2.1 k hk).2⟩, fun p hp => ⟨(m.2.2 p hp).1, (f.1 _ _ _ (by exact (by decide : (7 : Nat) ∉ [12]))).trans (m.2.2 p hp).2⟩⟩
theorem m_isOpen (d : Nat) {h : z_H} {rd sh : Nat → Nat} (m : mRd h rd sh) {b y : Nat} (hb : b < 8) (hy : y < 2 ^ 31) : Rn (d + 1) 223 [z_R 49100 0, z_I (nI b), z_I (nI y)] h = some (some (z_I (bI (opn sh b y))), h) := by
  obtain ⟨s1, s2⟩ := m.2.2 b hb
  unfold opn
  by_cases h1 : sh b = 1000
  · have : (sh b == 1000 || decide (y < sh b)) = true := by simp [h1]
    rw [this]
    simp (disch := first | omega | rfl | assumption) only [bX11_isOpen_0, bX11_isOpen_22, bX11_isOpen_26, bX11_isOpen_27, rX11_isOpen, m.1 25 rfl, s2, h1, q_cl, q_ps, q_pn, bI_t, bI_f, gI_same, gI_ne, gR_pI, gJ_pI, gV_pI, gN_pI, gC_pI, gS_pI, gI_pJ, gR_pJ, gV_pJ, gN_pJ, gJ_same, gJ_ne, gI_pR, gJ_pR, gV_pR, gN_pR, gR_same, gR_ne, zin_t, zin_f, x_ltt, x_ltf, x_let, x_lef, x_eqt, x_eqf, n_0, n_1, n_2, n_3, n_4, n_5, n_6, n_7, n_8, n_9, n_10, n_11, n_12, n_16, n_19, n_20, n_24, n_25, n_32, n_40, n_48, n_50, n_60, n_64, n_80, n_96, n_114, n_684, n_1000, n_9330, n_16806, n_1000000, n_5764800, ↓n_m, m_ltI, m_leI, m_lt', m_le', m_eq, m_eq', m_add, m_sub, mm_lt, mm_le, mm_eq, q_sub, nI_add, q_mul, nI_clamp, bz_0, bz_1, q_bzb, b_0, b_1, b_ft, b_tf, ne_eq, not_true_eq_false, not_false_eq_true, decide_true, decide_false, Bool.and_self, Bool.false_and, Bool.and_false, Bool.and_true, Bool.true_and, Bool.not_true, Bool.not_false, ↓reduceIte]
  · by_cases h2 : y < sh b
    · have : (sh b == 1000 || decide (y < sh b)) = true := by simp [h2]
      rw [this]
      simp (disch := first | omega | rfl | assumption) only [bX11_isOpen_0, bX11_isOpen_22, bX11_isOpen_26, bX11_isOpen_27, rX11_isOpen, m.1 25 rfl, s2, q_cl, q_ps, q_pn, bI_t, bI_f, gI_same, gI_ne, gR_pI, gJ_pI, gV_pI, gN_pI, gC_pI, gS_pI, gI_pJ, gR_pJ, gV_pJ, gN_pJ, gJ_same, gJ_ne, gI_pR, gJ_pR, gV_pR, gN_pR, gR_same, gR_ne, zin_t, zin_f, x_ltt, x_ltf, x_let, x_lef, x_eqt, x_eqf, n_0, n_1, n_2, n_3, n_4, n_5, n_6, n_7, n_8, n_9, n_10, n_11, n_12, n_16, n_19, n_20, n_24, n_25, n_32, n_40, n_48, n_50, n_60, n_64, n_80, n_96, n_114, n_684, n_1000, n_9330, n_16806, n_1000000, n_5764800, ↓n_m, m_ltI, m_leI, m_lt', m_le', m_eq, m_eq', m_add, m_sub, mm_lt, mm_le, mm_eq, q_sub, nI_add, q_mul, nI_clamp, bz_0, bz_1, q_bzb, b_0, b_1, b_ft, b_tf, ne_eq, not_true_eq_false, not_false_eq_true, decide_true, decide_false, Bool.and_self, Bool.false_and, Bool.and_false, Bool.and_true, Bool.true_and, Bool.not_true, Bool.not_false, ↓reduceIte]
    · have : (sh b == 1000 || decide (y < sh b)) = false := by simp [h1, h2]
      rw [this]
      simp (disch := first | omega | rfl | assumption) only [bX11_isOpen_0, bX11_isOpen_22, bX11_isOpen_26, bX11_isOpen_27, rX11_isOpen, m.1 25 rfl, s2, q_cl, q_ps, q_pn, bI_t, bI_f, gI_same, gI_ne, gR_pI, gJ_pI, gV_pI, gN_pI, gC_pI, gS_pI, gI_pJ, gR_pJ, gV_pJ, gN_pJ, gJ_same, gJ_ne, gI_pR, gJ_pR, gV_pR, gN_pR, gR_same, gR_ne, zin_t, zin_f, x_ltt, x_ltf, x_let, x_lef, x_eqt, x_eqf, n_0, n_1, n_2, n_3, n_4, n_5, n_6, n_7, n_8, n_9, n_10, n_11, n_12, n_16, n_19, n_20, n_24, n_25, n_32, n_40, n_48, n_50, n_60, n_64, n_80, n_96, n_114, n_684, n_1000, n_9330, n_16806, n_1000000, n_5764800, ↓n_m, m_ltI, m_leI, m_lt', m_le', m_eq, m_eq', m_add, m_sub, mm_lt, mm_le, mm_eq, q_sub, nI_add, q_mul, nI_clamp, bz_0, bz_1, q_bzb, b_0, b_1, b_ft, b_tf, ne_eq, not_true_eq_false, not_false_eq_true, decide_true, decide_false, Bool.and_self, Bool.false_and, Bool.and_false, Bool.and_true, Bool.true_and, Bool.not_true, Bool.not_false, ↓reduceIte]
theorem mV_set {h : z_H} {w b y : Nat} {c : Nat → Nat} (hc : mV h w c) : mV (pI h 64751 0 (8 * w + b) (nI y)) w (fun p => if p = b then y else c p) := by
  intro p hp
  dsimp only
  by_cases e : p = b
  · subst e; rw [if_pos rfl]; simp (disch := first | omega | rfl | assumption) only [q_cl, q_ps, q_pn, bI_t, bI_f, gI_same, gI_ne, gR_pI, gJ_pI, gV_pI, gN_pI, gC_pI, gS_pI, gI_pJ, gR_pJ, gV_pJ, gN_pJ, gJ_same, gJ_ne, gI_pR, gJ_pR, gV_pR, gN_pR, gR_same, gR_ne, zin_t, zin_f, x_ltt, x_ltf, x_let, x_lef, x_eqt, x_eqf, n_0, n_1, n_2, n_3, n_4, n_5, n_6, n_7, n_8, n_9, n_10, n_11, n_12, n_16, n_19, n_20, n_24, n_25, n_32, n_40, n_48, n_50, n_60, n_64, n_80, n_96, n_114, n_684, n_1000, n_9330, n_16806, n_1000000, n_5764800, ↓n_m, m_ltI, m_leI, m_lt', m_le', m_eq, m_eq', m_add, m_sub, mm_lt, mm_le, mm_eq, q_sub, nI_add, q_mul, nI_clamp, bz_0, bz_1, q_bzb, b_0, b_1, b_ft, b_tf, ne_eq, not_true_eq_false, not_false_eq_true, decide_true, decide_false, Bool.and_self, Bool.false_and, Bool.and_false, Bool.and_true, Bool.true_and, Bool.not_true, Bool.not_false, ↓reduceIte]
  · rw [if_neg e]; simp (disch := first | omega | rfl | assumption) only [hc p hp, q_cl, q_ps, q_pn, bI_t, bI_f, gI_same, gI_ne, gR_pI, gJ_pI, gV_pI, gN_pI, gC_pI, gS_pI, gI_pJ, gR_pJ, gV_pJ, gN_pJ, gJ_same, gJ_ne, gI_pR, gJ_pR, gV_pR, gN_pR, gR_same, gR_ne, zin_t, zin_f, x_ltt, x_ltf, x_let, x_lef, x_eqt, x_eqf, n_0, n_1, n_2, n_3, n_4, n_5, n_6, n_7, n_8, n_9, n_10, n_11, n_12, n_16, n_19, n_20, n_24, n_25, n_32, n_40, n_48, n_50, n_60, n_64, n_80, n_96, n_114, n_684, n_1000, n_9330, n_16806, n_1000000, n_5764800, ↓n_m, m_ltI, m_leI, m_lt', m_le', m_eq, m_eq', m_add, m_sub, mm_lt, mm_le, mm_eq, q_sub, nI_add, q_mul, nI_clamp, bz_0, bz_1, q_bzb, b_0, b_1, b_ft, b_tf, ne_eq, not_true_eq_false, not_false_eq_true, decide_true, decide_false, Bool.and_self, Bool.false_and, Bool.and_false, Bool.and_true, Bool.true_and, Bool.not_true, Bool.not_false, ↓reduceIte]
theorem m_wv_b (d : Nat) {rd sh : Nat → Nat} {w a b : Nat} {c : Nat → Nat} (hw : w < 8) (ha : a < 8) (hb : b < 8) (hc1 : ∀ p, c p ≤ 1000000) (x3 x4 : Int32) (u7 : z_V) {h : z_H} (m : mRd h rd sh) (hc : mV h w c) :
    ∃ h' u, EX (d + 1) 224 94 [z_R 49100 0, z_I (nI w), z_I (nI (8 * w)), z_I x3, z_I x4, z_I (nI a), z_I (nI b), u7] [] h = EX (d + 1) 224 94 [z_R 49100 0, z_I (nI w), z_I (nI (8 * w)), z_I x3, z_I x4, z_I (nI a), z_I (nI (b + 1)), z_I u] [] h' ∧ mV h' w (arE rd sh a b c) ∧ fr (pCom w) h h' := by
  obtain ⟨r1, r2⟩ := m.2.1 (8 * a + b) (by omega)
  have ca := hc a ha
  have cb := hc b hb
  have la := hc1 a
  have lb := hc1 b
  by_cases h1 : c a < 1000000
  · by_cases h2 : rd (8 * a + b) = 0
    · refine ⟨h, nI (c a + rd (8 * a + b)), ?_, ?_, fr_rfl _ _⟩
      · rw [bX11_findWave_94]
        simp (disch := first | omega | rfl | assumption) only [m.1 47 rfl, m.1 24 rfl, ca, r2, h2, bX11_findWave_193, q_cl, q_ps, q_pn, bI_t, bI_f, gI_same, gI_ne, gR_pI, gJ_pI, gV_pI, gN_pI, gC_pI, gS_pI, gI_pJ, gR_pJ, gV_pJ, gN_pJ, gJ_same, gJ_ne, gI_pR, gJ_pR, gV_pR, gN_pR, gR_same, gR_ne, zin_t, zin_f, x_ltt, x_ltf, x_let, x_lef, x_eqt, x_eqf, n_0, n_1, n_2, n_3, n_4, n_5, n_6, n_7, n_8, n_9, n_10, n_11, n_12, n_16, n_19, n_20, n_24, n_25, n_32, n_40, n_48, n_50, n_60, n_64, n_80, n_96, n_114, n_684, n_1000, n_9330, n_16806, n_1000000, n_5764800, ↓n_m, m_ltI, m_leI, m_lt', m_le', m_eq, m_eq', m_add, m_sub, mm_lt, mm_le, mm_eq, q_sub, nI_add, q_mul, nI_clamp, bz_0, bz_1, q_bzb, b_0, b_1, b_ft, b_tf, ne_eq, not_true_eq_false, not_false_eq_true, decide_true, decide_false, Bool.and_self, Bool.false_and, Bool.and_false, Bool.and_true, Bool.true_and, Bool.not_true, Bool.not_false, ↓reduceIte]
      · rcases arE_cases rd sh a b c with ⟨_, z, _⟩ | ⟨_, e⟩
        · omega
        · rw [e]; exact hc
    · have ho := m_isOpen d m hb (y := c a + rd (8 * a + b)) (by omega)
      cases hop : opn sh b (c a + rd (8 * a + b)) with
      | false =>
        rw [hop] at ho
        refine ⟨h, nI (c a + rd (8 * a + b)), ?_, ?_, fr_rfl _ _⟩
        · rw [bX11_findWave_94]
          simp (disch := first | omega | rfl | assumption) only [m.1 47 rfl, m.1 24 rfl, ca, r2, ho, bX11_findWave_165, bX11_findWave_193, q_cl, q_ps, q_pn, bI_t, bI_f, gI_same, gI_ne, gR_pI, gJ_pI, gV_pI, gN_pI, gC_pI, gS_pI, gI_pJ, gR_pJ, gV_pJ, gN_pJ, gJ_same, gJ_ne, gI_pR, gJ_pR, gV_pR, gN_pR, gR_same, gR_ne, zin_t, zin_f, x_ltt, x_ltf, x_let, x_lef, x_eqt, x_eqf, n_0, n_1, n_2, n_3, n_4, n_5, n_6, n_7, n_8, n_9, n_10, n_11, n_12, n_16, n_19, n_20, n_24, n_25, n_32, n_40, n_48, n_50, n_60, n_64, n_80, n_96, n_114, n_684, n_1000, n_9330, n_16806, n_1000000, n_5764800, ↓n_m, m_ltI, m_leI, m_lt', m_le', m_eq, m_eq', m_add, m_sub, mm_lt, mm_le, mm_eq, q_sub, nI_add, q_mul, nI_clamp, bz_0, bz_1, q_bzb, b_0, b_1, b_ft, b_tf, ne_eq, not_true_eq_false, not_false_eq_true, decide_true, decide_false, Bool.and_self, Bool.false_and, Bool.and_false, Bool.and_true, Bool.true_and, Bool.not_true, Bool.not_false, ↓reduceIte]
        · rcases arE_cases rd sh a b c with ⟨_, _, z, _⟩ | ⟨_, e⟩
          · rw [hop] at z; cases z
          · rw [e]; exact hc
      | true =>
        rw [hop] at ho
        by_cases h3 : c a + rd (8 * a + b) < c b
        · have e : arE rd sh a b c = fun p => if p = b then c a + rd (8 * a + b) else c p := by
            unfold arE
            rw [if_pos ⟨h1, by omega, hop, h3⟩]
          refine ⟨pI h 64751 0 (8 * w + b) (nI (c a + rd (8 * a + b))), nI (c a + rd (8 * a + b)), ?_, by rw [e]; exact mV_set hc, fr_pI h _ ⟨rfl, by omega, by omega⟩⟩
          rw [bX11_findWave_94]
          simp (disch := first | omega | rfl | assumption) only [m.1 47 rfl, m.1 24 rfl, ca, r2, ho, bX11_findWave_165, cb, bX11_findWave_193, q_cl, q_ps, q_pn, bI_t, bI_f, gI_same, gI_ne, gR_pI, gJ_pI, gV_pI, gN_pI, gC_pI, gS_pI, gI_pJ, gR_pJ, gV_pJ, gN_pJ, gJ_same, gJ_ne, gI_pR, gJ_pR, gV_pR, gN_pR, gR_same, gR_ne, zin_t, zin_f, x_ltt, x_ltf, x_let, x_lef, x_eqt, x_eqf, n_0, n_1, n_2, n_3, n_4, n_5, n_6, n_7, n_8, n_9, n_10, n_11, n_12, n_16, n_19, n_20, n_24, n_25, n_32, n_40, n_48, n_50, n_60, n_64, n_80, n_96, n_114, n_684, n_1000, n_9330, n_16806, n_1000000, n_5764800, ↓n_m, m_ltI, m_leI, m_lt', m_le', m_eq, m_eq', m_add, m_sub, mm_lt, mm_le, mm_eq, q_sub, nI_add, q_mul, nI_clamp, bz_0, bz_1, q_bzb, b_0, b_1, b_ft, b_tf, ne_eq, not_true_eq_false, not_false_eq_true, decide_true, decide_false, Bool.and_self, Bool.false_and, Bool.and_false, Bool.and_true, Bool.true_and, Bool.not_true, Bool.not_false, ↓reduceIte]
        · refine ⟨h, nI (c a + rd (8 * a + b)), ?_, ?_, fr_rfl _ _⟩
          · rw [bX11_findWave_94]
            simp (disch := first | omega | rfl | assumption) only [m.1 47 rfl, m.1 24 rfl, ca, r2, ho, bX11_findWave_165, cb, bX11_findWave_193, q_cl, q_ps, q_pn, bI_t, bI_f, gI_same, gI_ne, gR_pI, gJ_pI, gV_pI, gN_pI, gC_pI, gS_pI, gI_pJ, gR_pJ, gV_pJ, gN_pJ, gJ_same, gJ_ne, gI_pR, gJ_pR, gV_pR, gN_pR, gR_same, gR_ne, zin_t, zin_f, x_ltt, x_ltf, x_let, x_lef, x_eqt, x_eqf, n_0, n_1, n_2, n_3, n_4, n_5, n_6, n_7, n_8, n_9, n_10, n_11, n_12, n_16, n_19, n_20, n_24, n_25, n_32, n_40, n_48, n_50, n_60, n_64, n_80, n_96, n_114, n_684, n_1000, n_9330, n_16806, n_1000000, n_5764800, ↓n_m, m_ltI, m_leI, m_lt', m_le', m_eq, m_eq', m_add, m_sub, mm_lt, mm_le, mm_eq, q_sub, nI_add, q_mul, nI_clamp, bz_0, bz_1, q_bzb, b_0, b_1, b_ft, b_tf, ne_eq, not_true_eq_false, not_false_eq_true, decide_true, decide_false, Bool.and_self, Bool.false_and, Bool.and_false, Bool.and_true, Bool.true_and, Bool.not_true, Bool.not_false, ↓reduceIte]
          · rcases arE_cases rd sh a b c with ⟨_, _, _, z, _⟩ | ⟨_, e⟩
            · omega
            · rw [e]; exact hc
  · refine ⟨h, nI (c a + rd (8 * a + b)), ?_, ?_, fr_rfl _ _⟩
    · rw [bX11_findWave_94]
      simp (disch := first | omega | rfl | assumption) only [m.1 47 rfl, m.1 24 rfl, ca, r2, bX11_findWave_193, q_cl, q_ps, q_pn, bI_t, bI_f, gI_same, gI_ne, gR_pI, gJ_pI, gV_pI, gN_pI, gC_pI, gS_pI, gI_pJ, gR_pJ, gV_pJ, gN_pJ, gJ_same, gJ_ne, gI_pR, gJ_pR, gV_pR, gN_pR, gR_same, gR_ne, zin_t, zin_f, x_ltt, x_ltf, x_let, x_lef, x_eqt, x_eqf, n_0, n_1, n_2, n_3, n_4, n_5, n_6, n_7, n_8, n_9, n_10, n_11, n_12, n_16, n_19, n_20, n_24, n_25, n_32, n_40, n_48, n_50, n_60, n_64, n_80, n_96, n_114, n_684, n_1000, n_9330, n_16806, n_1000000, n_5764800, ↓n_m, m_ltI, m_leI, m_lt', m_le', m_eq, m_eq', m_add, m_sub, mm_lt, mm_le, mm_eq, q_sub, nI_add, q_mul, nI_clamp, bz_0, bz_1, q_bzb, b_0, b_1, b_ft, b_tf, ne_eq, not_true_eq_false, not_false_eq_true, decide_true, decide_false, Bool.and_self, Bool.false_and, Bool.and_false, Bool.and_true, Bool.true_and, Bool.not_true, Bool.not_false, ↓reduceIte]
    · rcases arE_cases rd sh a b c with ⟨z, _⟩ | ⟨_, e⟩
      · omega
      · rw [e]; exact hc
theorem m_wv_in (d : Nat) {rd sh : Nat → Nat} {w a : Nat} {c : Nat → Nat} (hw : w < 8) (ha : a < 8) (hc1 : ∀ p, c p ≤ 1000000) (x3 x4 : Int32) : ∀ (r b : Nat) (u7 : z_V) (h : z_H), b + r = 8 → mRd h rd sh → mV h w (arB rd sh a b c) →
    ∃ h' u, EX (d + 1) 224 94 [z_R 49100 0, z_I (nI w), z_I (nI (8 * w)), z_I x3, z_I x4, z_I (nI a), z_I (nI b), u7] [] h = EX (d + 1) 224 199 [z_R 49100 0, z_I (nI w), z_I (nI (8 * w)), z_I x3, z_I x4, z_I (nI a), z_I (nI 8), u] [] h' ∧ mV h' w (arB rd sh a 8 c) ∧ fr (pCom w) h h' := by
  intro r
  induction r with
  | zero =>
    intro b u7 h hb m hc
    have : b = 8 := by omega
    subst this
    refine ⟨h, u7, ?_, hc, fr_rfl _ _⟩
    rw [bX11_findWave_94]
    simp (disch := first | omega | rfl | assumption) only [q_cl, q_ps, q_pn, bI_t, bI_f, gI_same, gI_ne, gR_pI, gJ_pI, gV_pI, gN_pI, gC_pI, gS_pI, gI_pJ, gR_pJ, gV_pJ, gN_pJ, gJ_same, gJ_ne, gI_pR, gJ_pR, gV_pR, gN_pR, gR_same, gR_ne, zin_t, zin_f, x_ltt, x_ltf, x_let, x_lef, x_eqt, x_eqf, n_0, n_1, n_2, n_3, n_4, n_5, n_6, n_7, n_8, n_9, n_10, n_11, n_12, n_16, n_19, n_20, n_24, n_25, n_32, n_40, n_48, n_50, n_60, n_64, n_80, n_96, n_114, n_684, n_1000, n_9330, n_16806, n_1000000, n_5764800, ↓n_m, m_ltI, m_leI, m_lt', m_le', m_eq, m_eq', m_add, m_sub, mm_lt, mm_le, mm_eq, q_sub, nI_add, q_mul, nI_clamp, bz_0, bz_1, q_bzb, b_0, b_1, b_ft, b_tf, ne_eq, not_true_eq_false, not_false_eq_true, decide_true, decide_false, Bool.and_self, Bool.false_and, Bool.and_false, Bool.and_true, Bool.true_and, Bool.not_true, Bool.not_false, ↓reduceIte]
  | succ r ih =>
    intro b u7 h hb m hc
    obtain ⟨h1, u, p1, p2, p3⟩ := m_wv_b d hw ha (show b < 8 by omega) (fun p => Nat.le_trans (arB_le rd sh a b c p) (hc1 p)) x3 x4 u7 m hc
    obtain ⟨h', u', q1, q2, q3⟩ := ih (b + 1) (z_I u) h1 (by omega) (mRd_fr (frX_fr p3 (pCom_g w)) m) p2
    exact ⟨h', u', p1.trans q1, q2, fr_trans p3 q3⟩
theorem m_wv_mid (d : Nat) {rd sh : Nat → Nat} {w : Nat} {c : Nat → Nat} (hw : w < 8) (hc1 : ∀ p, c p ≤ 1000000) (x3 x4 : Int32) : ∀ (r a : Nat) (u6 u7 : z_V) (h : z_H), a + r = 8 → mRd h rd sh → mV h w (arR rd sh a c) →
    ∃ h' v6 v7, EX (d + 1) 224 84 [z_R 49100 0, z_I (nI w), z_I (nI (8 * w)), z_I x3, z_I x4, z_I (nI a), u6, u7] [] h = EX (d + 1) 224 205 [z_R 49100 0, z_I (nI w), z_I (nI (8 * w)), z_I x3, z_I x4, z_I (nI 8), v6, v7] [] h' ∧ mV h' w (arR rd sh 8 c) ∧ fr (pCom w) h h' := by
  intro r
  induction r with
  | zero =>
    intro a u6 u7 h ha m hc
    have : a = 8 := by omega
    subst this
    refine ⟨h, u6, u7, ?_, hc, fr_rfl _ _⟩
    rw [bX11_findWave_84]
    simp (disch := first | omega | rfl | assumption) only [q_cl, q_ps, q_pn, bI_t, bI_f, gI_same, gI_ne, gR_pI, gJ_pI, gV_pI, gN_pI, gC_pI, gS_pI, gI_pJ, gR_pJ, gV_pJ, gN_pJ, gJ_same, gJ_ne, gI_pR, gJ_pR, gV_pR, gN_pR, gR_same, gR_ne, zin_t, zin_f, x_ltt, x_ltf, x_let, x_lef, x_eqt, x_eqf, n_0, n_1, n_2, n_3, n_4, n_5, n_6, n_7, n_8, n_9, n_10, n_11, n_12, n_16, n_19, n_20, n_24, n_25, n_32, n_40, n_48, n_50, n_60, n_64, n_80, n_96, n_114, n_684, n_1000, n_9330, n_16806, n_1000000, n_5764800, ↓n_m, m_ltI, m_leI, m_lt', m_le', m_eq, m_eq', m_add, m_sub, mm_lt, mm_le, mm_eq, q_sub, nI_add, q_mul, nI_clamp, bz_0, bz_1, q_bzb, b_0, b_1, b_ft, b_tf, ne_eq, not_true_eq_false, not_false_eq_true, decide_true, decide_false, Bool.and_self, Bool.false_and, Bool.and_false, Bool.and_true, Bool.true_and, Bool.not_true, Bool.not_false, ↓reduceIte]
  | succ r ih =>
    intro a u6 u7 h ha m hc
    obtain ⟨h1, u, p1, p2, p3⟩ := m_wv_in d hw (show a < 8 by omega) (fun p => Nat.le_trans (arR_le rd sh a c p) (hc1 p)) x3 x4 8 0 u7 h (by omega) m hc
    obtain ⟨h', v6, v7, q1, q2, q3⟩ := ih (a + 1) (z_I (nI 8)) u h1 (by omega) (mRd_fr (frX_fr p3 (pCom_g w)) m) p2
    refine ⟨h', v6, v7, ?_, q2, fr_trans p3 q3⟩
    rw [bX11_findWave_84]
    simp (disch := first | omega | rfl | assumption) only [p1, bX11_findWave_199, q_cl, q_ps, q_pn, bI_t, bI_f, gI_same, gI_ne, gR_pI, gJ_pI, gV_pI, gN_pI, gC_pI, gS_pI, gI_pJ, gR_pJ, gV_pJ, gN_pJ, gJ_same, gJ_ne, gI_pR, gJ_pR, gV_pR, gN_pR, gR_same, gR_ne, zin_t, zin_f, x_ltt, x_ltf, x_let, x_lef, x_eqt, x_eqf, n_0, n_1, n_2, n_3, n_4, n_5, n_6, n_7, n_8, n_9, n_10, n_11, n_12, n_16, n_19, n_20, n_24, n_25, n_32, n_40, n_48, n_50, n_60, n_64, n_80, n_96, n_114, n_684, n_1000, n_9330, n_16806, n_1000000, n_5764800, ↓n_m, m_ltI, m_leI, m_lt', m_le', m_eq, m_eq', m_add, m_sub, mm_lt, mm_le, mm_eq, q_sub, nI_add, q_mul, nI_clamp, bz_0, bz_1, q_bzb, b_0, b_1, b_ft, b_tf, ne_eq, not_true_eq_false, not_false_eq_true, decide_true, decide_false, Bool.and_self, Bool.false_and, Bool.and_false, Bool.and_true, Bool.true_and, Bool.not_true, Bool.not_false, ↓reduceIte]
    exact q1
theorem m_wv_out (d : Nat) {rd sh : Nat → Nat} {w : Nat} {I : Nat → Nat} (hw : w < 8) (hc1 : ∀ p, I p ≤ 1000000) (x3 : Int32) : ∀ (r n : Nat) (u5 u6 u7 : z_V) (h : z_H), n + r = 8 → mRd h rd sh → mV h w (arN rd sh n I) →
    ∃ h', EX (d + 1) 224 74 [z_R 49100 0, z_I (nI w), z_I (nI (8 * w)), z_I x3, z_I (nI n), u5, u6, u7] [] h = some (none, h') ∧ mV h' w (arN rd sh 8 I) ∧ fr (pCom w) h h' := by
  intro r
  induction r with
  | zero =>
    intro n u5 u6 u7 h hn m hc
    have : n = 8 := by omega
    subst this
    refine ⟨h, ?_, hc, fr_rfl _ _⟩
    rw [bX11_findWave_74]
    simp (disch := first | omega | rfl | assumption) only [bX11_findWave_211, q_cl, q_ps, q_pn, bI_t, bI_f, gI_same, gI_ne, gR_pI, gJ_pI, gV_pI, gN_pI, gC_pI, gS_pI, gI_pJ, gR_pJ, gV_pJ, gN_pJ, gJ_same, gJ_ne, gI_pR, gJ_pR, gV_pR, gN_pR, gR_same, gR_ne, zin_t, zin_f, x_ltt, x_ltf, x_let, x_lef, x_eqt, x_eqf, n_0, n_1, n_2, n_3, n_4, n_5, n_6, n_7, n_8, n_9, n_10, n_11, n_12, n_16, n_19, n_20, n_24, n_25, n_32, n_40, n_48, n_50, n_60, n_64, n_80, n_96, n_114, n_684, n_1000, n_9330, n_16806, n_1000000, n_5764800, ↓n_m, m_ltI, m_leI, m_lt', m_le', m_eq, m_eq', m_add, m_sub, mm_lt, mm_le, mm_eq, q_sub, nI_add, q_mul, nI_clamp, bz_0, bz_1, q_bzb, b_0, b_1, b_ft, b_tf, ne_eq, not_true_eq_false, not_false_eq_true, decide_true, decide_false, Bool.and_self, Bool.false_and, Bool.and_false, Bool.and_true, Bool.true_and, Bool.not_true, Bool.not_false, ↓reduceIte]
  | succ r ih =>
    intro n u5 u6 u7 h hn m hc
    have hle : ∀ p, arN rd sh n I p ≤ 1000000 := fun p => by
      have := arN_le rd sh I n 0 p
      rw [Nat.zero_add] at this
      exact Nat.le_trans this (hc1 p)
    obtain ⟨h1, v6, v7, p1, p2, p3⟩ := m_wv_mid d hw hle x3 (nI n) 8 0 u6 u7 h (by omega) m hc
    obtain ⟨h', q1, q2, q3⟩ := ih (n + 1) (z_I (nI 8)) v6 v7 h1 (by omega) (mRd_fr (frX_fr p3 (pCom_g w)) m) p2
    refine ⟨h', ?_, q2, fr_trans p3 q3⟩
    rw [bX11_findWave_74]
    simp (disch := first | omega | rfl | assumption) only [p1, bX11_findWave_205, q_cl, q_ps, q_pn, bI_t, bI_f, gI_same, gI_ne, gR_pI, gJ_pI, gV_pI, gN_pI, gC_pI, gS_pI, gI_pJ, gR_pJ, gV_pJ, gN_pJ, gJ_same, gJ_ne, gI_pR, gJ_pR, gV_pR, gN_pR, gR_same, gR_ne, zin_t, zin_f, x_ltt, x_ltf, x_let, x_lef, x_eqt, x_eqf, n_0, n_1, n_2, n_3, n_4, n_5, n_6, n_7, n_8, n_9, n_10, n_11, n_12, n_16, n_19, n_20, n_24, n_25, n_32, n_40, n_48, n_50, n_60, n_64, n_80, n_96, n_114, n_684, n_1000, n_9330, n_16806, n_1000000, n_5764800, ↓n_m, m_ltI, m_leI, m_lt', m_le', m_eq, m_eq', m_add, m_sub, mm_lt, mm_le, mm_eq, q_sub, nI_add, q_mul, nI_clamp, bz_0, bz_1, q_bzb, b_0, b_1, b_ft, b_tf, ne_eq, not_true_eq_false, not_false_eq_true, decide_true, decide_false, Bool.and_self, Bool.false_and, Bool.and_false, Bool.and_true, Bool.true_and, Bool.not_true, Bool.not_false, ↓reduceIte]
    exact q1
theorem m_wv_fill (d : Nat) {w : Nat} (hw : w < 8) (u4 u5 u6 u7 : z_V) : ∀ (r p : Nat) (h : z_H), p + r = 8 → mOK h → (∀ q, q < p → gI h 64751 0 (8 * w + q) = nI 1000000) →
    ∃ h', EX d 224 7 [z_R 49100 0, z_I (nI w), z_I (nI (8 * w)), z_I (nI p), u4, u5, u6, u7] [] h = EX d 224 30 [z_R 49100 0, z_I (nI w), z_I (nI (8 * w)), z_I (nI 8), u4, u5, u6, u7] [] h' ∧ mV h' w (fun _ => 1000000) ∧ fr (pCom w) h h' := by
  intro r
  induction r with
  | zero =>
    intro p h hp m hc
    have : p = 8 := by omega
    subst this
    refine ⟨h, ?_, hc, fr_rfl _ _⟩
    rw [bX11_findWave_7]
    simp (disch := first | omega | rfl | assumption) only [q_cl, q_ps, q_pn, bI_t, bI_f, gI_same, gI_ne, gR_pI, gJ_pI, gV_pI, gN_pI, gC_pI, gS_pI, gI_pJ, gR_pJ, gV_pJ, gN_pJ, gJ_same, gJ_ne, gI_pR, gJ_pR, gV_pR, gN_pR, gR_same, gR_ne, zin_t, zin_f, x_ltt, x_ltf, x_let, x_lef, x_eqt, x_eqf, n_0, n_1, n_2, n_3, n_4, n_5, n_6, n_7, n_8, n_9, n_10, n_11, n_12, n_16, n_19, n_20, n_24, n_25, n_32, n_40, n_48, n_50, n_60, n_64, n_80, n_96, n_114, n_684, n_1000, n_9330, n_16806, n_1000000, n_5764800, ↓n_m, m_ltI, m_leI, m_lt', m_le', m_eq, m_eq', m_add, m_sub, mm_lt, mm_le, mm_eq, q_sub, nI_add, q_mul, nI_clamp, bz_0, bz_1, q_bzb, b_0, b_1, b_ft, b_tf, ne_eq, not_true_eq_false, not_false_eq_true, decide_true, decide_false, Bool.and_self, Bool.false_and, Bool.and_false, Bool.and_true, Bool.true_and, Bool.not_true, Bool.not_false, ↓reduceIte]
  | succ r ih =>
    intro p h hp m hc
    have f0 : fr (pCom w) h (pI h 64751 0 (8 * w + p) (nI 1000000)) := fr_pI h _ ⟨rfl, by omega, by omega⟩
    obtain ⟨h', q1, q2, q3⟩ := ih (p + 1) (pI h 64751 0 (8 * w + p) (nI 1000000)) (by omega) (fr_mOK f0 m) (fun q hq => by
      by_cases e : q = p
      · subst e; simp (disch := first | omega | rfl | assumption) only [q_cl, q_ps, q_pn, bI_t, bI_f, gI_same, gI_ne, gR_pI, gJ_pI, gV_pI, gN_pI, gC_pI, gS_pI, gI_pJ, gR_pJ, gV_pJ, gN_pJ, gJ_same, gJ_ne, gI_pR, gJ_pR, gV_pR, gN_pR, gR_same, gR_ne, zin_t, zin_f, x_ltt, x_ltf, x_let, x_lef, x_eqt, x_eqf, n_0, n_1, n_2, n_3, n_4, n_5, n_6, n_7, n_8, n_9, n_10, n_11, n_12, n_16, n_19, n_20, n_24, n_25, n_32, n_40, n_48, n_50, n_60, n_64, n_80, n_96, n_114, n_684, n_1000, n_9330, n_16806, n_1000000, n_5764800, ↓n_m, m_ltI, m_leI, m_lt', m_le', m_eq, m_eq', m_add, m_sub, mm_lt, mm_le, mm_eq, q_sub, nI_add, q_mul, nI_clamp, bz_0, bz_1, q_bzb, b_0, b_1, b_ft, b_tf, ne_eq, not_true_eq_false, not_false_eq_true, decide_true, decide_false, Bool.and_self, Bool.false_and, Bool.and_false, Bool.and_true, Bool.true_and, Bool.not_true, Bool.not_false, ↓reduceIte]
      · simp (disch := first | omega | rfl | assumption) only [hc q (by omega), q_cl, q_ps, q_pn, bI_t, bI_f, gI_same, gI_ne, gR_pI, gJ_pI, gV_pI, gN_pI, gC_pI, gS_pI, gI_pJ, gR_pJ, gV_pJ, gN_pJ, gJ_same, gJ_ne, gI_pR, gJ_pR, gV_pR, gN_pR, gR_same, gR_ne, zin_t, zin_f, x_ltt, x_ltf, x_let, x_lef, x_eqt, x_eqf, n_0, n_1, n_2, n_3, n_4, n_5, n_6, n_7, n_8, n_9, n_10, n_11, n_12, n_16, n_19, n_20, n_24, n_25, n_32, n_40, n_48, n_50, n_60, n_64, n_80, n_96, n_114, n_684, n_1000, n_9330, n_16806, n_1000000, n_5764800, ↓n_m, m_ltI, m_leI, m_lt', m_le', m_eq, m_eq', m_add, m_sub, mm_lt, mm_le, mm_eq, q_sub, nI_add, q_mul, nI_clamp, bz_0, bz_1, q_bzb, b_0, b_1, b_ft, b_tf, ne_eq, not_true_eq_false, not_false_eq_true, decide_true, decide_false, Bool.and_self, Bool.false_and, Bool.and_false, Bool.and_true, Bool.true_and, Bool.not_true, Bool.not_false, ↓reduceIte])
    refine ⟨h', ?_, q2, fr_trans f0 q3⟩
    rw [bX11_findWave_7]
    simp (disch := first | omega | rfl | assumption) only [m 47 rfl, q_cl, q_ps, q_pn, bI_t, bI_f, gI_same, gI_ne, gR_pI, gJ_pI, gV_pI, gN_pI, gC_pI, gS_pI, gI_pJ, gR_pJ, gV_pJ, gN_pJ, gJ_same, gJ_ne, gI_pR, gJ_pR, gV_pR, gN_pR, gR_same, gR_ne, zin_t, zin_f, x_ltt, x_ltf, x_let, x_lef, x_eqt, x_eqf, n_0, n_1, n_2, n_3, n_4, n_5, n_6, n_7, n_8, n_9, n_10, n_11, n_12, n_16, n_19, n_20, n_24, n_25, n_32, n_40, n_48, n_50, n_60, n_64, n_80, n_96, n_114, n_684, n_1000, n_9330, n_16806, n_1000000, n_5764800, ↓n_m, m_ltI, m_leI, m_lt', m_le', m_eq, m_eq', m_add, m_sub, mm_lt, mm_le, mm_eq, q_sub, nI_add, q_mul, nI_clamp, bz_0, bz_1, q_bzb, b_0, b_1, b_ft, b_tf, ne_eq, not_true_eq_false, not_false_eq_true, decide_true, decide_false, Bool.and_self, Bool.false_and, Bool.and_false, Bool.and_true, Bool.true_and, Bool.not_true, Bool.not_false, ↓reduceIte]
    exact q1
theorem m_findWave (d : Nat) {h : z_H} {rd sh : Nat → Nat} (m : mRd h rd sh) {w p0 y0 : Nat} (hw : w < 8) (hp : p0 < 8) (hy : y0 < 1000) (e1 : gI h 8621 0 w = nI p0) (e2 : gI h 8631 0 w = nI y0) :
    ∃ h', Rn (d + 2) 224 [z_R 49100 0, z_I (nI w)] h = some (none, h') ∧ mV h' w (arr rd sh p0 y0) ∧ fr (pCom w) h h' := by
  obtain ⟨h1, p1, p2, p3⟩ := m_wv_fill (d + 1) hw z_U z_U z_U z_U 8 0 h (by omega) m.1 (fun q hq => by omega)
  have m1 := mRd_fr (frX_fr p3 (pCom_g w)) m
  have k1 : ∀ p i k, p ≠ 64751 → gI h1 p i k = gI h p i k := fun p i k q => p3.2 p i k (fun z => q z.1)
  have ho := m_isOpen d m1 hp (y := y0) (by omega)
  have hI : mV (pI h1 64751 0 (8 * w + p0) (if opn sh p0 y0 = true then nI y0 else nI 1000000)) w (arI sh p0 y0) := by
    intro p hp'
    unfold arI
    by_cases e : p = p0
    · subst e
      by_cases q : opn sh p y0 = true
      · rw [if_pos q, if_pos ⟨rfl, q⟩]; simp (disch := first | omega | rfl | assumption) only [q_cl, q_ps, q_pn, bI_t, bI_f, gI_same, gI_ne, gR_pI, gJ_pI, gV_pI, gN_pI, gC_pI, gS_pI, gI_pJ, gR_pJ, gV_pJ, gN_pJ, gJ_same, gJ_ne, gI_pR, gJ_pR, gV_pR, gN_pR, gR_same, gR_ne, zin_t, zin_f, x_ltt, x_ltf, x_let, x_lef, x_eqt, x_eqf, n_0, n_1, n_2, n_3, n_4, n_5, n_6, n_7, n_8, n_9, n_10, n_11, n_12, n_16, n_19, n_20, n_24, n_25, n_32, n_40, n_48, n_50, n_60, n_64, n_80, n_96, n_114, n_684, n_1000, n_9330, n_16806, n_1000000, n_5764800, ↓n_m, m_ltI, m_leI, m_lt', m_le', m_eq, m_eq', m_add, m_sub, mm_lt, mm_le, mm_eq, q_sub, nI_add, q_mul, nI_clamp, bz_0, bz_1, q_bzb, b_0, b_1, b_ft, b_tf, ne_eq, not_true_eq_false, not_false_eq_true, decide_true, decide_false, Bool.and_self, Bool.false_and, Bool.and_false, Bool.and_true, Bool.true_and, Bool.not_true, Bool.not_false, ↓reduceIte]
      · rw [if_neg q, if_neg (fun z => q z.2)]; simp (disch := first | omega | rfl | assumption) only [q_cl, q_ps, q_pn, bI_t, bI_f, gI_same, gI_ne, gR_pI, gJ_pI, gV_pI, gN_pI, gC_pI, gS_pI, gI_pJ, gR_pJ, gV_pJ, gN_pJ, gJ_same, gJ_ne, gI_pR, gJ_pR, gV_pR, gN_pR, gR_same, gR_ne, zin_t, zin_f, x_ltt, x_ltf, x_let, x_lef, x_eqt, x_eqf, n_0, n_1, n_2, n_3, n_4, n_5, n_6, n_7, n_8, n_9, n_10, n_11, n_12, n_16, n_19, n_20, n_24, n_25, n_32, n_40, n_48, n_50, n_60, n_64, n_80, n_96, n_114, n_684, n_1000, n_9330, n_16806, n_1000000, n_5764800, ↓n_m, m_ltI, m_leI, m_lt', m_le', m_eq, m_eq', m_add, m_sub, mm_lt, mm_le, mm_eq, q_sub, nI_add, q_mul, nI_clamp, bz_0, bz_1, q_bzb, b_0, b_1, b_ft, b_tf, ne_eq, not_true_eq_false, not_false_eq_true, decide_true, decide_false, Bool.and_self, Bool.false_and, Bool.and_false, Bool.and_true, Bool.true_and, Bool.not_true, Bool.not_false, ↓reduceIte]
    · rw [show (if p = p0 ∧ opn sh p0 y0 = true then y0 else 1000000) = 1000000 from if_neg (fun z => e z.1)]; simp (disch := first | omega | rfl | assumption) only [p2 p hp', q_cl, q_ps, q_pn, bI_t, bI_f, gI_same, gI_ne, gR_pI, gJ_pI, gV_pI, gN_pI, gC_pI, gS_pI, gI_pJ, gR_pJ, gV_pJ, gN_pJ, gJ_same, gJ_ne, gI_pR, gJ_pR, gV_pR, gN_pR, gR_same, gR_ne, zin_t, zin_f, x_ltt, x_ltf, x_let, x_lef, x_eqt, x_eqf, n_0, n_1, n_2, n_3, n_4, n_5, n_6, n_7, n_8, n_9, n_10, n_11, n_12, n_16, n_19, n_20, n_24, n_25, n_32, n_40, n_48, n_50, n_60, n_64, n_80, n_96, n_114, n_684, n_1000, n_9330, n_16806, n_1000000, n_5764800, ↓n_m, m_ltI, m_leI, m_lt', m_le', m_eq, m_eq', m_add, m_sub, mm_lt, mm_le, mm_eq, q_sub, nI_add, q_mul, nI_clamp, bz_0, bz_1, q_bzb, b_0, b_1, b_ft, b_tf, ne_eq, not_true_eq_false, not_false_eq_true, decide_true, decide_false, Bool.and_self, Bool.false_and, Bool.and_false, Bool.and_true, Bool.true_and, Bool.not_true, Bool.not_false, ↓reduceIte]
  have f2 : fr (pCom w) h1 (pI h1 64751 0 (8 * w + p0) (if opn sh p0 y0 = true then nI y0 else nI 1000000)) := fr_pI h1 _ ⟨rfl, by omega, by omega⟩
  obtain ⟨h', q1, q2, q3⟩ := m_wv_out d hw (arI_le hy) (nI p0) 8 0 z_U z_U z_U _ (by omega) (mRd_fr (frX_fr f2 (pCom_g w)) m1) hI
  refine ⟨h', ?_, q2, fr_trans p3 (fr_trans f2 q3)⟩
  rw [rX11_findWave, bX11_findWave_0]
  simp (disch := first | omega | rfl | assumption) only [p1, bX11_findWave_30, m1.1 28 rfl, m1.1 29 rfl, m1.1 47 rfl, k1, e1, e2, ho, q_cl, q_ps, q_pn, bI_t, bI_f, gI_same, gI_ne, gR_pI, gJ_pI, gV_pI, gN_pI, gC_pI, gS_pI, gI_pJ, gR_pJ, gV_pJ, gN_pJ, gJ_same, gJ_ne, gI_pR, gJ_pR, gV_pR, gN_pR, gR_same, gR_ne, zin_t, zin_f, x_ltt, x_ltf, x_let, x_lef, x_eqt, x_eqf, n_0, n_1, n_2, n_3, n_4, n_5, n_6, n_7, n_8, n_9, n_10, n_11, n_12, n_16, n_19, n_20, n_24, n_25, n_32, n_40, n_48, n_50, n_60, n_64, n_80, n_96, n_114, n_684, n_1000, n_9330, n_16806, n_1000000, n_5764800, ↓n_m, m_ltI, m_leI, m_lt', m_le', m_eq, m_eq', m_add, m_sub, mm_lt, mm_le, mm_eq, q_sub, nI_add, q_mul, nI_clamp, bz_0, bz_1, q_bzb, b_0, b_1, b_ft, b_tf, ne_eq, not_true_eq_false, not_false_eq_true, decide_true, decide_false, Bool.and_self, Bool.false_and, Bool.and_false, Bool.and_true, Bool.true_and, Bool.not_true, Bool.not_false, ↓reduceIte]
  cases hop : opn sh p0 y0 with
  | true =>
    rw [hop, if_pos rfl] at q1
    simp (disch := first | omega | rfl | assumption) only [bX11_findWave_55, m1.1 29 rfl, k1, e2, bX11_findWave_70, q_cl, q_ps, q_pn, bI_t, bI_f, gI_same, gI_ne, gR_pI, gJ_pI, gV_pI, gN_pI, gC_pI, gS_pI, gI_pJ, gR_pJ, gV_pJ, gN_pJ, gJ_same, gJ_ne, gI_pR, gJ_pR, gV_pR, gN_pR, gR_same, gR_ne, zin_t, zin_f, x_ltt, x_ltf, x_let, x_lef, x_eqt, x_eqf, n_0, n_1, n_2, n_3, n_4, n_5, n_6, n_7, n_8, n_9, n_10, n_11, n_12, n_16, n_19, n_20, n_24, n_25, n_32, n_40, n_48, n_50, n_60, n_64, n_80, n_96, n_114, n_684, n_1000, n_9330, n_16806, n_1000000, n_5764800, ↓n_m, m_ltI, m_leI, m_lt', m_le', m_eq, m_eq', m_add, m_sub, mm_lt, mm_le, mm_eq, q_sub, nI_add, q_mul, nI_clamp, bz_0, bz_1, q_bzb, b_0, b_1, b_ft, b_tf, ne_eq, not_true_eq_false, not_false_eq_true, decide_true, decide_false, Bool.and_self, Bool.false_and, Bool.and_false, Bool.and_true, Bool.true_and, Bool.not_true, Bool.not_false, ↓reduceIte]
    exact q1
  | false =>
    rw [hop, if_neg (by decide)] at q1
    simp (disch := first | omega | rfl | assumption) only [bX11_findWave_55, bX11_findWave_67, bX11_findWave_70, q_cl, q_ps, q_pn, bI_t, bI_f, gI_same, gI_ne, gR_pI, gJ_pI, gV_pI, gN_pI, gC_pI, gS_pI, gI_pJ, gR_pJ, gV_pJ, gN_pJ, gJ_same, gJ_ne, gI_pR, gJ_pR, gV_pR, gN_pR, gR_same, gR_ne, zin_t, zin_f, x_ltt, x_ltf, x_let, x_lef, x_eqt, x_eqf, n_0, n_1, n_2, n_3, n_4, n_5, n_6, n_7, n_8, n_9, n_10, n_11, n_12, n_16, n_19, n_20, n_24, n_25, n_32, n_40, n_48, n_50, n_60, n_64, n_80, n_96, n_114, n_684, n_1000, n_9330, n_16806, n_1000000, n_5764800, ↓n_m, m_ltI, m_leI, m_lt', m_le', m_eq, m_eq', m_add, m_sub, mm_lt, mm_le, mm_eq, q_sub, nI_add, q_mul, nI_clamp, bz_0, bz_1, q_bzb, b_0, b_1, b_ft, b_tf, ne_eq, not_true_eq_false, not_false_eq_true, decide_true, decide_false, Bool.and_self, Bool.false_and, Bool.and_false, Bool.and_true, Bool.true_and, Bool.not_true, Bool.not_false, ↓reduceIte]
    exact q1
theorem m_waves_loop (d : Nat) {rd sh : Nat → Nat} {n : Nat} {wp wy : Nat → Nat} (hn : n ≤ 8) : ∀ (r w : Nat) (h : z_H), w + r = n → mRd h rd sh → gI h 49100 0 26 = nI n → (∀ k, k < n → wp k < 8 ∧ wy k < 1000 ∧ gI h 8621 0 k = nI (wp k) ∧ gI h 8631 0 k = nI (wy k)) →
    ∃ h', EX (d + 2) 225 2 [z_R 49100 0, z_I (nI w)] [] h = some (none, h') ∧ (∀ k, w ≤ k → k < n → mV h' k (arr rd sh (wp k) (wy k))) ∧ fr (fun p _ k => p = 64751 ∧ 8 * w ≤ k) h h' := by
  intro r
  induction r with
  | zero =>
    intro w h hw m e1 hv
    refine ⟨h, ?_, fun k h1 h2 => by omega, fr_rfl _ _⟩
    rw [bX11_findWaves_2]
    simp (disch := first | omega | rfl | assumption) only [e1, bX11_findWaves_21, q_cl, q_ps, q_pn, bI_t, bI_f, gI_same, gI_ne, gR_pI, gJ_pI, gV_pI, gN_pI, gC_pI, gS_pI, gI_pJ, gR_pJ, gV_pJ, gN_pJ, gJ_same, gJ_ne, gI_pR, gJ_pR, gV_pR, gN_pR, gR_same, gR_ne, zin_t, zin_f, x_ltt, x_ltf, x_let, x_lef, x_eqt, x_eqf, n_0, n_1, n_2, n_3, n_4, n_5, n_6, n_7, n_8, n_9, n_10, n_11, n_12, n_16, n_19, n_20, n_24, n_25, n_32, n_40, n_48, n_50, n_60, n_64, n_80, n_96, n_114, n_684, n_1000, n_9330, n_16806, n_1000000, n_5764800, ↓n_m, m_ltI, m_leI, m_lt', m_le', m_eq, m_eq', m_add, m_sub, mm_lt, mm_le, mm_eq, q_sub, nI_add, q_mul, nI_clamp, bz_0, bz_1, q_bzb, b_0, b_1, b_ft, b_tf, ne_eq, not_true_eq_false, not_false_eq_true, decide_true, decide_false, Bool.and_self, Bool.false_and, Bool.and_false, Bool.and_true, Bool.true_and, Bool.not_true, Bool.not_false, ↓reduceIte]
  | succ r ih =>
    intro w h hw m e1 hv
    obtain ⟨v1, v2, v3, v4⟩ := hv w (by omega)
    obtain ⟨h1, p1, p2, p3⟩ := m_findWave d m (show w < 8 by omega) v1 v2 v3 v4
    have k1 : ∀ p i k, p ≠ 64751 → gI h1 p i k = gI h p i k := fun p i k q => p3.2 p i k (fun z => q z.1)
    obtain ⟨h', q1, q2, q3⟩ := ih (w + 1) h1 (by omega) (mRd_fr (frX_fr p3 (pCom_g w)) m) (by simp (disch := first | omega | rfl | assumption) only [k1, e1, q_cl, q_ps, q_pn, bI_t, bI_f, gI_same, gI_ne, gR_pI, gJ_pI, gV_pI, gN_pI, gC_pI, gS_pI, gI_pJ, gR_pJ, gV_pJ, gN_pJ, gJ_same, gJ_ne, gI_pR, gJ_pR, gV_pR, gN_pR, gR_same, gR_ne, zin_t, zin_f, x_ltt, x_ltf, x_let, x_lef, x_eqt, x_eqf, n_0, n_1, n_2, n_3, n_4, n_5, n_6, n_7, n_8, n_9, n_10, n_11, n_12, n_16, n_19, n_20, n_24, n_25, n_32, n_40, n_48, n_50, n_60, n_64, n_80, n_96, n_114, n_684, n_1000, n_9330, n_16806, n_1000000, n_5764800, ↓n_m, m_ltI, m_leI, m_lt', m_le', m_eq, m_eq', m_add, m_sub, mm_lt, mm_le, mm_eq, q_sub, nI_add, q_mul, nI_clamp, bz_0, bz_1, q_bzb, b_0, b_1, b_ft, b_tf, ne_eq, not_true_eq_false, not_false_eq_true, decide_true, decide_false, Bool.and_self, Bool.false_and, Bool.and_false, Bool.and_true, Bool.true_and, Bool.not_true, Bool.not_false, ↓reduceIte]) (fun k hk => by
      obtain ⟨t1, t2, t3, t4⟩ := hv k hk
      exact ⟨t1, t2, by simp (disch := first | omega | rfl | assumption) only [k1, t3, q_cl, q_ps, q_pn, bI_t, bI_f, gI_same, gI_ne, gR_pI, gJ_pI, gV_pI, gN_pI, gC_pI, gS_pI, gI_pJ, gR_pJ, gV_pJ, gN_pJ, gJ_same, gJ_ne, gI_pR, gJ_pR, gV_pR, gN_pR, gR_same, gR_ne, zin_t, zin_f, x_ltt, x_ltf, x_let, x_lef, x_eqt, x_eqf, n_0, n_1, n_2, n_3, n_4, n_5, n_6, n_7, n_8, n_9, n_10, n_11, n_12, n_16, n_19, n_20, n_24, n_25, n_32, n_40, n_48, n_50, n_60, n_64, n_80, n_96, n_114, n_684, n_1000, n_9330, n_16806, n_1000000, n_5764800, ↓n_m, m_ltI, m_leI, m_lt', m_le', m_eq, m_eq', m_add, m_sub, mm_lt, mm_le, mm_eq, q_sub, nI_add, q_mul, nI_clamp, bz_0, bz_1, q_bzb, b_0, b_1, b_ft, b_tf, ne_eq, not_true_eq_false, not_false_eq_true, decide_true, decide_false, Bool.and_self, Bool.false_and, Bool.and_false, Bool.and_true, Bool.true_and, Bool.not_true, Bool.not_false, ↓reduceIte], by simp (disch := first | omega | rfl | assumption) only [k1, t4, q_cl, q_ps, q_pn, bI_t, bI_f, gI_same, gI_ne, gR_pI, gJ_pI, gV_pI, gN_pI, gC_pI, gS_pI, gI_pJ, gR_pJ, gV_pJ, gN_pJ, gJ_same, gJ_ne, gI_pR, gJ_pR, gV_pR, gN_pR, gR_same, gR_ne, zin_t, zin_f, x_ltt, x_ltf, x_let, x_lef, x_eqt, x_eqf, n_0, n_1, n_2, n_3, n_4, n_5, n_6, n_7, n_8, n_9, n_10, n_11, n_12, n_16, n_19, n_20, n_24, n_25, n_32, n_40, n_48, n_50, n_60, n_64, n_80, n_96, n_114, n_684, n_1000, n_9330, n_16806, n_1000000, n_5764800, ↓n_m, m_ltI, m_leI, m_lt', m_le', m_eq, m_eq', m_add, m_sub, mm_lt, mm_le, mm_eq, q_sub, nI_add, q_mul, nI_clamp, bz_0, bz_1, q_bzb, b_0, b_1, b_ft, b_tf, ne_eq, not_true_eq_false, not_false_eq_true, decide_true, decide_false, Bool.and_self, Bool.false_and, Bool.and_false, Bool.and_true, Bool.true_and, Bool.not_true, Bool.not_false, ↓reduceIte]⟩)
    refine ⟨h', ?_, fun k h1 h2 => ?_, fr_trans (fr_mono p3 (fun p i k z => ⟨z.1, z.2.1⟩)) (fr_mono q3 (fun p i k z => ⟨z.1, by have := z.2; omega⟩))⟩
    · rw [bX11_findWaves_2]
      simp (disch := first | omega | rfl | assumption) only [e1, p1, bX11_findWaves_15, q_cl, q_ps, q_pn, bI_t, bI_f, gI_same, gI_ne, gR_pI, gJ_pI, gV_pI, gN_pI, gC_pI, gS_pI, gI_pJ, gR_pJ, gV_pJ, gN_pJ, gJ_same, gJ_ne, gI_pR, gJ_pR, gV_pR, gN_pR, gR_same, gR_ne, zin_t, zin_f, x_ltt, x_ltf, x_let, x_lef, x_eqt, x_eqf, n_0, n_1, n_2, n_3, n_4, n_5, n_6, n_7, n_8, n_9, n_10, n_11, n_12, n_16, n_19, n_20, n_24, n_25, n_32, n_40, n_48, n_50, n_60, n_64, n_80, n_96, n_114, n_684, n_1000, n_9330, n_16806, n_1000000, n_5764800, ↓n_m, m_ltI, m_leI, m_lt', m_le', m_eq, m_eq', m_add, m_sub, mm_lt, mm_le, mm_eq, q_sub, nI_add, q_mul, nI_clamp, bz_0, bz_1, q_bzb, b_0, b_1, b_ft, b_tf, ne_eq, not_true_eq_false, not_false_eq_true, decide_true, decide_false, Bool.and_self, Bool.false_and, Bool.and_false, Bool.and_true, Bool.true_and, Bool.not_true, Bool.not_false, ↓reduceIte]
      exact q1
    · by_cases e : k = w
      · subst e
        intro p hp
        rw [q3.2 _ _ _ (fun z => by have := z.2; omega)]
        exact p2 p hp
      · exact q2 k (by omega) h2
theorem mRd_of {h : z_H} {nL n : Nat} {rd sh wl wp wy : Nat → Nat} (m : mOK h) (hL : iLdG h nL rd sh n wl wp wy) : mRd h rd sh := ⟨m, fun k hk => ⟨(hL.1 k hk).1, (hL.1 k hk).2.2⟩, fun p hp => ⟨(hL.2.2.1 p hp).1, (hL.2.2.1 p hp).2.2⟩⟩
theorem m_findWaves (d : Nat) {h : z_H} {nL n : Nat} {rd sh wl wp wy : Nat → Nat} (m : mOK h) (hL : iLdG h nL rd sh n wl wp wy) :
    ∃ h', Rn (d + 3) 225 [z_R 49100 0] h = some (none, h') ∧ (∀ k, k < n → mV h' k (arr rd sh (wp k) (wy k))) ∧ fr (fun p _ _ => p = 64751) h h' := by
  obtain ⟨h', q1, q2, q3⟩ := m_waves_loop d (wp := wp) (wy := wy) hL.2.2.2.1 n 0 h (by omega) (mRd_of m hL) hL.2.2.2.2.2.1 (fun k hk => by
    obtain ⟨t1, t2, t3, t4, t5, t6, t7, t8, t9⟩ := hL.2.2.2.2.2.2.1 k hk
    exact ⟨t2, t3, t8, t9⟩)
  refine ⟨h', ?_, fun k hk => q2 k (Nat.zero_le _) hk, fr_mono q3 (fun p i k z => z.1)⟩
  rw [rX11_findWaves, bX11_findWaves_0]
  exact q1
theorem arr_le {rd sh : Nat → Nat} {p0 y0 : Nat} (hr : ∀ k, k < 64 → rd k < 10) (hy : y0 < 1000) (p : Nat) : arr rd sh p0 y0 p ≤ 1000000 ∧ (arr rd sh p0 y0 p < 1000000 → arr rd sh p0 y0 p ≤ 5608) := by
  have h1 := arN_le rd sh (arI sh p0 y0) 8 0 p
  rw [Nat.zero_add] at h1
  exact ⟨Nat.le_trans h1 (arI_le hy p), bd_N rd sh hr (bd_I hy) 8 p⟩
theorem g_com : ∀ p i k, (fun (p _ _ : Nat) => p = 64751) p i k → grp p i k ∈ [12] := by
  intro p i k q
  cases q
  exact (by decide : (12 : Nat) ∈ [12])
theorem op_comes {N : Nat} {xs : Nat → Int32} (d : Nat) {h : z_H} (hI : Inv h N xs) (x1 x2 : Int32) : OKc N xs (d + 60) 118 226 [z_I x1, z_I x2] h := by
  obtain ⟨G, hG⟩ := hI
  have m := I_m hG
  have c := I_c hG
  obtain ⟨rd, sh, n, wl, wp, wy, hL⟩ := I_ld hG
  have hL' := hL
  obtain ⟨l1, l2, l3, l4, l5, l6, l7, l8⟩ := hL
  have nn : n < 2 ^ 31 := by omega
  have hw := within_zin x1 nn
  have gd : ∀ (h' : z_H), gI h' 49100 0 26 = nI n → ∀ b, z_in x1 n = b → EX (d + 59) 226 0 [z_R 49100 0, z_I x1, z_I x2, z_U] [] h' = EX (d + 59) 226 11 [z_R 49100 0, z_I x1, z_I x2, z_U] [z_I (bI b)] h' := by
    intro h' q b hb
    rw [bX11_comes_0, q]
    have := m_withinN (d + 58) x1 (nI 0) (nI n - nI 1) h'
    rw [hw, hb] at this
    show z_cl (Rn (d + 59) 139 [z_I x1, z_I (nI 0), z_I (nI n - nI 1)] h') _ = _
    rw [this, q_cl, q_ps]
  cases g1 : z_in x1 n with
  | false =>
    refine OK_ref2 hG (-1000001) ?_ (by simp (disch := first | omega | rfl | assumption) only [rX11_comes, gd (pI h 10090 0 9 (gI h 10090 0 9 + nI 1)) (by simp (disch := first | omega | rfl | assumption) only [l6, q_cl, q_ps, q_pn, bI_t, bI_f, gI_same, gI_ne, gR_pI, gJ_pI, gV_pI, gN_pI, gC_pI, gS_pI, gI_pJ, gR_pJ, gV_pJ, gN_pJ, gJ_same, gJ_ne, gI_pR, gJ_pR, gV_pR, gN_pR, gR_same, gR_ne, zin_t, zin_f, x_ltt, x_ltf, x_let, x_lef, x_eqt, x_eqf, n_0, n_1, n_2, n_3, n_4, n_5, n_6, n_7, n_8, n_9, n_10, n_11, n_12, n_16, n_19, n_20, n_24, n_25, n_32, n_40, n_48, n_50, n_60, n_64, n_80, n_96, n_114, n_684, n_1000, n_9330, n_16806, n_1000000, n_5764800, ↓n_m, m_ltI, m_leI, m_lt', m_le', m_eq, m_eq', m_add, m_sub, mm_lt, mm_le, mm_eq, q_sub, nI_add, q_mul, nI_clamp, bz_0, bz_1, q_bzb, b_0, b_1, b_ft, b_tf, ne_eq, not_true_eq_false, not_false_eq_true, decide_true, decide_false, Bool.and_self, Bool.false_and, Bool.and_false, Bool.and_true, Bool.true_and, Bool.not_true, Bool.not_false, ↓reduceIte]) _ g1, bX11_comes_11, bX11_comes_18, bX11_comes_21, bX11_comes_27, bX11_comes_28, bX11_comes_33, bX11_comes_58, bX11_comes_61, bX11_comes_62, rX11_comes, m_finding, q_cl, q_ps, q_pn, bI_t, bI_f, gI_same, gI_ne, gR_pI, gJ_pI, gV_pI, gN_pI, gC_pI, gS_pI, gI_pJ, gR_pJ, gV_pJ, gN_pJ, gJ_same, gJ_ne, gI_pR, gJ_pR, gV_pR, gN_pR, gR_same, gR_ne, zin_t, zin_f, x_ltt, x_ltf, x_let, x_lef, x_eqt, x_eqf, n_0, n_1, n_2, n_3, n_4, n_5, n_6, n_7, n_8, n_9, n_10, n_11, n_12, n_16, n_19, n_20, n_24, n_25, n_32, n_40, n_48, n_50, n_60, n_64, n_80, n_96, n_114, n_684, n_1000, n_9330, n_16806, n_1000000, n_5764800, ↓n_m, m_ltI, m_leI, m_lt', m_le', m_eq, m_eq', m_add, m_sub, mm_lt, mm_le, mm_eq, q_sub, nI_add, q_mul, nI_clamp, bz_0, bz_1, q_bzb, b_0, b_1, b_ft, b_tf, ne_eq, not_true_eq_false, not_false_eq_true, decide_true, decide_false, Bool.and_self, Bool.false_and, Bool.and_false, Bool.and_true, Bool.true_and, Bool.not_true, Bool.not_false, ↓reduceIte])
    rcases neg_or x1 with hx | ⟨y, hy, rfl⟩
    · simp (disch := first | omega | rfl | assumption) only [bX10_comes_0, bX10_comes_20, bX10_comes_23, bX10_comes_29, bX10_comes_30, bX10_comes_37, bX10_comes_63, bX10_comes_66, bX10_comes_67, rX10_comes, hx, c_finding, q_cl, q_ps, q_pn, bI_t, bI_f, gI_same, gI_ne, gR_pI, gJ_pI, gV_pI, gN_pI, gC_pI, gS_pI, gI_pJ, gR_pJ, gV_pJ, gN_pJ, gJ_same, gJ_ne, gI_pR, gJ_pR, gV_pR, gN_pR, gR_same, gR_ne, zin_t, zin_f, x_ltt, x_ltf, x_let, x_lef, x_eqt, x_eqf, n_0, n_1, n_2, n_3, n_4, n_5, n_6, n_7, n_8, n_9, n_10, n_11, n_12, n_16, n_19, n_20, n_24, n_25, n_32, n_40, n_48, n_50, n_60, n_64, n_80, n_96, n_114, n_684, n_1000, n_9330, n_16806, n_1000000, n_5764800, ↓n_m, m_ltI, m_leI, m_lt', m_le', m_eq, m_eq', m_add, m_sub, mm_lt, mm_le, mm_eq, q_sub, nI_add, q_mul, nI_clamp, bz_0, bz_1, q_bzb, b_0, b_1, b_ft, b_tf, ne_eq, not_true_eq_false, not_false_eq_true, decide_true, decide_false, Bool.and_self, Bool.false_and, Bool.and_false, Bool.and_true, Bool.true_and, Bool.not_true, Bool.not_false, ↓reduceIte]
    · have : ¬ y < n := fun q => by rw [zin_t hy q] at g1; cases g1
      simp (disch := first | omega | rfl | assumption) only [bX10_comes_0, bX10_comes_20, bX10_comes_23, bX10_comes_29, bX10_comes_30, bX10_comes_37, bX10_comes_63, bX10_comes_66, bX10_comes_67, rX10_comes, c.1 10090 5 rfl, l5, c_finding, q_cl, q_ps, q_pn, bI_t, bI_f, gI_same, gI_ne, gR_pI, gJ_pI, gV_pI, gN_pI, gC_pI, gS_pI, gI_pJ, gR_pJ, gV_pJ, gN_pJ, gJ_same, gJ_ne, gI_pR, gJ_pR, gV_pR, gN_pR, gR_same, gR_ne, zin_t, zin_f, x_ltt, x_ltf, x_let, x_lef, x_eqt, x_eqf, n_0, n_1, n_2, n_3, n_4, n_5, n_6, n_7, n_8, n_9, n_10, n_11, n_12, n_16, n_19, n_20, n_24, n_25, n_32, n_40, n_48, n_50, n_60, n_64, n_80, n_96, n_114, n_684, n_1000, n_9330, n_16806, n_1000000, n_5764800, ↓n_m, m_ltI, m_leI, m_lt', m_le', m_eq, m_eq', m_add, m_sub, mm_lt, mm_le, mm_eq, q_sub, nI_add, q_mul, nI_clamp, bz_0, bz_1, q_bzb, b_0, b_1, b_ft, b_tf, ne_eq, not_true_eq_false, not_false_eq_true, decide_true, decide_false, Bool.and_self, Bool.false_and, Bool.and_false, Bool.and_true, Bool.true_and, Bool.not_true, Bool.not_false, ↓reduceIte]
  | true =>
    obtain ⟨w, hwn, -, rfl⟩ := zin_of g1
    cases g2 : z_in x2 8 with
    | false => exact OK_ref2 hG (-1000001) (by simp (disch := first | omega | rfl | assumption) only [bX10_comes_0, bX10_comes_20, bX10_comes_23, bX10_comes_29, bX10_comes_30, bX10_comes_37, bX10_comes_63, bX10_comes_66, bX10_comes_67, rX10_comes, c.1 10090 5 rfl, l5, c_noPlace, g2, c_finding, q_cl, q_ps, q_pn, bI_t, bI_f, gI_same, gI_ne, gR_pI, gJ_pI, gV_pI, gN_pI, gC_pI, gS_pI, gI_pJ, gR_pJ, gV_pJ, gN_pJ, gJ_same, gJ_ne, gI_pR, gJ_pR, gV_pR, gN_pR, gR_same, gR_ne, zin_t, zin_f, x_ltt, x_ltf, x_let, x_lef, x_eqt, x_eqf, n_0, n_1, n_2, n_3, n_4, n_5, n_6, n_7, n_8, n_9, n_10, n_11, n_12, n_16, n_19, n_20, n_24, n_25, n_32, n_40, n_48, n_50, n_60, n_64, n_80, n_96, n_114, n_684, n_1000, n_9330, n_16806, n_1000000, n_5764800, ↓n_m, m_ltI, m_leI, m_lt', m_le', m_eq, m_eq', m_add, m_sub, mm_lt, mm_le, mm_eq, q_sub, nI_add, q_mul, nI_clamp, bz_0, bz_1, q_bzb, b_0, b_1, b_ft, b_tf, ne_eq, not_true_eq_false, not_false_eq_true, decide_true, decide_false, Bool.and_self, Bool.false_and, Bool.and_false, Bool.and_true, Bool.true_and, Bool.not_true, Bool.not_false, ↓reduceIte]) (by simp (disch := first | omega | rfl | assumption) only [rX11_comes, gd (pI h 10090 0 9 (gI h 10090 0 9 + nI 1)) (by simp (disch := first | omega | rfl | assumption) only [l6, q_cl, q_ps, q_pn, bI_t, bI_f, gI_same, gI_ne, gR_pI, gJ_pI, gV_pI, gN_pI, gC_pI, gS_pI, gI_pJ, gR_pJ, gV_pJ, gN_pJ, gJ_same, gJ_ne, gI_pR, gJ_pR, gV_pR, gN_pR, gR_same, gR_ne, zin_t, zin_f, x_ltt, x_ltf, x_let, x_lef, x_eqt, x_eqf, n_0, n_1, n_2, n_3, n_4, n_5, n_6, n_7, n_8, n_9, n_10, n_11, n_12, n_16, n_19, n_20, n_24, n_25, n_32, n_40, n_48, n_50, n_60, n_64, n_80, n_96, n_114, n_684, n_1000, n_9330, n_16806, n_1000000, n_5764800, ↓n_m, m_ltI, m_leI, m_lt', m_le', m_eq, m_eq', m_add, m_sub, mm_lt, mm_le, mm_eq, q_sub, nI_add, q_mul, nI_clamp, bz_0, bz_1, q_bzb, b_0, b_1, b_ft, b_tf, ne_eq, not_true_eq_false, not_false_eq_true, decide_true, decide_false, Bool.and_self, Bool.false_and, Bool.and_false, Bool.and_true, Bool.true_and, Bool.not_true, Bool.not_false, ↓reduceIte]) _ g1, bX11_comes_11, bX11_comes_18, bX11_comes_21, bX11_comes_27, bX11_comes_28, bX11_comes_33, bX11_comes_58, bX11_comes_61, bX11_comes_62, rX11_comes, m_isPlace, g2, m_finding, q_cl, q_ps, q_pn, bI_t, bI_f, gI_same, gI_ne, gR_pI, gJ_pI, gV_pI, gN_pI, gC_pI, gS_pI, gI_pJ, gR_pJ, gV_pJ, gN_pJ, gJ_same, gJ_ne, gI_pR, gJ_pR, gV_pR, gN_pR, gR_same, gR_ne, zin_t, zin_f, x_ltt, x_ltf, x_let, x_lef, x_eqt, x_eqf, n_0, n_1, n_2, n_3, n_4, n_5, n_6, n_7, n_8, n_9, n_10, n_11, n_12, n_16, n_19, n_20, n_24, n_25, n_32, n_40, n_48, n_50, n_60, n_64, n_80, n_96, n_114, n_684, n_1000, n_9330, n_16806, n_1000000, n_5764800, ↓n_m, m_ltI, m_leI, m_lt', m_le', m_eq, m_eq', m_add, m_sub, mm_lt, mm_le, mm_eq, q_sub, nI_add, q_mul, nI_clamp, bz_0, bz_1, q_bzb, b_0, b_1, b_ft, b_tf, ne_eq, not_true_eq_false, not_false_eq_true, decide_true, decide_false, Bool.and_self, Bool.false_and, Bool.and_false, Bool.and_true, Bool.true_and, Bool.not_true, Bool.not_false, ↓reduceIte])
    | true =>
      obtain ⟨p, hp, -, rfl⟩ := zin_of g2
      obtain ⟨t1, t2, t3, t4, t5, t6, t7, t8, t9⟩ := l7 w hwn
      obtain ⟨h1, e1, I1, hL1, e2, F1⟩ := c_spread (d + 56) hG hL'
      have c1 := I_c I1
      have a1 := arr_le (sh := sh) (p0 := wp w) (fun k hk => (l1 k hk).1) t3 p
      have hwp : w * 8 + p = 8 * w + p := by omega
      have ew := e2 w hwn p hp
      by_cases hf : arr rd sh (wp w) (wy w) p < 1000000
      · rw [comI_fin hf] at ew
        have a2 := a1.2 hf
        obtain ⟨u1, u2, u3, u4, u5, u6, u7, u8, u9⟩ := hL1.2.2.2.2.2.2.1 w hwn
        obtain ⟨h2, f1, f2, f3⟩ := m_findWave (d + 57) (mRd_of (I_m I1) hL1) (show w < 8 by omega) t2 t3 u8 u9
        have m2 := fr_mOK f3 (I_m I1)
        refine ⟨nI (arr rd sh (wp w) (wy w) p), h1, h2, ?_, ?_, G, Inv_scr (frX_fr f3 (pCom_g w)) I1⟩
        · simp (disch := first | omega | rfl | assumption) only [bX10_comes_0, bX10_comes_20, bX10_comes_23, bX10_comes_29, bX10_comes_30, bX10_comes_37, bX10_comes_63, bX10_comes_66, bX10_comes_67, rX10_comes, c.1 10090 5 rfl, l5, c_noPlace, g2, e1, c1.1 10090 5 rfl, c1.1 11030 2 rfl, hwp, ew, q_cl, q_ps, q_pn, bI_t, bI_f, gI_same, gI_ne, gR_pI, gJ_pI, gV_pI, gN_pI, gC_pI, gS_pI, gI_pJ, gR_pJ, gV_pJ, gN_pJ, gJ_same, gJ_ne, gI_pR, gJ_pR, gV_pR, gN_pR, gR_same, gR_ne, zin_t, zin_f, x_ltt, x_ltf, x_let, x_lef, x_eqt, x_eqf, n_0, n_1, n_2, n_3, n_4, n_5, n_6, n_7, n_8, n_9, n_10, n_11, n_12, n_16, n_19, n_20, n_24, n_25, n_32, n_40, n_48, n_50, n_60, n_64, n_80, n_96, n_114, n_684, n_1000, n_9330, n_16806, n_1000000, n_5764800, ↓n_m, m_ltI, m_leI, m_lt', m_le', m_eq, m_eq', m_add, m_sub, mm_lt, mm_le, mm_eq, q_sub, nI_add, q_mul, nI_clamp, bz_0, bz_1, q_bzb, b_0, b_1, b_ft, b_tf, ne_eq, not_true_eq_false, not_false_eq_true, decide_true, decide_false, Bool.and_self, Bool.false_and, Bool.and_false, Bool.and_true, Bool.true_and, Bool.not_true, Bool.not_false, ↓reduceIte]
        · simp (disch := first | omega | rfl | assumption) only [rX11_comes, gd h1 hL1.2.2.2.2.2.1 _ g1, bX11_comes_11, bX11_comes_18, bX11_comes_21, bX11_comes_27, bX11_comes_28, bX11_comes_33, bX11_comes_58, bX11_comes_61, bX11_comes_62, rX11_comes, m_isPlace, g2, f1, m2 47 rfl, f2 p hp, q_cl, q_ps, q_pn, bI_t, bI_f, gI_same, gI_ne, gR_pI, gJ_pI, gV_pI, gN_pI, gC_pI, gS_pI, gI_pJ, gR_pJ, gV_pJ, gN_pJ, gJ_same, gJ_ne, gI_pR, gJ_pR, gV_pR, gN_pR, gR_same, gR_ne, zin_t, zin_f, x_ltt, x_ltf, x_let, x_lef, x_eqt, x_eqf, n_0, n_1, n_2, n_3, n_4, n_5, n_6, n_7, n_8, n_9, n_10, n_11, n_12, n_16, n_19, n_20, n_24, n_25, n_32, n_40, n_48, n_50, n_60, n_64, n_80, n_96, n_114, n_684, n_1000, n_9330, n_16806, n_1000000, n_5764800, ↓n_m, m_ltI, m_leI, m_lt', m_le', m_eq, m_eq', m_add, m_sub, mm_lt, mm_le, mm_eq, q_sub, nI_add, q_mul, nI_clamp, bz_0, bz_1, q_bzb, b_0, b_1, b_ft, b_tf, ne_eq, not_true_eq_false, not_false_eq_true, decide_true, decide_false, Bool.and_self, Bool.false_and, Bool.and_false, Bool.and_true, Bool.true_and, Bool.not_true, Bool.not_false, ↓reduceIte]
      · rw [comI_inf hf] at ew
        have a2 : arr rd sh (wp w) (wy w) p = 1000000 := by omega
        have I3 := Inv_cf I1
        have hL3 : iLdG (pI h1 10090 0 9 (gI h1 10090 0 9 + nI 1)) (gnL G) rd sh n wl wp wy := iLdG_fr (S := [0]) (frX_pI2 0 rfl (by decide) _ _) (by decide) (by decide) (by decide) hL1
        obtain ⟨u1, u2, u3, u4, u5, u6, u7, u8, u9⟩ := hL3.2.2.2.2.2.2.1 w hwn
        obtain ⟨h2, f1, f2, f3⟩ := m_findWave (d + 57) (mRd_of (I_m I3) hL3) (show w < 8 by omega) t2 t3 u8 u9
        have m2 := fr_mOK f3 (I_m I3)
        have f2p := f2 p hp
        rw [a2] at f2p
        have f1' : Rn (d + 59) 224 [z_R 49100 0, z_I (nI w)] (pI h1 10090 0 9 (gI h1 10090 0 9 + nI 1)) = some (none, h2) := f1
        refine OK_fin (G := G) (h1 := h1) (h2 := h2) (-1000004) ?_ ?_ (Inv_scr (frX_fr f3 (pCom_g w)) I3)
        · simp (disch := first | omega | rfl | assumption) only [bX10_comes_0, bX10_comes_20, bX10_comes_23, bX10_comes_29, bX10_comes_30, bX10_comes_37, bX10_comes_63, bX10_comes_66, bX10_comes_67, rX10_comes, c.1 10090 5 rfl, l5, c_noPlace, g2, e1, c1.1 10090 5 rfl, c1.1 11030 2 rfl, hwp, ew, c_finding, q_cl, q_ps, q_pn, bI_t, bI_f, gI_same, gI_ne, gR_pI, gJ_pI, gV_pI, gN_pI, gC_pI, gS_pI, gI_pJ, gR_pJ, gV_pJ, gN_pJ, gJ_same, gJ_ne, gI_pR, gJ_pR, gV_pR, gN_pR, gR_same, gR_ne, zin_t, zin_f, x_ltt, x_ltf, x_let, x_lef, x_eqt, x_eqf, n_0, n_1, n_2, n_3, n_4, n_5, n_6, n_7, n_8, n_9, n_10, n_11, n_12, n_16, n_19, n_20, n_24, n_25, n_32, n_40, n_48, n_50, n_60, n_64, n_80, n_96, n_114, n_684, n_1000, n_9330, n_16806, n_1000000, n_5764800, ↓n_m, m_ltI, m_leI, m_lt', m_le', m_eq, m_eq', m_add, m_sub, mm_lt, mm_le, mm_eq, q_sub, nI_add, q_mul, nI_clamp, bz_0, bz_1, q_bzb, b_0, b_1, b_ft, b_tf, ne_eq, not_true_eq_false, not_false_eq_true, decide_true, decide_false, Bool.and_self, Bool.false_and, Bool.and_false, Bool.and_true, Bool.true_and, Bool.not_true, Bool.not_false, ↓reduceIte]
        · simp (disch := first | omega | rfl | assumption) only [rX11_comes, gd (pI h1 10090 0 9 (gI h1 10090 0 9 + nI 1)) hL3.2.2.2.2.2.1 _ g1, bX11_comes_11, bX11_comes_18, bX11_comes_21, bX11_comes_27, bX11_comes_28, bX11_comes_33, bX11_comes_58, bX11_comes_61, bX11_comes_62, rX11_comes, m_isPlace, g2, f1', m2 47 rfl, f2p, m_finding, q_cl, q_ps, q_pn, bI_t, bI_f, gI_same, gI_ne, gR_pI, gJ_pI, gV_pI, gN_pI, gC_pI, gS_pI, gI_pJ, gR_pJ, gV_pJ, gN_pJ, gJ_same, gJ_ne, gI_pR, gJ_pR, gV_pR, gN_pR, gR_same, gR_ne, zin_t, zin_f, x_ltt, x_ltf, x_let, x_lef, x_eqt, x_eqf, n_0, n_1, n_2, n_3, n_4, n_5, n_6, n_7, n_8, n_9, n_10, n_11, n_12, n_16, n_19, n_20, n_24, n_25, n_32, n_40, n_48, n_50, n_60, n_64, n_80, n_96, n_114, n_684, n_1000, n_9330, n_16806, n_1000000, n_5764800, ↓n_m, m_ltI, m_leI, m_lt', m_le', m_eq, m_eq', m_add, m_sub, mm_lt, mm_le, mm_eq, q_sub, nI_add, q_mul, nI_clamp, bz_0, bz_1, q_bzb, b_0, b_1, b_ft, b_tf, ne_eq, not_true_eq_false, not_false_eq_true, decide_true, decide_false, Bool.and_self, Bool.false_and, Bool.and_false, Bool.and_true, Bool.true_and, Bool.not_true, Bool.not_false, ↓reduceIte]
