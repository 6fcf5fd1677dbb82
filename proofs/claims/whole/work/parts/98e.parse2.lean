/-! ===== the class reads a text ===== -/
def prT (ch : Nat → Nat) : Bool × Nat × Nat × Nat := if sndc (ch 2) = 0 then (if ch 2 = 45 then (true, 3, 0, 0) else (false, 2, 0, 0)) else (true, 3 + (if sndc (ch 3) = 0 then 0 else 1), sndc (ch 2), sndc (ch 3))
def toV (t s : Nat) : Nat := if s = 0 then t else 7 * t + s
def lwP (f t : Nat) (P Q : Bool × Nat × Nat × Nat × Nat) : Lw := fun k => if k = 0 then f else if k = 1 then t else if k = 2 then P.2.2.1 else if k = 3 then P.2.2.2.1 else if k = 4 then P.2.2.2.2 else if k = 5 then Q.2.2.1 else if k = 6 then Q.2.2.2.1 else Q.2.2.2.2
/-- the law that a text is, or where it is wrong -/
def prs (n : Nat) (ch : Nat → Nat) : Option Lw × Nat :=
  if fmc (ch 0) = 0 then (none, 0)
  else if ch 1 = 62 then
    (if (prT ch).1 = true then
      (if (plR 47 ch (prT ch).2.1).1 = true then
        (if (plR 33 ch (plR 47 ch (prT ch).2.1).2.1).1 = true ∧ (plR 33 ch (plR 47 ch (prT ch).2.1).2.1).2.1 = n then
          (some (lwP (fmc (ch 0)) (toV (prT ch).2.2.1 (prT ch).2.2.2) (plR 47 ch (prT ch).2.1) (plR 33 ch (plR 47 ch (prT ch).2.1).2.1)), n)
        else (none, (plR 33 ch (plR 47 ch (prT ch).2.1).2.1).2.1))
      else (none, (plR 47 ch (prT ch).2.1).2.1))
    else (none, (prT ch).2.1))
  else (none, 1)
theorem mrkc_999 {c : Nat} (h : ¬ mrkc c = 0) : c ≠ 999 := fun z => h (by rw [z]; decide)
theorem sndc_999 {c : Nat} (h : ¬ sndc c = 0) : c ≠ 999 := fun z => h (by rw [z]; decide)
theorem fmc_999 {c : Nat} (h : ¬ fmc c = 0) : c ≠ 999 := fun z => h (by rw [z]; decide)
theorem plR_le {n sg : Nat} {ch : Nat → Nat} (hc : ∀ k, ch k ≠ 999 → k < n) (hsg : sg ≠ 999) {a : Nat} (ha : a ≤ n) : a ≤ (plR sg ch a).2.1 ∧ (plR sg ch a).2.1 ≤ n := by
  unfold plR
  by_cases h1 : ch a = sg
  · rw [if_pos h1]
    have q1 := hc a (by rw [h1]; exact hsg)
    have q2 : a + 1 + (if mrkc (ch (a + 1)) = 0 then 0 else 1) ≤ n ∧ a + 1 ≤ a + 1 + (if mrkc (ch (a + 1)) = 0 then 0 else 1) := by
      by_cases h2 : mrkc (ch (a + 1)) = 0
      · rw [if_pos h2]; omega
      · rw [if_neg h2]
        have := hc _ (mrkc_999 h2)
        omega
    generalize a + 1 + (if mrkc (ch (a + 1)) = 0 then 0 else 1) = a1 at q2 ⊢
    by_cases h3 : ch a1 = 95
    · rw [if_pos h3]
      have q3 := hc a1 (by rw [h3]; decide)
      show a ≤ a1 + 1 + (if mrkc (ch (a1 + 1)) = 0 then 0 else 1) ∧ a1 + 1 + (if mrkc (ch (a1 + 1)) = 0 then 0 else 1) ≤ n
      by_cases h2 : mrkc (ch (a1 + 1)) = 0
      · rw [if_pos h2]; omega
      · rw [if_neg h2]
        have := hc _ (mrkc_999 h2)
        omega
    · rw [if_neg h3]
      show a ≤ a1 ∧ a1 ≤ n
      omega
  · rw [if_neg h1]
    exact ⟨Nat.le_refl _, ha⟩
theorem prT_le {n : Nat} {ch : Nat → Nat} (hc : ∀ k, ch k ≠ 999 → k < n) (h2 : 2 ≤ n) : (prT ch).2.1 ≤ n ∧ (prT ch).2.1 ≤ 4 ∧ (prT ch).2.2.1 ≤ 6 ∧ (prT ch).2.2.2 ≤ 6 ∧ ((prT ch).2.2.1 = 0 → (prT ch).2.2.2 = 0) := by
  have s2 := sndc_le (ch 2)
  have s3 := sndc_le (ch 3)
  unfold prT
  by_cases h1 : sndc (ch 2) = 0
  · rw [if_pos h1]
    by_cases h3 : ch 2 = 45
    · rw [if_pos h3]
      have := hc 2 (by rw [h3]; decide)
      exact ⟨by show 3 ≤ n; omega, by decide, by decide, by decide, fun _ => rfl⟩
    · rw [if_neg h3]
      exact ⟨h2, by decide, by decide, by decide, fun _ => rfl⟩
  · rw [if_neg h1]
    have := hc _ (sndc_999 h1)
    refine ⟨?_, ?_, s2, s3, fun z => absurd z h1⟩
    · show 3 + (if sndc (ch 3) = 0 then 0 else 1) ≤ n
      by_cases h4 : sndc (ch 3) = 0
      · rw [if_pos h4]; omega
      · rw [if_neg h4]
        have := hc _ (sndc_999 h4)
        omega
    · show 3 + (if sndc (ch 3) = 0 then 0 else 1) ≤ 4
      split <;> omega
theorem plR_mk (sg : Nat) (ch : Nat → Nat) (a : Nat) : ((plR sg ch a).2.2.1 = 0 ∨ (plR sg ch a).2.2.1 = 1) ∧ (plR sg ch a).2.2.2.1 ≤ 9 ∧ (plR sg ch a).2.2.2.2 ≤ 9 ∧ ((plR sg ch a).2.2.1 = 0 → (plR sg ch a).2.2.2.1 = 0 ∧ (plR sg ch a).2.2.2.2 = 0) := by
  unfold plR
  by_cases h1 : ch a = sg
  · rw [if_pos h1]
    generalize a + 1 + (if mrkc (ch (a + 1)) = 0 then 0 else 1) = a1
    by_cases h3 : ch a1 = 95
    · rw [if_pos h3]
      exact ⟨Or.inr rfl, mrkc_le _, mrkc_le _, fun z => by cases z⟩
    · rw [if_neg h3]
      exact ⟨Or.inr rfl, Nat.zero_le _, Nat.zero_le _, fun z => by cases z⟩
  · rw [if_neg h1]
    exact ⟨Or.inl rfl, Nat.zero_le _, Nat.zero_le _, fun _ => ⟨rfl, rfl⟩⟩
theorem lwP_nm {f t s : Nat} (hf : 1 ≤ f ∧ f ≤ 8) (ht : t ≤ 6) (hs : s ≤ 6) (hts : t = 0 → s = 0) (sg sg' : Nat) (ch : Nat → Nat) (a b : Nat) : nmL (lwP f (toV t s) (plR sg ch a) (plR sg' ch b)) := by
  obtain ⟨p1, p2, p3, p4⟩ := plR_mk sg ch a
  obtain ⟨q1, q2, q3, q4⟩ := plR_mk sg' ch b
  refine ⟨⟨hf, ?_, p1, ⟨p2, p3⟩, q1, ⟨q2, q3⟩⟩, p4, q4⟩
  show okT (toV t s)
  unfold toV okT
  by_cases h0 : s = 0
  · rw [if_pos h0]; exact Or.inl ht
  · rw [if_neg h0]
    right
    have t1 : 1 ≤ t := by
      by_cases z : t = 0
      · exact absurd (hts z) h0
      · omega
    omega
theorem c_kindOf (d : Nat) {f t s : Nat} (hf : 1 ≤ f ∧ f ≤ 8) (ht : t ≤ 6) (hs : s ≤ 6) (hts : t = 0 → s = 0) (P Q : Bool × Nat × Nat × Nat × Nat) (h : z_H) : Rn (d + 1) 71 [z_I (nI (f - 1)), z_I (nI t), z_I (nI s)] h = some (some (z_I (nI (kdL (lwP f (toV t s) P Q)))), h) := by
  have e : kdL (lwP f (toV t s) P Q) = if t = 0 then 1 else if s = 0 then 0 else if t = s ∧ t = f then 3 else 2 := by
    show (if toV t s = 0 then 1 else if toV t s < 7 then 0 else if f ≤ 6 ∧ toV t s = 8 * f then 3 else 2) = _
    unfold toV
    by_cases s0 : s = 0
    · rw [if_pos s0]
      by_cases t0 : t = 0
      · rw [if_pos t0, if_pos t0]
      · rw [if_neg t0, if_neg t0, if_pos (by omega), if_pos s0]
    · have t1 : ¬ t = 0 := fun z => s0 (hts z)
      rw [if_neg s0, if_neg (by omega), if_neg (by omega), if_neg t1, if_neg s0]
      by_cases q : t = s ∧ t = f
      · rw [if_pos q, if_pos (by omega)]
      · rw [if_neg q, if_neg (by omega)]
  rw [e]
  have ef : f - 1 + 1 = f := by omega
  by_cases t0 : t = 0
  · rw [if_pos t0]; simp (disch := first | omega | rfl | assumption) only [bX8_kindOf_0, bX8_kindOf_6, bX8_kindOf_12, bX8_kindOf_28, bX8_kindOf_29, rX8_kindOf, t0, q_cl, q_ps, q_pn, bI_t, bI_f, gI_same, gI_ne, gR_pI, gJ_pI, gV_pI, gN_pI, gC_pI, gS_pI, gI_pJ, gR_pJ, gV_pJ, gN_pJ, gJ_same, gJ_ne, gI_pR, gJ_pR, gV_pR, gN_pR, gR_same, gR_ne, zin_t, zin_f, x_ltt, x_ltf, x_let, x_lef, x_eqt, x_eqf, n_0, n_1, n_2, n_3, n_4, n_5, n_6, n_7, n_8, n_9, n_10, n_11, n_12, n_16, n_19, n_20, n_24, n_25, n_32, n_40, n_48, n_50, n_60, n_64, n_80, n_96, n_114, n_684, n_1000, n_9330, n_16806, n_1000000, n_5764800, ↓n_m, m_ltI, m_leI, m_lt', m_le', m_eq, m_eq', m_add, m_sub, mm_lt, mm_le, mm_eq, q_sub, nI_add, q_mul, nI_clamp, bz_0, bz_1, q_bzb, b_0, b_1, b_ft, b_tf, ne_eq, not_true_eq_false, not_false_eq_true, decide_true, decide_false, Bool.and_self, Bool.false_and, Bool.and_false, Bool.and_true, Bool.true_and, Bool.not_true, Bool.not_false, ↓reduceIte]
  · by_cases s0 : s = 0
    · rw [if_neg t0, if_pos s0]; simp (disch := first | omega | rfl | assumption) only [bX8_kindOf_0, bX8_kindOf_6, bX8_kindOf_12, bX8_kindOf_28, bX8_kindOf_29, rX8_kindOf, s0, q_cl, q_ps, q_pn, bI_t, bI_f, gI_same, gI_ne, gR_pI, gJ_pI, gV_pI, gN_pI, gC_pI, gS_pI, gI_pJ, gR_pJ, gV_pJ, gN_pJ, gJ_same, gJ_ne, gI_pR, gJ_pR, gV_pR, gN_pR, gR_same, gR_ne, zin_t, zin_f, x_ltt, x_ltf, x_let, x_lef, x_eqt, x_eqf, n_0, n_1, n_2, n_3, n_4, n_5, n_6, n_7, n_8, n_9, n_10, n_11, n_12, n_16, n_19, n_20, n_24, n_25, n_32, n_40, n_48, n_50, n_60, n_64, n_80, n_96, n_114, n_684, n_1000, n_9330, n_16806, n_1000000, n_5764800, ↓n_m, m_ltI, m_leI, m_lt', m_le', m_eq, m_eq', m_add, m_sub, mm_lt, mm_le, mm_eq, q_sub, nI_add, q_mul, nI_clamp, bz_0, bz_1, q_bzb, b_0, b_1, b_ft, b_tf, ne_eq, not_true_eq_false, not_false_eq_true, decide_true, decide_false, Bool.and_self, Bool.false_and, Bool.and_false, Bool.and_true, Bool.true_and, Bool.not_true, Bool.not_false, ↓reduceIte]
    · rw [if_neg t0, if_neg s0]
      by_cases q1 : t = s
      · by_cases q2 : t = f
        · rw [if_pos ⟨q1, q2⟩]; simp (disch := first | omega | rfl | assumption) only [bX8_kindOf_0, bX8_kindOf_6, bX8_kindOf_12, bX8_kindOf_28, bX8_kindOf_29, rX8_kindOf, ef, q_cl, q_ps, q_pn, bI_t, bI_f, gI_same, gI_ne, gR_pI, gJ_pI, gV_pI, gN_pI, gC_pI, gS_pI, gI_pJ, gR_pJ, gV_pJ, gN_pJ, gJ_same, gJ_ne, gI_pR, gJ_pR, gV_pR, gN_pR, gR_same, gR_ne, zin_t, zin_f, x_ltt, x_ltf, x_let, x_lef, x_eqt, x_eqf, n_0, n_1, n_2, n_3, n_4, n_5, n_6, n_7, n_8, n_9, n_10, n_11, n_12, n_16, n_19, n_20, n_24, n_25, n_32, n_40, n_48, n_50, n_60, n_64, n_80, n_96, n_114, n_684, n_1000, n_9330, n_16806, n_1000000, n_5764800, ↓n_m, m_ltI, m_leI, m_lt', m_le', m_eq, m_eq', m_add, m_sub, mm_lt, mm_le, mm_eq, q_sub, nI_add, q_mul, nI_clamp, bz_0, bz_1, q_bzb, b_0, b_1, b_ft, b_tf, ne_eq, not_true_eq_false, not_false_eq_true, decide_true, decide_false, Bool.and_self, Bool.false_and, Bool.and_false, Bool.and_true, Bool.true_and, Bool.not_true, Bool.not_false, ↓reduceIte]
        · rw [if_neg (fun z => q2 z.2)]; simp (disch := first | omega | rfl | assumption) only [bX8_kindOf_0, bX8_kindOf_6, bX8_kindOf_12, bX8_kindOf_28, bX8_kindOf_29, rX8_kindOf, ef, q_cl, q_ps, q_pn, bI_t, bI_f, gI_same, gI_ne, gR_pI, gJ_pI, gV_pI, gN_pI, gC_pI, gS_pI, gI_pJ, gR_pJ, gV_pJ, gN_pJ, gJ_same, gJ_ne, gI_pR, gJ_pR, gV_pR, gN_pR, gR_same, gR_ne, zin_t, zin_f, x_ltt, x_ltf, x_let, x_lef, x_eqt, x_eqf, n_0, n_1, n_2, n_3, n_4, n_5, n_6, n_7, n_8, n_9, n_10, n_11, n_12, n_16, n_19, n_20, n_24, n_25, n_32, n_40, n_48, n_50, n_60, n_64, n_80, n_96, n_114, n_684, n_1000, n_9330, n_16806, n_1000000, n_5764800, ↓n_m, m_ltI, m_leI, m_lt', m_le', m_eq, m_eq', m_add, m_sub, mm_lt, mm_le, mm_eq, q_sub, nI_add, q_mul, nI_clamp, bz_0, bz_1, q_bzb, b_0, b_1, b_ft, b_tf, ne_eq, not_true_eq_false, not_false_eq_true, decide_true, decide_false, Bool.and_self, Bool.false_and, Bool.and_false, Bool.and_true, Bool.true_and, Bool.not_true, Bool.not_false, ↓reduceIte]
      · rw [if_neg (fun z => q1 z.1)]; simp (disch := first | omega | rfl | assumption) only [bX8_kindOf_0, bX8_kindOf_6, bX8_kindOf_12, bX8_kindOf_28, bX8_kindOf_29, rX8_kindOf, ef, q_cl, q_ps, q_pn, bI_t, bI_f, gI_same, gI_ne, gR_pI, gJ_pI, gV_pI, gN_pI, gC_pI, gS_pI, gI_pJ, gR_pJ, gV_pJ, gN_pJ, gJ_same, gJ_ne, gI_pR, gJ_pR, gV_pR, gN_pR, gR_same, gR_ne, zin_t, zin_f, x_ltt, x_ltf, x_let, x_lef, x_eqt, x_eqf, n_0, n_1, n_2, n_3, n_4, n_5, n_6, n_7, n_8, n_9, n_10, n_11, n_12, n_16, n_19, n_20, n_24, n_25, n_32, n_40, n_48, n_50, n_60, n_64, n_80, n_96, n_114, n_684, n_1000, n_9330, n_16806, n_1000000, n_5764800, ↓n_m, m_ltI, m_leI, m_lt', m_le', m_eq, m_eq', m_add, m_sub, mm_lt, mm_le, mm_eq, q_sub, nI_add, q_mul, nI_clamp, bz_0, bz_1, q_bzb, b_0, b_1, b_ft, b_tf, ne_eq, not_true_eq_false, not_false_eq_true, decide_true, decide_false, Bool.and_self, Bool.false_and, Bool.and_false, Bool.and_true, Bool.true_and, Bool.not_true, Bool.not_false, ↓reduceIte]
theorem c_par_tail (d : Nat) {n a f t s : Nat} {tb : Nat → Nat} {h : z_H} (m : tapC h n tb) (ha : a ≤ n) (e : gI h 4070 0 3 = nI a) (hf : 1 ≤ f ∧ f ≤ 8) (ht : t ≤ 6) (hs : s ≤ 6) (hts : t = 0 → s = 0) (u3 : z_V) :
    ∃ h', EX (d + 8) 70 71 [z_R 4070 0, z_I (nI (f - 1)), z_I (nI t), u3] [z_I (mkI s)] h = some (some (z_I (if (plR 47 (chn n tb) a).1 = true then (if (plR 33 (chn n tb) (plR 47 (chn n tb) a).2.1).1 = true ∧ (plR 33 (chn n tb) (plR 47 (chn n tb) a).2.1).2.1 = n then mI else nI (plR 33 (chn n tb) (plR 47 (chn n tb) a).2.1).2.1) else nI (plR 47 (chn n tb) a).2.1)), h') ∧
      ((plR 47 (chn n tb) a).1 = true → (plR 33 (chn n tb) (plR 47 (chn n tb) a).2.1).1 = true → fcL h' 9371 0 (lwP f (toV t s) (plR 47 (chn n tb) a) (plR 33 (chn n tb) (plR 47 (chn n tb) a).2.1)) ∧ gI h' 9371 0 0 = nI (kdL (lwP f (toV t s) (plR 47 (chn n tb) a) (plR 33 (chn n tb) (plR 47 (chn n tb) a).2.1)))) ∧ fr pTp h h' := by
  have hc : ∀ k, chn n tb k ≠ 999 → k < n := fun k hk => by
    unfold chn at hk
    by_cases q : k < n
    · exact q
    · rw [if_neg q] at hk; exact absurd rfl hk
  have n40 := m.2.1
  obtain ⟨P1, P2⟩ := plR_le (sg := 47) hc (by decide) ha
  obtain ⟨Q1, Q2⟩ := plR_le (sg := 33) hc (by decide) P2
  generalize hP : plR 47 (chn n tb) a = P at *
  generalize hQ : plR 33 (chn n tb) P.2.1 = Q at *
  have ek := c_kindOf (d + 7) hf ht hs hts P Q
  have f2 : fr pTp h (pI (pI (pI h 9371 0 1 (nI (f - 1))) 9371 0 2 (nI (toV t s))) 9371 0 0 (nI (kdL (lwP f (toV t s) P Q)))) := fr_trans (fr_trans (fr_pI h _ (Or.inl rfl)) (fr_pI _ _ (Or.inl rfl))) (fr_pI _ _ (Or.inl rfl))
  have m2 := tapC_fr f2 m
  have c := m.1
  have c2 := m2.1
  obtain ⟨h3, p1, p2, p3, p4⟩ := c_passPlace d (r := 4) (f := 7) (g := 3) (sg := 47) m2 (show a < 2 ^ 29 by omega) (by simp (disch := first | omega | rfl | assumption) only [e, q_cl, q_ps, q_pn, bI_t, bI_f, gI_same, gI_ne, gR_pI, gJ_pI, gV_pI, gN_pI, gC_pI, gS_pI, gI_pJ, gR_pJ, gV_pJ, gN_pJ, gJ_same, gJ_ne, gI_pR, gJ_pR, gV_pR, gN_pR, gR_same, gR_ne, zin_t, zin_f, x_ltt, x_ltf, x_let, x_lef, x_eqt, x_eqf, n_0, n_1, n_2, n_3, n_4, n_5, n_6, n_7, n_8, n_9, n_10, n_11, n_12, n_16, n_19, n_20, n_24, n_25, n_32, n_40, n_48, n_50, n_60, n_64, n_80, n_96, n_114, n_684, n_1000, n_9330, n_16806, n_1000000, n_5764800, ↓n_m, m_ltI, m_leI, m_lt', m_le', m_eq, m_eq', m_add, m_sub, mm_lt, mm_le, mm_eq, q_sub, nI_add, q_mul, nI_clamp, bz_0, bz_1, q_bzb, b_0, b_1, b_ft, b_tf, ne_eq, not_true_eq_false, not_false_eq_true, decide_true, decide_false, Bool.and_self, Bool.false_and, Bool.and_false, Bool.and_true, Bool.true_and, Bool.not_true, Bool.not_false, ↓reduceIte]) (by decide) (fun c => rfl) (by decide) (by decide) (by decide)
  rw [hP] at p1 p2 p3
  have f3 : fr pTp (pI (pI (pI h 9371 0 1 (nI (f - 1))) 9371 0 2 (nI (toV t s))) 9371 0 0 (nI (kdL (lwP f (toV t s) P Q)))) h3 := fr_mono p4 (fun p i k z => by
    rcases z with z | z
    · exact Or.inr z
    · exact Or.inl z.1)
  have m3 := tapC_fr f3 m2
  have to124 : EX (d + 8) 70 71 [z_R 4070 0, z_I (nI (f - 1)), z_I (nI t), u3] [z_I (mkI s)] h = EX (d + 8) 70 124 [z_R 4070 0, z_I (nI (f - 1)), z_I (nI t), z_I (mkI s)] [z_I (bI P.1)] h3 := by
    rw [bX8_parse_71]
    by_cases s0 : s = 0
    · have et : toV t s = t := by unfold toV; rw [if_pos s0]
      have p1' : Rn (d + 8) 72 [z_R 4070 0, z_R 8 4, z_I (nI 7), z_I (nI 3)] (pI (pI (pI h 9371 0 1 (nI (f - 1))) 9371 0 2 (nI t)) 9371 0 0 (nI (kdL (lwP f (toV t s) P Q)))) = some (some (z_I (bI P.1)), h3) := by
        rw [et] at p1
        rw [et]
        exact p1
      have em : mkI s = mI := by rw [s0, mk_0]
      have em1 : mI + nI 1 = nI s := by rw [s0]; decide
      rw [em]
      simp (disch := first | omega | rfl | assumption) only [c.1 4070 1 rfl, show (nI 0 ≤ mI) = False from by decide, bX8_parse_100, em1, ek, bX8_parse_114, p1', q_cl, q_ps, q_pn, bI_t, bI_f, gI_same, gI_ne, gR_pI, gJ_pI, gV_pI, gN_pI, gC_pI, gS_pI, gI_pJ, gR_pJ, gV_pJ, gN_pJ, gJ_same, gJ_ne, gI_pR, gJ_pR, gV_pR, gN_pR, gR_same, gR_ne, zin_t, zin_f, x_ltt, x_ltf, x_let, x_lef, x_eqt, x_eqf, n_0, n_1, n_2, n_3, n_4, n_5, n_6, n_7, n_8, n_9, n_10, n_11, n_12, n_16, n_19, n_20, n_24, n_25, n_32, n_40, n_48, n_50, n_60, n_64, n_80, n_96, n_114, n_684, n_1000, n_9330, n_16806, n_1000000, n_5764800, ↓n_m, m_ltI, m_leI, m_lt', m_le', m_eq, m_eq', m_add, m_sub, mm_lt, mm_le, mm_eq, q_sub, nI_add, q_mul, nI_clamp, bz_0, bz_1, q_bzb, b_0, b_1, b_ft, b_tf, ne_eq, not_true_eq_false, not_false_eq_true, decide_true, decide_false, Bool.and_self, Bool.false_and, Bool.and_false, Bool.and_true, Bool.true_and, Bool.not_true, Bool.not_false, ↓reduceIte]
    · have et : toV t s = 7 * t + (s - 1) + 1 := by unfold toV; rw [if_neg s0]; omega
      have p1' : Rn (d + 8) 72 [z_R 4070 0, z_R 8 4, z_I (nI 7), z_I (nI 3)] (pI (pI (pI h 9371 0 1 (nI (f - 1))) 9371 0 2 (nI (7 * t + (s - 1) + 1))) 9371 0 0 (nI (kdL (lwP f (toV t s) P Q)))) = some (some (z_I (bI P.1)), h3) := by
        rw [← et]
        exact p1
      have es : s - 1 + 1 = s := by omega
      rw [mkI_pos (by omega)]
      simp (disch := first | omega | rfl | assumption) only [c.1 4070 1 rfl, bX8_parse_92, bX8_parse_100, es, ek, bX8_parse_114, p1', q_cl, q_ps, q_pn, bI_t, bI_f, gI_same, gI_ne, gR_pI, gJ_pI, gV_pI, gN_pI, gC_pI, gS_pI, gI_pJ, gR_pJ, gV_pJ, gN_pJ, gJ_same, gJ_ne, gI_pR, gJ_pR, gV_pR, gN_pR, gR_same, gR_ne, zin_t, zin_f, x_ltt, x_ltf, x_let, x_lef, x_eqt, x_eqf, n_0, n_1, n_2, n_3, n_4, n_5, n_6, n_7, n_8, n_9, n_10, n_11, n_12, n_16, n_19, n_20, n_24, n_25, n_32, n_40, n_48, n_50, n_60, n_64, n_80, n_96, n_114, n_684, n_1000, n_9330, n_16806, n_1000000, n_5764800, ↓n_m, m_ltI, m_leI, m_lt', m_le', m_eq, m_eq', m_add, m_sub, mm_lt, mm_le, mm_eq, q_sub, nI_add, q_mul, nI_clamp, bz_0, bz_1, q_bzb, b_0, b_1, b_ft, b_tf, ne_eq, not_true_eq_false, not_false_eq_true, decide_true, decide_false, Bool.and_self, Bool.false_and, Bool.and_false, Bool.and_true, Bool.true_and, Bool.not_true, Bool.not_false, ↓reduceIte]
  cases hP1 : P.1 with
  | false =>
    rw [hP1] at to124
    refine ⟨h3, ?_, fun z => (by cases z), fr_trans f2 f3⟩
    rw [to124, bX8_parse_124]
    simp (disch := first | omega | rfl | assumption) only [bX8_parse_139, p2, q_cl, q_ps, q_pn, bI_t, bI_f, gI_same, gI_ne, gR_pI, gJ_pI, gV_pI, gN_pI, gC_pI, gS_pI, gI_pJ, gR_pJ, gV_pJ, gN_pJ, gJ_same, gJ_ne, gI_pR, gJ_pR, gV_pR, gN_pR, gR_same, gR_ne, zin_t, zin_f, x_ltt, x_ltf, x_let, x_lef, x_eqt, x_eqf, n_0, n_1, n_2, n_3, n_4, n_5, n_6, n_7, n_8, n_9, n_10, n_11, n_12, n_16, n_19, n_20, n_24, n_25, n_32, n_40, n_48, n_50, n_60, n_64, n_80, n_96, n_114, n_684, n_1000, n_9330, n_16806, n_1000000, n_5764800, ↓n_m, m_ltI, m_leI, m_lt', m_le', m_eq, m_eq', m_add, m_sub, mm_lt, mm_le, mm_eq, q_sub, nI_add, q_mul, nI_clamp, bz_0, bz_1, q_bzb, b_0, b_1, b_ft, b_tf, ne_eq, not_true_eq_false, not_false_eq_true, decide_true, decide_false, Bool.and_self, Bool.false_and, Bool.and_false, Bool.and_true, Bool.true_and, Bool.not_true, Bool.not_false, ↓reduceIte]
  | true =>
    rw [hP1] at to124
    obtain ⟨h5, q1, q2, q3, q4⟩ := c_passPlace d (r := 7) (f := 8) (g := 5) (sg := 33) m3 (show P.2.1 < 2 ^ 29 by omega) p2 (by decide) (fun c => rfl) (by decide) (by decide) (by decide)
    rw [hQ] at q1 q2 q3
    have f5 : fr pTp h3 h5 := fr_mono q4 (fun p i k z => by
      rcases z with z | z
      · exact Or.inr z
      · exact Or.inl z.1)
    have m5 := tapC_fr f5 m3
    obtain ⟨a1, a2, a3⟩ := p3 hP1
    refine ⟨h5, ?_, fun _ hQ1 => ?_, fr_trans f2 (fr_trans f3 f5)⟩
    · rw [if_pos rfl]
      cases hQ1 : Q.1 with
      | false =>
        rw [hQ1] at q1
        rw [if_neg (fun z => by cases z.1), to124, bX8_parse_124]
        simp (disch := first | omega | rfl | assumption) only [q1, bX8_parse_136, bX8_parse_139, q2, q_cl, q_ps, q_pn, bI_t, bI_f, gI_same, gI_ne, gR_pI, gJ_pI, gV_pI, gN_pI, gC_pI, gS_pI, gI_pJ, gR_pJ, gV_pJ, gN_pJ, gJ_same, gJ_ne, gI_pR, gJ_pR, gV_pR, gN_pR, gR_same, gR_ne, zin_t, zin_f, x_ltt, x_ltf, x_let, x_lef, x_eqt, x_eqf, n_0, n_1, n_2, n_3, n_4, n_5, n_6, n_7, n_8, n_9, n_10, n_11, n_12, n_16, n_19, n_20, n_24, n_25, n_32, n_40, n_48, n_50, n_60, n_64, n_80, n_96, n_114, n_684, n_1000, n_9330, n_16806, n_1000000, n_5764800, ↓n_m, m_ltI, m_leI, m_lt', m_le', m_eq, m_eq', m_add, m_sub, mm_lt, mm_le, mm_eq, q_sub, nI_add, q_mul, nI_clamp, bz_0, bz_1, q_bzb, b_0, b_1, b_ft, b_tf, ne_eq, not_true_eq_false, not_false_eq_true, decide_true, decide_false, Bool.and_self, Bool.false_and, Bool.and_false, Bool.and_true, Bool.true_and, Bool.not_true, Bool.not_false, ↓reduceIte]
      | true =>
        rw [hQ1] at q1
        by_cases hn : Q.2.1 = n
        · rw [if_pos ⟨rfl, hn⟩, to124, bX8_parse_124]
          simp (disch := first | omega | rfl | assumption) only [q1, bX8_parse_136, bX8_parse_144, m5.2.2.1, q2, bX8_parse_162, bX8_parse_163, q_cl, q_ps, q_pn, bI_t, bI_f, gI_same, gI_ne, gR_pI, gJ_pI, gV_pI, gN_pI, gC_pI, gS_pI, gI_pJ, gR_pJ, gV_pJ, gN_pJ, gJ_same, gJ_ne, gI_pR, gJ_pR, gV_pR, gN_pR, gR_same, gR_ne, zin_t, zin_f, x_ltt, x_ltf, x_let, x_lef, x_eqt, x_eqf, n_0, n_1, n_2, n_3, n_4, n_5, n_6, n_7, n_8, n_9, n_10, n_11, n_12, n_16, n_19, n_20, n_24, n_25, n_32, n_40, n_48, n_50, n_60, n_64, n_80, n_96, n_114, n_684, n_1000, n_9330, n_16806, n_1000000, n_5764800, ↓n_m, m_ltI, m_leI, m_lt', m_le', m_eq, m_eq', m_add, m_sub, mm_lt, mm_le, mm_eq, q_sub, nI_add, q_mul, nI_clamp, bz_0, bz_1, q_bzb, b_0, b_1, b_ft, b_tf, ne_eq, not_true_eq_false, not_false_eq_true, decide_true, decide_false, Bool.and_self, Bool.false_and, Bool.and_false, Bool.and_true, Bool.true_and, Bool.not_true, Bool.not_false, ↓reduceIte]
        · rw [if_neg (fun z => hn z.2), to124, bX8_parse_124]
          simp (disch := first | omega | rfl | assumption) only [q1, bX8_parse_136, bX8_parse_144, m5.2.2.1, q2, bX8_parse_163, q_cl, q_ps, q_pn, bI_t, bI_f, gI_same, gI_ne, gR_pI, gJ_pI, gV_pI, gN_pI, gC_pI, gS_pI, gI_pJ, gR_pJ, gV_pJ, gN_pJ, gJ_same, gJ_ne, gI_pR, gJ_pR, gV_pR, gN_pR, gR_same, gR_ne, zin_t, zin_f, x_ltt, x_ltf, x_let, x_lef, x_eqt, x_eqf, n_0, n_1, n_2, n_3, n_4, n_5, n_6, n_7, n_8, n_9, n_10, n_11, n_12, n_16, n_19, n_20, n_24, n_25, n_32, n_40, n_48, n_50, n_60, n_64, n_80, n_96, n_114, n_684, n_1000, n_9330, n_16806, n_1000000, n_5764800, ↓n_m, m_ltI, m_leI, m_lt', m_le', m_eq, m_eq', m_add, m_sub, mm_lt, mm_le, mm_eq, q_sub, nI_add, q_mul, nI_clamp, bz_0, bz_1, q_bzb, b_0, b_1, b_ft, b_tf, ne_eq, not_true_eq_false, not_false_eq_true, decide_true, decide_false, Bool.and_self, Bool.false_and, Bool.and_false, Bool.and_true, Bool.true_and, Bool.not_true, Bool.not_false, ↓reduceIte]
    · obtain ⟨b1, b2, b3⟩ := q3 hQ1
      have k3 : ∀ k, k ≠ 7 → k ≠ 3 → k ≠ 4 → gI h3 9371 0 k = gI (pI (pI (pI h 9371 0 1 (nI (f - 1))) 9371 0 2 (nI (toV t s))) 9371 0 0 (nI (kdL (lwP f (toV t s) P Q)))) 9371 0 k := fun k z1 z2 z3 => p4.2 _ _ _ (by rintro (⟨z, -⟩ | ⟨-, z⟩) <;> omega)
      have k5 : ∀ k, k ≠ 8 → k ≠ 5 → k ≠ 6 → gI h5 9371 0 k = gI h3 9371 0 k := fun k z1 z2 z3 => q4.2 _ _ _ (by rintro (⟨z, -⟩ | ⟨-, z⟩) <;> omega)
      refine ⟨⟨?_, ?_, ?_, ?_, b2, b3, ?_, b1⟩, ?_⟩
      · show gI h5 9371 0 1 = mkI f
        rw [mkI_pos hf.1]; simp (disch := first | omega | rfl | assumption) only [k5, k3, q_cl, q_ps, q_pn, bI_t, bI_f, gI_same, gI_ne, gR_pI, gJ_pI, gV_pI, gN_pI, gC_pI, gS_pI, gI_pJ, gR_pJ, gV_pJ, gN_pJ, gJ_same, gJ_ne, gI_pR, gJ_pR, gV_pR, gN_pR, gR_same, gR_ne, zin_t, zin_f, x_ltt, x_ltf, x_let, x_lef, x_eqt, x_eqf, n_0, n_1, n_2, n_3, n_4, n_5, n_6, n_7, n_8, n_9, n_10, n_11, n_12, n_16, n_19, n_20, n_24, n_25, n_32, n_40, n_48, n_50, n_60, n_64, n_80, n_96, n_114, n_684, n_1000, n_9330, n_16806, n_1000000, n_5764800, ↓n_m, m_ltI, m_leI, m_lt', m_le', m_eq, m_eq', m_add, m_sub, mm_lt, mm_le, mm_eq, q_sub, nI_add, q_mul, nI_clamp, bz_0, bz_1, q_bzb, b_0, b_1, b_ft, b_tf, ne_eq, not_true_eq_false, not_false_eq_true, decide_true, decide_false, Bool.and_self, Bool.false_and, Bool.and_false, Bool.and_true, Bool.true_and, Bool.not_true, Bool.not_false, ↓reduceIte]
      · show gI h5 9371 0 2 = nI (toV t s)
        simp (disch := first | omega | rfl | assumption) only [k5, k3, q_cl, q_ps, q_pn, bI_t, bI_f, gI_same, gI_ne, gR_pI, gJ_pI, gV_pI, gN_pI, gC_pI, gS_pI, gI_pJ, gR_pJ, gV_pJ, gN_pJ, gJ_same, gJ_ne, gI_pR, gJ_pR, gV_pR, gN_pR, gR_same, gR_ne, zin_t, zin_f, x_ltt, x_ltf, x_let, x_lef, x_eqt, x_eqf, n_0, n_1, n_2, n_3, n_4, n_5, n_6, n_7, n_8, n_9, n_10, n_11, n_12, n_16, n_19, n_20, n_24, n_25, n_32, n_40, n_48, n_50, n_60, n_64, n_80, n_96, n_114, n_684, n_1000, n_9330, n_16806, n_1000000, n_5764800, ↓n_m, m_ltI, m_leI, m_lt', m_le', m_eq, m_eq', m_add, m_sub, mm_lt, mm_le, mm_eq, q_sub, nI_add, q_mul, nI_clamp, bz_0, bz_1, q_bzb, b_0, b_1, b_ft, b_tf, ne_eq, not_true_eq_false, not_false_eq_true, decide_true, decide_false, Bool.and_self, Bool.false_and, Bool.and_false, Bool.and_true, Bool.true_and, Bool.not_true, Bool.not_false, ↓reduceIte]
      · show gI h5 9371 0 3 = mkI P.2.2.2.1
        simp (disch := first | omega | rfl | assumption) only [k5, a2, q_cl, q_ps, q_pn, bI_t, bI_f, gI_same, gI_ne, gR_pI, gJ_pI, gV_pI, gN_pI, gC_pI, gS_pI, gI_pJ, gR_pJ, gV_pJ, gN_pJ, gJ_same, gJ_ne, gI_pR, gJ_pR, gV_pR, gN_pR, gR_same, gR_ne, zin_t, zin_f, x_ltt, x_ltf, x_let, x_lef, x_eqt, x_eqf, n_0, n_1, n_2, n_3, n_4, n_5, n_6, n_7, n_8, n_9, n_10, n_11, n_12, n_16, n_19, n_20, n_24, n_25, n_32, n_40, n_48, n_50, n_60, n_64, n_80, n_96, n_114, n_684, n_1000, n_9330, n_16806, n_1000000, n_5764800, ↓n_m, m_ltI, m_leI, m_lt', m_le', m_eq, m_eq', m_add, m_sub, mm_lt, mm_le, mm_eq, q_sub, nI_add, q_mul, nI_clamp, bz_0, bz_1, q_bzb, b_0, b_1, b_ft, b_tf, ne_eq, not_true_eq_false, not_false_eq_true, decide_true, decide_false, Bool.and_self, Bool.false_and, Bool.and_false, Bool.and_true, Bool.true_and, Bool.not_true, Bool.not_false, ↓reduceIte]
      · show gI h5 9371 0 4 = mkI P.2.2.2.2
        exact (k5 4 (by decide) (by decide) (by decide)).trans a3
      · show gI h5 9371 0 7 = nI P.2.2.1
        simp (disch := first | omega | rfl | assumption) only [k5, a1, q_cl, q_ps, q_pn, bI_t, bI_f, gI_same, gI_ne, gR_pI, gJ_pI, gV_pI, gN_pI, gC_pI, gS_pI, gI_pJ, gR_pJ, gV_pJ, gN_pJ, gJ_same, gJ_ne, gI_pR, gJ_pR, gV_pR, gN_pR, gR_same, gR_ne, zin_t, zin_f, x_ltt, x_ltf, x_let, x_lef, x_eqt, x_eqf, n_0, n_1, n_2, n_3, n_4, n_5, n_6, n_7, n_8, n_9, n_10, n_11, n_12, n_16, n_19, n_20, n_24, n_25, n_32, n_40, n_48, n_50, n_60, n_64, n_80, n_96, n_114, n_684, n_1000, n_9330, n_16806, n_1000000, n_5764800, ↓n_m, m_ltI, m_leI, m_lt', m_le', m_eq, m_eq', m_add, m_sub, mm_lt, mm_le, mm_eq, q_sub, nI_add, q_mul, nI_clamp, bz_0, bz_1, q_bzb, b_0, b_1, b_ft, b_tf, ne_eq, not_true_eq_false, not_false_eq_true, decide_true, decide_false, Bool.and_self, Bool.false_and, Bool.and_false, Bool.and_true, Bool.true_and, Bool.not_true, Bool.not_false, ↓reduceIte]
      · simp (disch := first | omega | rfl | assumption) only [k5, k3, q_cl, q_ps, q_pn, bI_t, bI_f, gI_same, gI_ne, gR_pI, gJ_pI, gV_pI, gN_pI, gC_pI, gS_pI, gI_pJ, gR_pJ, gV_pJ, gN_pJ, gJ_same, gJ_ne, gI_pR, gJ_pR, gV_pR, gN_pR, gR_same, gR_ne, zin_t, zin_f, x_ltt, x_ltf, x_let, x_lef, x_eqt, x_eqf, n_0, n_1, n_2, n_3, n_4, n_5, n_6, n_7, n_8, n_9, n_10, n_11, n_12, n_16, n_19, n_20, n_24, n_25, n_32, n_40, n_48, n_50, n_60, n_64, n_80, n_96, n_114, n_684, n_1000, n_9330, n_16806, n_1000000, n_5764800, ↓n_m, m_ltI, m_leI, m_lt', m_le', m_eq, m_eq', m_add, m_sub, mm_lt, mm_le, mm_eq, q_sub, nI_add, q_mul, nI_clamp, bz_0, bz_1, q_bzb, b_0, b_1, b_ft, b_tf, ne_eq, not_true_eq_false, not_false_eq_true, decide_true, decide_false, Bool.and_self, Bool.false_and, Bool.and_false, Bool.and_true, Bool.true_and, Bool.not_true, Bool.not_false, ↓reduceIte]
theorem c_parse (d : Nat) {n : Nat} {tb : Nat → Nat} {h : z_H} (m : tapC h n tb) :
    ∃ h', Rn (d + 9) 70 [z_R 4070 0] h = some (some (z_I (if (prs n (chn n tb)).1.isSome = true then mI else nI (prs n (chn n tb)).2)), h') ∧ (∀ L, (prs n (chn n tb)).1 = some L → fcL h' 9371 0 L ∧ gI h' 9371 0 0 = nI (kdL L) ∧ nmL L) ∧ (prs n (chn n tb)).2 ≤ n ∧ fr pTp h h' := by
  have hc : ∀ k, chn n tb k ≠ 999 → k < n := fun k hk => by
    unfold chn at hk
    by_cases q : k < n
    · exact q
    · rw [if_neg q] at hk; exact absurd rfl hk
  have n40 := m.2.1
  have f0 : fr pTp h (pI h 4070 0 3 (nI 0)) := fr_pI h _ (Or.inr ⟨rfl, rfl⟩)
  have m0 := tapC_fr f0 m
  obtain ⟨h1, p1, p2, p3⟩ := c_pass (d + 1) (r := 0) (a := 0) m0 (by decide) (by simp (disch := first | omega | rfl | assumption) only [q_cl, q_ps, q_pn, bI_t, bI_f, gI_same, gI_ne, gR_pI, gJ_pI, gV_pI, gN_pI, gC_pI, gS_pI, gI_pJ, gR_pJ, gV_pJ, gN_pJ, gJ_same, gJ_ne, gI_pR, gJ_pR, gV_pR, gN_pR, gR_same, gR_ne, zin_t, zin_f, x_ltt, x_ltf, x_let, x_lef, x_eqt, x_eqf, n_0, n_1, n_2, n_3, n_4, n_5, n_6, n_7, n_8, n_9, n_10, n_11, n_12, n_16, n_19, n_20, n_24, n_25, n_32, n_40, n_48, n_50, n_60, n_64, n_80, n_96, n_114, n_684, n_1000, n_9330, n_16806, n_1000000, n_5764800, ↓n_m, m_ltI, m_leI, m_lt', m_le', m_eq, m_eq', m_add, m_sub, mm_lt, mm_le, mm_eq, q_sub, nI_add, q_mul, nI_clamp, bz_0, bz_1, q_bzb, b_0, b_1, b_ft, b_tf, ne_eq, not_true_eq_false, not_false_eq_true, decide_true, decide_false, Bool.and_self, Bool.false_and, Bool.and_false, Bool.and_true, Bool.true_and, Bool.not_true, Bool.not_false, ↓reduceIte]) (by decide)
  have f1 := fr_trans f0 (fr_mono p3 pAt_tp)
  have m1 := tapC_fr f1 m
  have e0 : ltc 0 (chn n tb 0) = fmc (chn n tb 0) := rfl
  rw [e0] at p1 p2
  have fl := fmc_le (chn n tb 0)
  have to11 : Rn (d + 9) 70 [z_R 4070 0] h = EX (d + 8) 70 11 [z_R 4070 0, z_U, z_U, z_U] [z_I (mkI (fmc (chn n tb 0)))] h1 := by
    simp (disch := first | omega | rfl | assumption) only [rX8_parse, bX8_parse_0, p1, q_cl, q_ps, q_pn, bI_t, bI_f, gI_same, gI_ne, gR_pI, gJ_pI, gV_pI, gN_pI, gC_pI, gS_pI, gI_pJ, gR_pJ, gV_pJ, gN_pJ, gJ_same, gJ_ne, gI_pR, gJ_pR, gV_pR, gN_pR, gR_same, gR_ne, zin_t, zin_f, x_ltt, x_ltf, x_let, x_lef, x_eqt, x_eqf, n_0, n_1, n_2, n_3, n_4, n_5, n_6, n_7, n_8, n_9, n_10, n_11, n_12, n_16, n_19, n_20, n_24, n_25, n_32, n_40, n_48, n_50, n_60, n_64, n_80, n_96, n_114, n_684, n_1000, n_9330, n_16806, n_1000000, n_5764800, ↓n_m, m_ltI, m_leI, m_lt', m_le', m_eq, m_eq', m_add, m_sub, mm_lt, mm_le, mm_eq, q_sub, nI_add, q_mul, nI_clamp, bz_0, bz_1, q_bzb, b_0, b_1, b_ft, b_tf, ne_eq, not_true_eq_false, not_false_eq_true, decide_true, decide_false, Bool.and_self, Bool.false_and, Bool.and_false, Bool.and_true, Bool.true_and, Bool.not_true, Bool.not_false, ↓reduceIte]
  unfold prs
  by_cases hf0 : fmc (chn n tb 0) = 0
  · rw [if_pos hf0]
    rw [hf0, if_pos rfl] at p2
    refine ⟨h1, ?_, fun L z => (by cases z), Nat.zero_le _, f1⟩
    rw [to11, hf0, mk_0, bX8_parse_11]
    simp (disch := first | omega | rfl | assumption) only [mI_lt0, bX8_parse_25, p2, Option.isSome_none, q_cl, q_ps, q_pn, bI_t, bI_f, gI_same, gI_ne, gR_pI, gJ_pI, gV_pI, gN_pI, gC_pI, gS_pI, gI_pJ, gR_pJ, gV_pJ, gN_pJ, gJ_same, gJ_ne, gI_pR, gJ_pR, gV_pR, gN_pR, gR_same, gR_ne, zin_t, zin_f, x_ltt, x_ltf, x_let, x_lef, x_eqt, x_eqf, n_0, n_1, n_2, n_3, n_4, n_5, n_6, n_7, n_8, n_9, n_10, n_11, n_12, n_16, n_19, n_20, n_24, n_25, n_32, n_40, n_48, n_50, n_60, n_64, n_80, n_96, n_114, n_684, n_1000, n_9330, n_16806, n_1000000, n_5764800, ↓n_m, m_ltI, m_leI, m_lt', m_le', m_eq, m_eq', m_add, m_sub, mm_lt, mm_le, mm_eq, q_sub, nI_add, q_mul, nI_clamp, bz_0, bz_1, q_bzb, b_0, b_1, b_ft, b_tf, ne_eq, not_true_eq_false, not_false_eq_true, decide_true, decide_false, Bool.and_self, Bool.false_and, Bool.and_false, Bool.and_true, Bool.true_and, Bool.not_true, Bool.not_false, ↓reduceIte]
  · rw [if_neg hf0]
    rw [if_neg hf0] at p2
    have n0 := hc 0 (fmc_999 hf0)
    obtain ⟨h2, q1, q2, q3⟩ := c_pass (d + 1) (r := 1) (a := 1) m1 (by decide) p2 (by decide)
    have f2 := fr_trans f1 (fr_mono q3 pAt_tp)
    have m2 := tapC_fr f2 m
    have e1 : ltc 1 (chn n tb 1) = if chn n tb 1 = 62 then 1 else 0 := rfl
    by_cases h62 : chn n tb 1 = 62
    · rw [if_pos h62]
      rw [e1, if_pos h62] at q1 q2
      have n1 := hc 1 (by rw [h62]; decide)
      obtain ⟨T1, T2, T3, T4, T5⟩ := prT_le (ch := chn n tb) hc (by omega)
      obtain ⟨h3, r1, r2, r3⟩ := c_pass (d + 1) (r := 2) (a := 2) m2 (by decide) q2 (by decide)
      have f3 := fr_trans f2 (fr_mono r3 pAt_tp)
      have m3 := tapC_fr f3 m
      have e2 : ltc 2 (chn n tb 2) = sndc (chn n tb 2) := rfl
      rw [e2] at r1 r2
      have sl := sndc_le (chn n tb 2)
      have to36 : Rn (d + 9) 70 [z_R 4070 0] h = EX (d + 8) 70 36 [z_R 4070 0, z_I (nI (fmc (chn n tb 0) - 1)), z_U, z_U] [z_I (mkI (sndc (chn n tb 2)))] h3 := by
        rw [to11, bX8_parse_11, mkI_pos (by omega)]
        rw [mkI_pos (by decide)] at q1
        simp (disch := first | omega | rfl | assumption) only [q1, bX8_parse_22, bX8_parse_30, r1, q_cl, q_ps, q_pn, bI_t, bI_f, gI_same, gI_ne, gR_pI, gJ_pI, gV_pI, gN_pI, gC_pI, gS_pI, gI_pJ, gR_pJ, gV_pJ, gN_pJ, gJ_same, gJ_ne, gI_pR, gJ_pR, gV_pR, gN_pR, gR_same, gR_ne, zin_t, zin_f, x_ltt, x_ltf, x_let, x_lef, x_eqt, x_eqf, n_0, n_1, n_2, n_3, n_4, n_5, n_6, n_7, n_8, n_9, n_10, n_11, n_12, n_16, n_19, n_20, n_24, n_25, n_32, n_40, n_48, n_50, n_60, n_64, n_80, n_96, n_114, n_684, n_1000, n_9330, n_16806, n_1000000, n_5764800, ↓n_m, m_ltI, m_leI, m_lt', m_le', m_eq, m_eq', m_add, m_sub, mm_lt, mm_le, mm_eq, q_sub, nI_add, q_mul, nI_clamp, bz_0, bz_1, q_bzb, b_0, b_1, b_ft, b_tf, ne_eq, not_true_eq_false, not_false_eq_true, decide_true, decide_false, Bool.and_self, Bool.false_and, Bool.and_false, Bool.and_true, Bool.true_and, Bool.not_true, Bool.not_false, ↓reduceIte]
      -- behind the tongue of the text
      have tail : ∀ (h4 : z_H) (u3 : z_V), tapC h4 n tb → fr pTp h h4 → (prT (chn n tb)).1 = true → gI h4 4070 0 3 = nI (prT (chn n tb)).2.1 → Rn (d + 9) 70 [z_R 4070 0] h = EX (d + 8) 70 71 [z_R 4070 0, z_I (nI (fmc (chn n tb 0) - 1)), z_I (nI (prT (chn n tb)).2.2.1), u3] [z_I (mkI (prT (chn n tb)).2.2.2)] h4 → ∃ h', Rn (d + 9) 70 [z_R 4070 0] h = some (some (z_I (if (if (prT (chn n tb)).1 = true then
      (if (plR 47 (chn n tb) (prT (chn n tb)).2.1).1 = true then
        (if (plR 33 (chn n tb) (plR 47 (chn n tb) (prT (chn n tb)).2.1).2.1).1 = true ∧ (plR 33 (chn n tb) (plR 47 (chn n tb) (prT (chn n tb)).2.1).2.1).2.1 = n then
          (some (lwP (fmc (chn n tb 0)) (toV (prT (chn n tb)).2.2.1 (prT (chn n tb)).2.2.2) (plR 47 (chn n tb) (prT (chn n tb)).2.1) (plR 33 (chn n tb) (plR 47 (chn n tb) (prT (chn n tb)).2.1).2.1)), n)
        else (none, (plR 33 (chn n tb) (plR 47 (chn n tb) (prT (chn n tb)).2.1).2.1).2.1))
      else (none, (plR 47 (chn n tb) (prT (chn n tb)).2.1).2.1))
    else ((none : Option Lw), (prT (chn n tb)).2.1)).1.isSome = true then mI else nI (if (prT (chn n tb)).1 = true then
      (if (plR 47 (chn n tb) (prT (chn n tb)).2.1).1 = true then
        (if (plR 33 (chn n tb) (plR 47 (chn n tb) (prT (chn n tb)).2.1).2.1).1 = true ∧ (plR 33 (chn n tb) (plR 47 (chn n tb) (prT (chn n tb)).2.1).2.1).2.1 = n then
          (some (lwP (fmc (chn n tb 0)) (toV (prT (chn n tb)).2.2.1 (prT (chn n tb)).2.2.2) (plR 47 (chn n tb) (prT (chn n tb)).2.1) (plR 33 (chn n tb) (plR 47 (chn n tb) (prT (chn n tb)).2.1).2.1)), n)
        else (none, (plR 33 (chn n tb) (plR 47 (chn n tb) (prT (chn n tb)).2.1).2.1).2.1))
      else (none, (plR 47 (chn n tb) (prT (chn n tb)).2.1).2.1))
    else ((none : Option Lw), (prT (chn n tb)).2.1)).2)), h') ∧ (∀ L, (if (prT (chn n tb)).1 = true then
      (if (plR 47 (chn n tb) (prT (chn n tb)).2.1).1 = true then
        (if (plR 33 (chn n tb) (plR 47 (chn n tb) (prT (chn n tb)).2.1).2.1).1 = true ∧ (plR 33 (chn n tb) (plR 47 (chn n tb) (prT (chn n tb)).2.1).2.1).2.1 = n then
          (some (lwP (fmc (chn n tb 0)) (toV (prT (chn n tb)).2.2.1 (prT (chn n tb)).2.2.2) (plR 47 (chn n tb) (prT (chn n tb)).2.1) (plR 33 (chn n tb) (plR 47 (chn n tb) (prT (chn n tb)).2.1).2.1)), n)
        else (none, (plR 33 (chn n tb) (plR 47 (chn n tb) (prT (chn n tb)).2.1).2.1).2.1))
      else (none, (plR 47 (chn n tb) (prT (chn n tb)).2.1).2.1))
    else ((none : Option Lw), (prT (chn n tb)).2.1)).1 = some L → fcL h' 9371 0 L ∧ gI h' 9371 0 0 = nI (kdL L) ∧ nmL L) ∧ (if (prT (chn n tb)).1 = true then
      (if (plR 47 (chn n tb) (prT (chn n tb)).2.1).1 = true then
        (if (plR 33 (chn n tb) (plR 47 (chn n tb) (prT (chn n tb)).2.1).2.1).1 = true ∧ (plR 33 (chn n tb) (plR 47 (chn n tb) (prT (chn n tb)).2.1).2.1).2.1 = n then
          (some (lwP (fmc (chn n tb 0)) (toV (prT (chn n tb)).2.2.1 (prT (chn n tb)).2.2.2) (plR 47 (chn n tb) (prT (chn n tb)).2.1) (plR 33 (chn n tb) (plR 47 (chn n tb) (prT (chn n tb)).2.1).2.1)), n)
        else (none, (plR 33 (chn n tb) (plR 47 (chn n tb) (prT (chn n tb)).2.1).2.1).2.1))
      else (none, (plR 47 (chn n tb) (prT (chn n tb)).2.1).2.1))
    else ((none : Option Lw), (prT (chn n tb)).2.1)).2 ≤ n ∧ fr pTp h h' := by
        intro h4 u3 m4 f4 hok hat hto
        obtain ⟨h', s1, s2, s3⟩ := c_par_tail d m4 T1 hat (show 1 ≤ fmc (chn n tb 0) ∧ fmc (chn n tb 0) ≤ 8 by omega) T3 T4 T5 u3
        obtain ⟨P1, P2⟩ := plR_le (sg := 47) hc (by decide) T1
        obtain ⟨Q1, Q2⟩ := plR_le (sg := 33) hc (by decide) P2
        have nm := lwP_nm (show 1 ≤ fmc (chn n tb 0) ∧ fmc (chn n tb 0) ≤ 8 by omega) T3 T4 T5 47 33 (chn n tb) (prT (chn n tb)).2.1 (plR 47 (chn n tb) (prT (chn n tb)).2.1).2.1
        rw [if_pos hok]
        refine ⟨h', ?_, ?_, ?_, fr_trans f4 s3⟩
        · rw [hto, s1]
          by_cases c1 : (plR 47 (chn n tb) (prT (chn n tb)).2.1).1 = true
          · rw [if_pos c1, if_pos c1]
            by_cases c2 : (plR 33 (chn n tb) (plR 47 (chn n tb) (prT (chn n tb)).2.1).2.1).1 = true ∧ (plR 33 (chn n tb) (plR 47 (chn n tb) (prT (chn n tb)).2.1).2.1).2.1 = n
            · rw [if_pos c2, if_pos c2]; rfl
            · rw [if_neg c2, if_neg c2]; rfl
          · rw [if_neg c1, if_neg c1]; rfl
        · intro L hL
          by_cases c1 : (plR 47 (chn n tb) (prT (chn n tb)).2.1).1 = true
          · rw [if_pos c1] at hL
            by_cases c2 : (plR 33 (chn n tb) (plR 47 (chn n tb) (prT (chn n tb)).2.1).2.1).1 = true ∧ (plR 33 (chn n tb) (plR 47 (chn n tb) (prT (chn n tb)).2.1).2.1).2.1 = n
            · rw [if_pos c2] at hL
              have hL' := Option.some.inj hL
              subst hL'
              obtain ⟨w1, w2⟩ := s2 c1 c2.1
              exact ⟨w1, w2, nm⟩
            · rw [if_neg c2] at hL; cases hL
          · rw [if_neg c1] at hL; cases hL
        · by_cases c1 : (plR 47 (chn n tb) (prT (chn n tb)).2.1).1 = true
          · rw [if_pos c1]
            by_cases c2 : (plR 33 (chn n tb) (plR 47 (chn n tb) (prT (chn n tb)).2.1).2.1).1 = true ∧ (plR 33 (chn n tb) (plR 47 (chn n tb) (prT (chn n tb)).2.1).2.1).2.1 = n
            · rw [if_pos c2]; exact Nat.le_refl _
            · rw [if_neg c2]; exact Q2
          · rw [if_neg c1]; exact P2
      by_cases t0 : sndc (chn n tb 2) = 0
      · rw [t0, if_pos rfl] at r2
        obtain ⟨h4, s1, s2, s3⟩ := c_pass (d + 1) (r := 3) (a := 2) m3 (by decide) r2 (by decide)
        have f4 := fr_trans f3 (fr_mono s3 pAt_tp)
        have m4 := tapC_fr f4 m
        have e3 : ltc 3 (chn n tb 2) = if chn n tb 2 = 45 then 1 else 0 := rfl
        by_cases h45 : chn n tb 2 = 45
        · rw [e3, if_pos h45] at s1 s2
          have eT : prT (chn n tb) = (true, 3, 0, 0) := by unfold prT; rw [if_pos t0, if_pos h45]
          refine tail h4 z_U m4 f4 (by rw [eT]) (by rw [eT, s2]; rfl) ?_
          rw [eT, to36, t0, mk_0, bX8_parse_36]
          rw [mkI_pos (by decide)] at s1
          have em1 : mI + nI 1 = nI 0 := by decide
          simp (disch := first | omega | rfl | assumption) only [em1, s1, bX8_parse_49, bX8_parse_57, q_cl, q_ps, q_pn, bI_t, bI_f, gI_same, gI_ne, gR_pI, gJ_pI, gV_pI, gN_pI, gC_pI, gS_pI, gI_pJ, gR_pJ, gV_pJ, gN_pJ, gJ_same, gJ_ne, gI_pR, gJ_pR, gV_pR, gN_pR, gR_same, gR_ne, zin_t, zin_f, x_ltt, x_ltf, x_let, x_lef, x_eqt, x_eqf, n_0, n_1, n_2, n_3, n_4, n_5, n_6, n_7, n_8, n_9, n_10, n_11, n_12, n_16, n_19, n_20, n_24, n_25, n_32, n_40, n_48, n_50, n_60, n_64, n_80, n_96, n_114, n_684, n_1000, n_9330, n_16806, n_1000000, n_5764800, ↓n_m, m_ltI, m_leI, m_lt', m_le', m_eq, m_eq', m_add, m_sub, mm_lt, mm_le, mm_eq, q_sub, nI_add, q_mul, nI_clamp, bz_0, bz_1, q_bzb, b_0, b_1, b_ft, b_tf, ne_eq, not_true_eq_false, not_false_eq_true, decide_true, decide_false, Bool.and_self, Bool.false_and, Bool.and_false, Bool.and_true, Bool.true_and, Bool.not_true, Bool.not_false, ↓reduceIte]
        · rw [e3, if_neg h45] at s1 s2
          have eT : prT (chn n tb) = (false, 2, 0, 0) := by unfold prT; rw [if_pos t0, if_neg h45]
          rw [eT]
          refine ⟨h4, ?_, fun L z => (by cases z), by show 2 ≤ n; omega, f4⟩
          rw [mk_0] at s1
          have s2' : gI h4 4070 0 3 = nI 2 := s2
          have em1 : mI + nI 1 = nI 0 := by decide
          rw [to36, t0, mk_0, bX8_parse_36]
          simp (disch := first | omega | rfl | assumption) only [em1, s1, bX8_parse_49, show (nI 0 ≤ mI) = False from by decide, s2', b_ft, q_cl, q_ps, q_pn, bI_t, bI_f, gI_same, gI_ne, gR_pI, gJ_pI, gV_pI, gN_pI, gC_pI, gS_pI, gI_pJ, gR_pJ, gV_pJ, gN_pJ, gJ_same, gJ_ne, gI_pR, gJ_pR, gV_pR, gN_pR, gR_same, gR_ne, zin_t, zin_f, x_ltt, x_ltf, x_let, x_lef, x_eqt, x_eqf, n_0, n_1, n_2, n_3, n_4, n_5, n_6, n_7, n_8, n_9, n_10, n_11, n_12, n_16, n_19, n_20, n_24, n_25, n_32, n_40, n_48, n_50, n_60, n_64, n_80, n_96, n_114, n_684, n_1000, n_9330, n_16806, n_1000000, n_5764800, ↓n_m, m_ltI, m_leI, m_lt', m_le', m_eq, m_eq', m_add, m_sub, mm_lt, mm_le, mm_eq, q_sub, nI_add, q_mul, nI_clamp, bz_0, bz_1, q_bzb, b_0, b_1, b_ft, b_tf, ne_eq, not_true_eq_false, not_false_eq_true, decide_true, decide_false, Bool.and_self, Bool.false_and, Bool.and_false, Bool.and_true, Bool.true_and, Bool.not_true, Bool.not_false, ↓reduceIte]
          rfl
      · rw [if_neg t0] at r2
        obtain ⟨h4, s1, s2, s3⟩ := c_pass (d + 1) (r := 2) (a := 3) m3 (by decide) r2 (by decide)
        have f4 := fr_trans f3 (fr_mono s3 pAt_tp)
        have m4 := tapC_fr f4 m
        have e3 : ltc 2 (chn n tb 3) = sndc (chn n tb 3) := rfl
        rw [e3] at s1 s2
        have eT : prT (chn n tb) = (true, 3 + (if sndc (chn n tb 3) = 0 then 0 else 1), sndc (chn n tb 2), sndc (chn n tb 3)) := by unfold prT; rw [if_neg t0]
        refine tail h4 z_U m4 f4 (by rw [eT]) (by rw [eT]; exact s2) ?_
        rw [eT, to36, bX8_parse_36]
        simp (disch := first | omega | rfl | assumption) only [mk_add, bX8_parse_57, bX8_parse_65, s1, q_cl, q_ps, q_pn, bI_t, bI_f, gI_same, gI_ne, gR_pI, gJ_pI, gV_pI, gN_pI, gC_pI, gS_pI, gI_pJ, gR_pJ, gV_pJ, gN_pJ, gJ_same, gJ_ne, gI_pR, gJ_pR, gV_pR, gN_pR, gR_same, gR_ne, zin_t, zin_f, x_ltt, x_ltf, x_let, x_lef, x_eqt, x_eqf, n_0, n_1, n_2, n_3, n_4, n_5, n_6, n_7, n_8, n_9, n_10, n_11, n_12, n_16, n_19, n_20, n_24, n_25, n_32, n_40, n_48, n_50, n_60, n_64, n_80, n_96, n_114, n_684, n_1000, n_9330, n_16806, n_1000000, n_5764800, ↓n_m, m_ltI, m_leI, m_lt', m_le', m_eq, m_eq', m_add, m_sub, mm_lt, mm_le, mm_eq, q_sub, nI_add, q_mul, nI_clamp, bz_0, bz_1, q_bzb, b_0, b_1, b_ft, b_tf, ne_eq, not_true_eq_false, not_false_eq_true, decide_true, decide_false, Bool.and_self, Bool.false_and, Bool.and_false, Bool.and_true, Bool.true_and, Bool.not_true, Bool.not_false, ↓reduceIte]
    · rw [if_neg h62]
      rw [e1, if_neg h62] at q1 q2
      have q2' : gI h2 4070 0 3 = nI 1 := q2
      refine ⟨h2, ?_, fun L z => (by cases z), by show 1 ≤ n; omega, f2⟩
      rw [mk_0] at q1
      rw [to11, bX8_parse_11, mkI_pos (by omega)]
      simp (disch := first | omega | rfl | assumption) only [q1, bX8_parse_22, show (nI 0 ≤ mI) = False from by decide, bX8_parse_25, q2', Option.isSome_none, q_cl, q_ps, q_pn, bI_t, bI_f, gI_same, gI_ne, gR_pI, gJ_pI, gV_pI, gN_pI, gC_pI, gS_pI, gI_pJ, gR_pJ, gV_pJ, gN_pJ, gJ_same, gJ_ne, gI_pR, gJ_pR, gV_pR, gN_pR, gR_same, gR_ne, zin_t, zin_f, x_ltt, x_ltf, x_let, x_lef, x_eqt, x_eqf, n_0, n_1, n_2, n_3, n_4, n_5, n_6, n_7, n_8, n_9, n_10, n_11, n_12, n_16, n_19, n_20, n_24, n_25, n_32, n_40, n_48, n_50, n_60, n_64, n_80, n_96, n_114, n_684, n_1000, n_9330, n_16806, n_1000000, n_5764800, ↓n_m, m_ltI, m_leI, m_lt', m_le', m_eq, m_eq', m_add, m_sub, mm_lt, mm_le, mm_eq, q_sub, nI_add, q_mul, nI_clamp, bz_0, bz_1, q_bzb, b_0, b_1, b_ft, b_tf, ne_eq, not_true_eq_false, not_false_eq_true, decide_true, decide_false, Bool.and_self, Bool.false_and, Bool.and_false, Bool.and_true, Bool.true_and, Bool.not_true, Bool.not_false, ↓reduceIte]
