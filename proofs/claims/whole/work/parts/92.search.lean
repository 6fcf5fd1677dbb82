/-! ===== the class's search of the fewest simple laws ===== -/
def pPr : Nat → Nat → Nat → Prop := fun p i _ => (p = 6000 ∧ i = 100) ∨ p = 6311 ∨ p = 6341
/-- the pairs, in the class -/
def cPr (h : z_H) (n : Nat) (pf pt : Nat → List Nat) : Prop := cOK h ∧ n ≤ 6 ∧ gI h 8050 0 0 = nI n ∧ ∀ k, k < n → isW (pf k) ∧ isW (pt k) ∧ gI h 6321 0 k = nI (rowN (pf k)) ∧ gI h 6331 0 k = nI (rowN (pt k))
theorem fr_cOK {P : Nat → Nat → Nat → Prop} {h h' : z_H} (f : fr P h h') (m : cOK h) : cOK h' := ⟨fun p k hk => (fr_gR f _ _ _).trans (m.1 p k hk), (fr_gR f _ _ _).trans m.2.1, fun s hs => ⟨(fr_gR f _ _ _).trans (m.2.2 s hs).1, (fr_gR f _ _ _).trans (m.2.2 s hs).2⟩⟩
theorem pPr_kp {h h' : z_H} (f : fr pPr h h') : ∀ p i k, p ≠ 6000 → p ≠ 6311 → p ≠ 6341 → gI h' p i k = gI h p i k := fun p i k a b c => f.2 p i k (fun z => by
  rcases z with z | z | z
  · exact a z.1
  · exact b z
  · exact c z)
theorem cPr_fr {h h' : z_H} (f : fr pPr h h') {n : Nat} {pf pt : Nat → List Nat} (m : cPr h n pf pt) : cPr h' n pf pt := by
  obtain ⟨a1, a2, a3, a4⟩ := m
  have kp := pPr_kp f
  exact ⟨fr_cOK f a1, a2, (kp _ _ _ (by decide) (by decide) (by decide)).trans a3, fun k hk => ⟨(a4 k hk).1, (a4 k hk).2.1, (kp _ _ _ (by decide) (by decide) (by decide)).trans (a4 k hk).2.2.1, (kp _ _ _ (by decide) (by decide) (by decide)).trans (a4 k hk).2.2.2⟩⟩
theorem pC_pPr : ∀ p i k, pC 100 p i k → pPr p i k := fun _ _ _ z => Or.inl z
theorem xor8 : ∀ p, p < 8 → ∀ q, q < 8 → (p ^^^ q = 0) = (p = q) := by decide +kernel
theorem c_part_dig {w o : List Nat} (hw : isW w) (ho : isW o) {k : Nat} (hk : k < 8) : z_ush (nI (rowN w) ^^^ nI (rowN o)) (nI (3 * k)) &&& nI 7 = nI (w.getD k 0 ^^^ o.getD k 0) := by
  have hx : rowN w ^^^ rowN o < 2 ^ 24 := Nat.xor_lt_two_pow (rowN_lt' hw) (rowN_lt' ho)
  have e1 : nI (rowN w ^^^ rowN o) = nI (rowN w) ^^^ nI (rowN o) := (q_xor _ _).symm
  rw [← e1, q_ush (by omega) (by omega), show nI 7 = (7 : Int32) from rfl, q_and7, Nat.xor_div_two_pow, show (8 : Nat) = 2 ^ 3 from rfl, Nat.xor_mod_two_pow, show (2 : Nat) ^ 3 = 8 from rfl, show 2 ^ (3 * k) = 8 ^ k by rw [Nat.pow_mul], rowN_dig w k (fun x hx => by have := hw.2 x hx; omega), rowN_dig o k (fun x hx => by have := ho.2 x hx; omega)]
theorem c_row_dig {w : List Nat} (hw : isW w) {k : Nat} (hk : k < 8) : z_ush (nI (rowN w)) (nI (3 * k)) &&& nI 7 = nI (w.getD k 0) := by
  have := rowN_lt' hw
  rw [q_ush (by omega) (by omega), show nI 7 = (7 : Int32) from rfl, q_and7, show 2 ^ (3 * k) = 8 ^ k by rw [Nat.pow_mul], rowN_dig w k (fun x hx => by have := hw.2 x hx; omega)]
theorem c_fp_loop (d : Nat) (h : z_H) {w o : List Nat} (hw : isW w) (ho : isW o) (hn : w ≠ o) : ∀ (r k : Nat), k + r = 7 → k ≤ fj w o → EX d 61 2 [z_I (nI (rowN w)), z_I (nI (rowN o)), z_I (nI (3 * k))] [] h = some (some (z_I (nI (3 * fj w o))), h) := by
  obtain ⟨i1, i2, i3, i4, i5⟩ := fj_spec w o (fun x hx => (hw.2 x hx).1) (fun x hx => (ho.2 x hx).1) hn
  have w8 := hw.1
  have o8 := ho.1
  have j7 : fj w o ≤ 7 := by
    by_cases q : fj w o = 8
    · rw [q] at i2
      rw [List.getD_eq_getElem?_getD, List.getD_eq_getElem?_getD, List.getElem?_eq_none (by omega), List.getElem?_eq_none (by omega)] at i2
      exact absurd rfl i2
    · omega
  intro r
  induction r with
  | zero =>
    intro k hk hkj
    have : k = fj w o := by omega
    rw [bX5_partingBits_2, this]
    rw [if_pos (show (21 : Int32) ≤ nI (3 * fj w o) by rw [show (21 : Int32) = nI 21 from rfl, nI_leI (by omega) (by omega)]; omega), bX5_partingBits_25]
  | succ r ih =>
    intro k hk hkj
    have hd := c_part_dig hw ho (k := k) (by omega)
    rw [bX5_partingBits_2, if_neg (show ¬ (21 : Int32) ≤ nI (3 * k) by rw [show (21 : Int32) = nI 21 from rfl, nI_leI (by omega) (by omega)]; omega), show z_ush (nI (rowN w) ^^^ nI (rowN o)) (nI (3 * k)) &&& 7 = _ from hd]
    have hx := xor8 _ (show w.getD k 0 < 8 by have := getD_le6 hw k; omega) _ (show o.getD k 0 < 8 by have := getD_le6 ho k; omega)
    have hlt : w.getD k 0 ^^^ o.getD k 0 < 2 ^ 3 := Nat.xor_lt_two_pow (by have := getD_le6 hw k; omega) (by have := getD_le6 ho k; omega)
    by_cases q : k = fj w o
    · have hne : ¬ nI (w.getD k 0 ^^^ o.getD k 0) = 0 := by
        rw [q_eq0 (by omega), hx, q]; exact i2
      rw [if_pos hne, bX5_partingBits_25, q]
    · have hz : nI (w.getD k 0 ^^^ o.getD k 0) = 0 := by
        rw [q_eq0 (by omega), hx]; exact i1 k (by omega)
      rw [if_neg (fun z => z hz)]
      have := ih (k + 1) (by omega) (by omega)
      rw [show nI (3 * k) + 3 = nI (3 * (k + 1)) from nI_add (3 * k) 3]
      exact this
theorem c_firstParting (d : Nat) (h : z_H) {w o : List Nat} (hw : isW w) (ho : isW o) (hn : w ≠ o) : Rn (d + 1) 61 [z_I (nI (rowN w)), z_I (nI (rowN o))] h = some (some (z_I (nI (3 * fj w o))), h) := by
  rw [rX5_partingBits, bX5_partingBits_0]
  exact c_fp_loop d h hw ho hn 7 0 (by omega) (Nat.zero_le _)
/-- a law of the answer -/
def ans (h : z_H) (i s : Nat) : Prop := s < 684 ∧ gI h 6311 0 (3 * i) = nI (s_fr s) ∧ gI h 6311 0 (3 * i + 1) = mkI (s_to s) ∧ gI h 6311 0 (3 * i + 2) = nI (s % 19)
abbrev pKp (i : Nat) : Nat → Nat → Nat → Prop := fun p _ k => p = 6311 ∧ 3 * i ≤ k ∧ k < 3 * i + 3
theorem c_keep (d : Nat) {h : z_H} (ck : cOK h) {i f t p : Nat} (hi : i < 2) (hf : 1 ≤ f ∧ f ≤ 6) (ht : t ≤ 6) (hft : t ≠ f) (hp : p < 19) : ∃ h', Rn (d + 1) 63 [z_R 8050 0, z_I (nI i), z_I (nI f), z_I (nI t), z_I (nI p)] h = some (none, h') ∧ ans h' i (sN f t p) ∧ fr (pKp i) h h' := by
  obtain ⟨s1, s2, s3, s4⟩ := sN_ok hf ht hft hp
  have hi3 : i * 3 = 3 * i := by omega
  have e1 : s_fr (sN f t p) = f - 1 := by unfold s_fr; omega
  have e2 : nI t - nI 1 = mkI t := rfl
  refine ⟨pI (pI (pI h 6311 0 (3 * i) (nI (f - 1))) 6311 0 (3 * i + 1) (mkI t)) 6311 0 (3 * i + 2) (nI p), ?_, ⟨s1, ?_, ?_, ?_⟩, fr_trans (fr_trans (fr_pI h _ ⟨rfl, by omega, by omega⟩) (fr_pI _ _ ⟨rfl, by omega, by omega⟩)) (fr_pI _ _ ⟨rfl, by omega, by omega⟩)⟩
  · rw [rX5_keep, bX5_keep_0]
    simp (disch := first | omega | rfl | assumption) only [ck.1 8050 3 rfl, hi3, e2, q_cl, q_ps, q_pn, bI_t, bI_f, gI_same, gI_ne, gR_pI, gJ_pI, gV_pI, gN_pI, gC_pI, gS_pI, gI_pJ, gR_pJ, gV_pJ, gN_pJ, gJ_same, gJ_ne, gI_pR, gJ_pR, gV_pR, gN_pR, gR_same, gR_ne, zin_t, zin_f, x_ltt, x_ltf, x_let, x_lef, x_eqt, x_eqf, n_0, n_1, n_2, n_3, n_4, n_5, n_6, n_7, n_8, n_9, n_10, n_11, n_12, n_16, n_19, n_20, n_24, n_25, n_32, n_40, n_48, n_50, n_60, n_64, n_80, n_96, n_114, n_684, n_1000, n_9330, n_16806, n_1000000, n_5764800, ↓n_m, m_ltI, m_leI, m_lt', m_le', m_eq, m_eq', m_add, m_sub, mm_lt, mm_le, mm_eq, q_sub, nI_add, q_mul, nI_clamp, bz_0, bz_1, q_bzb, b_0, b_1, b_ft, b_tf, ne_eq, not_true_eq_false, not_false_eq_true, decide_true, decide_false, Bool.and_self, Bool.false_and, Bool.and_false, Bool.and_true, Bool.true_and, Bool.not_true, Bool.not_false, ↓reduceIte]
  · rw [e1]; simp (disch := first | omega | rfl | assumption) only [q_cl, q_ps, q_pn, bI_t, bI_f, gI_same, gI_ne, gR_pI, gJ_pI, gV_pI, gN_pI, gC_pI, gS_pI, gI_pJ, gR_pJ, gV_pJ, gN_pJ, gJ_same, gJ_ne, gI_pR, gJ_pR, gV_pR, gN_pR, gR_same, gR_ne, zin_t, zin_f, x_ltt, x_ltf, x_let, x_lef, x_eqt, x_eqf, n_0, n_1, n_2, n_3, n_4, n_5, n_6, n_7, n_8, n_9, n_10, n_11, n_12, n_16, n_19, n_20, n_24, n_25, n_32, n_40, n_48, n_50, n_60, n_64, n_80, n_96, n_114, n_684, n_1000, n_9330, n_16806, n_1000000, n_5764800, ↓n_m, m_ltI, m_leI, m_lt', m_le', m_eq, m_eq', m_add, m_sub, mm_lt, mm_le, mm_eq, q_sub, nI_add, q_mul, nI_clamp, bz_0, bz_1, q_bzb, b_0, b_1, b_ft, b_tf, ne_eq, not_true_eq_false, not_false_eq_true, decide_true, decide_false, Bool.and_self, Bool.false_and, Bool.and_false, Bool.and_true, Bool.true_and, Bool.not_true, Bool.not_false, ↓reduceIte]
  · rw [s3]; simp (disch := first | omega | rfl | assumption) only [q_cl, q_ps, q_pn, bI_t, bI_f, gI_same, gI_ne, gR_pI, gJ_pI, gV_pI, gN_pI, gC_pI, gS_pI, gI_pJ, gR_pJ, gV_pJ, gN_pJ, gJ_same, gJ_ne, gI_pR, gJ_pR, gV_pR, gN_pR, gR_same, gR_ne, zin_t, zin_f, x_ltt, x_ltf, x_let, x_lef, x_eqt, x_eqf, n_0, n_1, n_2, n_3, n_4, n_5, n_6, n_7, n_8, n_9, n_10, n_11, n_12, n_16, n_19, n_20, n_24, n_25, n_32, n_40, n_48, n_50, n_60, n_64, n_80, n_96, n_114, n_684, n_1000, n_9330, n_16806, n_1000000, n_5764800, ↓n_m, m_ltI, m_leI, m_lt', m_le', m_eq, m_eq', m_add, m_sub, mm_lt, mm_le, mm_eq, q_sub, nI_add, q_mul, nI_clamp, bz_0, bz_1, q_bzb, b_0, b_1, b_ft, b_tf, ne_eq, not_true_eq_false, not_false_eq_true, decide_true, decide_false, Bool.and_self, Bool.false_and, Bool.and_false, Bool.and_true, Bool.true_and, Bool.not_true, Bool.not_false, ↓reduceIte]
  · rw [s4]; simp (disch := first | omega | rfl | assumption) only [q_cl, q_ps, q_pn, bI_t, bI_f, gI_same, gI_ne, gR_pI, gJ_pI, gV_pI, gN_pI, gC_pI, gS_pI, gI_pJ, gR_pJ, gV_pJ, gN_pJ, gJ_same, gJ_ne, gI_pR, gJ_pR, gV_pR, gN_pR, gR_same, gR_ne, zin_t, zin_f, x_ltt, x_ltf, x_let, x_lef, x_eqt, x_eqf, n_0, n_1, n_2, n_3, n_4, n_5, n_6, n_7, n_8, n_9, n_10, n_11, n_12, n_16, n_19, n_20, n_24, n_25, n_32, n_40, n_48, n_50, n_60, n_64, n_80, n_96, n_114, n_684, n_1000, n_9330, n_16806, n_1000000, n_5764800, ↓n_m, m_ltI, m_leI, m_lt', m_le', m_eq, m_eq', m_add, m_sub, mm_lt, mm_le, mm_eq, q_sub, nI_add, q_mul, nI_clamp, bz_0, bz_1, q_bzb, b_0, b_1, b_ft, b_tf, ne_eq, not_true_eq_false, not_false_eq_true, decide_true, decide_false, Bool.and_self, Bool.false_and, Bool.and_false, Bool.and_true, Bool.true_and, Bool.not_true, Bool.not_false, ↓reduceIte]
theorem c_unl_a_loop (d : Nat) {h : z_H} (ck : cOK h) {n : Nat} {ws pt : Nat → List Nat} (hn : n ≤ 6) (e0 : gI h 8050 0 0 = nI n) (hw : ∀ i, i < n → isW (ws i) ∧ gI h 6321 0 i = nI (rowN (ws i))) (ho : ∀ i, i < n → isW (pt i) ∧ gI h 6331 0 i = nI (rowN (pt i))) : ∀ (r i : Nat), i + r = n → (∀ j, j < i → ws j = pt j) →
    ∃ u, u ≤ n ∧ (∀ j, j < u → ws j = pt j) ∧ (u < n → ws u ≠ pt u) ∧ EX d 60 2 [z_R 8050 0, z_R 6321 0, z_I (nI i)] [] h = some (some (z_I (nI u)), h) := by
  intro r
  induction r with
  | zero =>
    intro i hi hj
    refine ⟨i, by omega, hj, fun z => by omega, ?_⟩
    rw [bX5_firstUnlike_2_a]
    simp (disch := first | omega | rfl | assumption) only [e0, bX5_firstUnlike_28_a, q_cl, q_ps, q_pn, bI_t, bI_f, gI_same, gI_ne, gR_pI, gJ_pI, gV_pI, gN_pI, gC_pI, gS_pI, gI_pJ, gR_pJ, gV_pJ, gN_pJ, gJ_same, gJ_ne, gI_pR, gJ_pR, gV_pR, gN_pR, gR_same, gR_ne, zin_t, zin_f, x_ltt, x_ltf, x_let, x_lef, x_eqt, x_eqf, n_0, n_1, n_2, n_3, n_4, n_5, n_6, n_7, n_8, n_9, n_10, n_11, n_12, n_16, n_19, n_20, n_24, n_25, n_32, n_40, n_48, n_50, n_60, n_64, n_80, n_96, n_114, n_684, n_1000, n_9330, n_16806, n_1000000, n_5764800, ↓n_m, m_ltI, m_leI, m_lt', m_le', m_eq, m_eq', m_add, m_sub, mm_lt, mm_le, mm_eq, q_sub, nI_add, q_mul, nI_clamp, bz_0, bz_1, q_bzb, b_0, b_1, b_ft, b_tf, ne_eq, not_true_eq_false, not_false_eq_true, decide_true, decide_false, Bool.and_self, Bool.false_and, Bool.and_false, Bool.and_true, Bool.true_and, Bool.not_true, Bool.not_false, ↓reduceIte]
  | succ r ih =>
    intro i hi hj
    obtain ⟨w1, w2⟩ := hw i (by omega)
    obtain ⟨o1, o2⟩ := ho i (by omega)
    have r1 := rowN_lt' w1
    have r2 := rowN_lt' o1
    by_cases e : ws i = pt i
    · obtain ⟨u, q1, q2, q3, q4⟩ := ih (i + 1) (by omega) (fun j hj' => by
        by_cases z : j = i
        · subst z; exact e
        · exact hj j (by omega))
      refine ⟨u, q1, q2, q3, ?_⟩
      have e3 : rowN (ws i) = rowN (pt i) := by rw [e]
      rw [bX5_firstUnlike_2_a]
      simp (disch := first | omega | rfl | assumption) only [e0, ck.1 8050 5 rfl, w2, o2, e3, q_cl, q_ps, q_pn, bI_t, bI_f, gI_same, gI_ne, gR_pI, gJ_pI, gV_pI, gN_pI, gC_pI, gS_pI, gI_pJ, gR_pJ, gV_pJ, gN_pJ, gJ_same, gJ_ne, gI_pR, gJ_pR, gV_pR, gN_pR, gR_same, gR_ne, zin_t, zin_f, x_ltt, x_ltf, x_let, x_lef, x_eqt, x_eqf, n_0, n_1, n_2, n_3, n_4, n_5, n_6, n_7, n_8, n_9, n_10, n_11, n_12, n_16, n_19, n_20, n_24, n_25, n_32, n_40, n_48, n_50, n_60, n_64, n_80, n_96, n_114, n_684, n_1000, n_9330, n_16806, n_1000000, n_5764800, ↓n_m, m_ltI, m_leI, m_lt', m_le', m_eq, m_eq', m_add, m_sub, mm_lt, mm_le, mm_eq, q_sub, nI_add, q_mul, nI_clamp, bz_0, bz_1, q_bzb, b_0, b_1, b_ft, b_tf, ne_eq, not_true_eq_false, not_false_eq_true, decide_true, decide_false, Bool.and_self, Bool.false_and, Bool.and_false, Bool.and_true, Bool.true_and, Bool.not_true, Bool.not_false, ↓reduceIte]
      exact q4
    · refine ⟨i, by omega, hj, fun _ => e, ?_⟩
      have e3 : rowN (ws i) ≠ rowN (pt i) := fun z => e (rowN_inj _ _ w1.2 o1.2 z)
      rw [bX5_firstUnlike_2_a]
      simp (disch := first | omega | rfl | assumption) only [e0, ck.1 8050 5 rfl, w2, o2, bX5_firstUnlike_28_a, q_cl, q_ps, q_pn, bI_t, bI_f, gI_same, gI_ne, gR_pI, gJ_pI, gV_pI, gN_pI, gC_pI, gS_pI, gI_pJ, gR_pJ, gV_pJ, gN_pJ, gJ_same, gJ_ne, gI_pR, gJ_pR, gV_pR, gN_pR, gR_same, gR_ne, zin_t, zin_f, x_ltt, x_ltf, x_let, x_lef, x_eqt, x_eqf, n_0, n_1, n_2, n_3, n_4, n_5, n_6, n_7, n_8, n_9, n_10, n_11, n_12, n_16, n_19, n_20, n_24, n_25, n_32, n_40, n_48, n_50, n_60, n_64, n_80, n_96, n_114, n_684, n_1000, n_9330, n_16806, n_1000000, n_5764800, ↓n_m, m_ltI, m_leI, m_lt', m_le', m_eq, m_eq', m_add, m_sub, mm_lt, mm_le, mm_eq, q_sub, nI_add, q_mul, nI_clamp, bz_0, bz_1, q_bzb, b_0, b_1, b_ft, b_tf, ne_eq, not_true_eq_false, not_false_eq_true, decide_true, decide_false, Bool.and_self, Bool.false_and, Bool.and_false, Bool.and_true, Bool.true_and, Bool.not_true, Bool.not_false, ↓reduceIte]
theorem c_unl_a (d : Nat) {h : z_H} (ck : cOK h) {n : Nat} {ws pt : Nat → List Nat} (hn : n ≤ 6) (e0 : gI h 8050 0 0 = nI n) (hw : ∀ i, i < n → isW (ws i) ∧ gI h 6321 0 i = nI (rowN (ws i))) (ho : ∀ i, i < n → isW (pt i) ∧ gI h 6331 0 i = nI (rowN (pt i))) :
    ∃ u, u ≤ n ∧ (∀ j, j < u → ws j = pt j) ∧ (u < n → ws u ≠ pt u) ∧ Rn (d + 1) 60 [z_R 8050 0, z_R 6321 0] h = some (some (z_I (nI u)), h) := by
  obtain ⟨u, q1, q2, q3, q4⟩ := c_unl_a_loop d ck hn e0 hw ho n 0 (by omega) (fun j hj => by omega)
  refine ⟨u, q1, q2, q3, ?_⟩
  rw [rX5_firstUnlike_a, bX5_firstUnlike_0_a]
  exact q4
theorem c_mko_a_loop (d : Nat) {h : z_H} (ck : cOK h) {V n f t p : Nat} {ws pt : Nat → List Nat} (hV : V < 64) (hf : 1 ≤ f ∧ f ≤ 6) (ht : t ≤ 6) (hp : p < 19) (hC : cC h 100 V (smL f t p)) (hn : n ≤ 6) (e0 : gI h 8050 0 0 = nI n) (hw : ∀ i, i < n → isW (ws i) ∧ gI h 6321 0 i = nI (rowN (ws i))) (ho : ∀ i, i < n → isW (pt i) ∧ gI h 6331 0 i = nI (rowN (pt i))) (x2 x3 x4 x5 x6 x7 x8 x9 x10 x11 : Int32) : ∀ (r i : Nat), i + r = n → (∀ j, j < i → runW V (smL f t p) (ws j) = pt j) →
    ∃ m, m ≤ n ∧ (mkS V n f t p ws pt = true ↔ m = n) ∧ EX (d + 4) 59 118 [z_R 8050 0, z_R 6321 0, z_I x2, z_I x3, z_I x4, z_I x5, z_I x6, z_I x7, z_I x8, z_I x9, z_I x10, z_I x11, z_I (nI i)] [] h = EX (d + 4) 59 154 [z_R 8050 0, z_R 6321 0, z_I x2, z_I x3, z_I x4, z_I x5, z_I x6, z_I x7, z_I x8, z_I x9, z_I x10, z_I x11, z_I (nI m)] [] h := by
  intro r
  induction r with
  | zero =>
    intro i hi hj
    refine ⟨i, by omega, ⟨fun _ => by omega, fun _ => mkS_iff.mpr (fun j hj' => hj j (by omega))⟩, ?_⟩
    rw [bX5_closes_118_a]
    simp (disch := first | omega | rfl | assumption) only [e0, q_cl, q_ps, q_pn, bI_t, bI_f, gI_same, gI_ne, gR_pI, gJ_pI, gV_pI, gN_pI, gC_pI, gS_pI, gI_pJ, gR_pJ, gV_pJ, gN_pJ, gJ_same, gJ_ne, gI_pR, gJ_pR, gV_pR, gN_pR, gR_same, gR_ne, zin_t, zin_f, x_ltt, x_ltf, x_let, x_lef, x_eqt, x_eqf, n_0, n_1, n_2, n_3, n_4, n_5, n_6, n_7, n_8, n_9, n_10, n_11, n_12, n_16, n_19, n_20, n_24, n_25, n_32, n_40, n_48, n_50, n_60, n_64, n_80, n_96, n_114, n_684, n_1000, n_9330, n_16806, n_1000000, n_5764800, ↓n_m, m_ltI, m_leI, m_lt', m_le', m_eq, m_eq', m_add, m_sub, mm_lt, mm_le, mm_eq, q_sub, nI_add, q_mul, nI_clamp, bz_0, bz_1, q_bzb, b_0, b_1, b_ft, b_tf, ne_eq, not_true_eq_false, not_false_eq_true, decide_true, decide_false, Bool.and_self, Bool.false_and, Bool.and_false, Bool.and_true, Bool.true_and, Bool.not_true, Bool.not_false, ↓reduceIte]
  | succ r ih =>
    intro i hi hj
    obtain ⟨w1, w2⟩ := hw i (by omega)
    obtain ⟨o1, o2⟩ := ho i (by omega)
    have ok := smL_ok hf ht hp
    have e1 := c_over (d + 1) hV ok hC w1
    have w3 := runW_ok (V := V) ok.1 w1
    have r1 := rowN_lt' w3
    have r2 := rowN_lt' o1
    by_cases e : runW V (smL f t p) (ws i) = pt i
    · obtain ⟨m, m1, m2, m3⟩ := ih (i + 1) (by omega) (fun j hj' => by
        by_cases z : j = i
        · subst z; exact e
        · exact hj j (by omega))
      have e3 : rowN (runW V (smL f t p) (ws i)) = rowN (pt i) := by rw [e]
      refine ⟨m, m1, m2, ?_⟩
      rw [bX5_closes_118_a]
      simp (disch := first | omega | rfl | assumption) only [e0, ck.2.1, w2, e1, bX5_closes_138_a, ck.1 8050 5 rfl, o2, e3, q_cl, q_ps, q_pn, bI_t, bI_f, gI_same, gI_ne, gR_pI, gJ_pI, gV_pI, gN_pI, gC_pI, gS_pI, gI_pJ, gR_pJ, gV_pJ, gN_pJ, gJ_same, gJ_ne, gI_pR, gJ_pR, gV_pR, gN_pR, gR_same, gR_ne, zin_t, zin_f, x_ltt, x_ltf, x_let, x_lef, x_eqt, x_eqf, n_0, n_1, n_2, n_3, n_4, n_5, n_6, n_7, n_8, n_9, n_10, n_11, n_12, n_16, n_19, n_20, n_24, n_25, n_32, n_40, n_48, n_50, n_60, n_64, n_80, n_96, n_114, n_684, n_1000, n_9330, n_16806, n_1000000, n_5764800, ↓n_m, m_ltI, m_leI, m_lt', m_le', m_eq, m_eq', m_add, m_sub, mm_lt, mm_le, mm_eq, q_sub, nI_add, q_mul, nI_clamp, bz_0, bz_1, q_bzb, b_0, b_1, b_ft, b_tf, ne_eq, not_true_eq_false, not_false_eq_true, decide_true, decide_false, Bool.and_self, Bool.false_and, Bool.and_false, Bool.and_true, Bool.true_and, Bool.not_true, Bool.not_false, ↓reduceIte]
      exact m3
    · have e3 : rowN (runW V (smL f t p) (ws i)) ≠ rowN (pt i) := fun z => e (rowN_inj _ _ w3.2 o1.2 z)
      refine ⟨i, by omega, ⟨fun z => absurd (mkS_iff.mp z i (by omega)) e, fun z => by omega⟩, ?_⟩
      rw [bX5_closes_118_a]
      simp (disch := first | omega | rfl | assumption) only [e0, ck.2.1, w2, e1, bX5_closes_138_a, ck.1 8050 5 rfl, o2, q_cl, q_ps, q_pn, bI_t, bI_f, gI_same, gI_ne, gR_pI, gJ_pI, gV_pI, gN_pI, gC_pI, gS_pI, gI_pJ, gR_pJ, gV_pJ, gN_pJ, gJ_same, gJ_ne, gI_pR, gJ_pR, gV_pR, gN_pR, gR_same, gR_ne, zin_t, zin_f, x_ltt, x_ltf, x_let, x_lef, x_eqt, x_eqf, n_0, n_1, n_2, n_3, n_4, n_5, n_6, n_7, n_8, n_9, n_10, n_11, n_12, n_16, n_19, n_20, n_24, n_25, n_32, n_40, n_48, n_50, n_60, n_64, n_80, n_96, n_114, n_684, n_1000, n_9330, n_16806, n_1000000, n_5764800, ↓n_m, m_ltI, m_leI, m_lt', m_le', m_eq, m_eq', m_add, m_sub, mm_lt, mm_le, mm_eq, q_sub, nI_add, q_mul, nI_clamp, bz_0, bz_1, q_bzb, b_0, b_1, b_ft, b_tf, ne_eq, not_true_eq_false, not_false_eq_true, decide_true, decide_false, Bool.and_self, Bool.false_and, Bool.and_false, Bool.and_true, Bool.true_and, Bool.not_true, Bool.not_false, ↓reduceIte]
/-- places, one after another -/
theorem c_plc_a (d : Nat) {V n f t sl : Nat} {ws pt : Nat → List Nat} (hV : V < 64) (hf : 1 ≤ f ∧ f ≤ 6) (ht : t ≤ 6) (hft : t ≠ f) (hsl : sl < 2) (x4 x5 x6 x7 x8 : Int32) : ∀ (r p : Nat) (u : z_V) (h : z_H), p + r = 19 → cOK h → n ≤ 6 → gI h 8050 0 0 = nI n → (∀ i, i < n → isW (ws i) ∧ gI h 6321 0 i = nI (rowN (ws i))) → (∀ i, i < n → isW (pt i) ∧ gI h 6331 0 i = nI (rowN (pt i))) → (∀ q, q < p → mkS V n f t q ws pt = false) →
    ∃ h', fr (fun q i k => pC 100 q i k ∨ pKp sl q i k) h h' ∧ ((∃ q, q < 19 ∧ mkS V n f t q ws pt = true ∧ (∀ j, j < q → mkS V n f t j ws pt = false) ∧ ans h' sl (sN f t q) ∧ EX (d + 4) 59 94 [z_R 8050 0, z_R 6321 0, z_I (nI sl), z_I (nI V), z_I x4, z_I x5, z_I x6, z_I x7, z_I x8, z_I (nI f), z_I (nI t), z_I (nI p), u] [] h = some (some (z_I (nI 1)), h')) ∨ ((∀ j, j < 19 → mkS V n f t j ws pt = false) ∧ EX (d + 4) 59 94 [z_R 8050 0, z_R 6321 0, z_I (nI sl), z_I (nI V), z_I x4, z_I x5, z_I x6, z_I x7, z_I x8, z_I (nI f), z_I (nI t), z_I (nI p), u] [] h = some (some (z_I (nI 0)), h'))) := by
  intro r
  induction r with
  | zero =>
    intro p u h hp ck hn e0 hw ho hb
    have : p = 19 := by omega
    subst this
    refine ⟨h, fr_rfl _ _, Or.inr ⟨hb, ?_⟩⟩
    rw [bX5_closes_94_a]
    simp (disch := first | omega | rfl | assumption) only [bX5_closes_182_a, q_cl, q_ps, q_pn, bI_t, bI_f, gI_same, gI_ne, gR_pI, gJ_pI, gV_pI, gN_pI, gC_pI, gS_pI, gI_pJ, gR_pJ, gV_pJ, gN_pJ, gJ_same, gJ_ne, gI_pR, gJ_pR, gV_pR, gN_pR, gR_same, gR_ne, zin_t, zin_f, x_ltt, x_ltf, x_let, x_lef, x_eqt, x_eqf, n_0, n_1, n_2, n_3, n_4, n_5, n_6, n_7, n_8, n_9, n_10, n_11, n_12, n_16, n_19, n_20, n_24, n_25, n_32, n_40, n_48, n_50, n_60, n_64, n_80, n_96, n_114, n_684, n_1000, n_9330, n_16806, n_1000000, n_5764800, ↓n_m, m_ltI, m_leI, m_lt', m_le', m_eq, m_eq', m_add, m_sub, mm_lt, mm_le, mm_eq, q_sub, nI_add, q_mul, nI_clamp, bz_0, bz_1, q_bzb, b_0, b_1, b_ft, b_tf, ne_eq, not_true_eq_false, not_false_eq_true, decide_true, decide_false, Bool.and_self, Bool.false_and, Bool.and_false, Bool.and_true, Bool.true_and, Bool.not_true, Bool.not_false, ↓reduceIte]
  | succ r ih =>
    intro p u h hp ck hn e0 hw ho hb
    obtain ⟨h1, p1, p2, p3⟩ := c_setSimple (d + 2) hV hf ht (show p < 19 by omega) 100 h
    have ck1 := fr_cOK p3 ck
    have kp : ∀ q i k, q ≠ 6000 → gI h1 q i k = gI h q i k := fun q i k z => p3.2 q i k (fun y => z y.1)
    have e01 : gI h1 8050 0 0 = nI n := (kp _ _ _ (by decide)).trans e0
    have hw1 : ∀ i, i < n → isW (ws i) ∧ gI h1 6321 0 i = nI (rowN (ws i)) := fun i hi => ⟨(hw i hi).1, (kp _ _ _ (by decide)).trans (hw i hi).2⟩
    have ho1 : ∀ i, i < n → isW (pt i) ∧ gI h1 6331 0 i = nI (rowN (pt i)) := fun i hi => ⟨(ho i hi).1, (kp _ _ _ (by decide)).trans (ho i hi).2⟩
    obtain ⟨m, m1, m2, m3⟩ := c_mko_a_loop d ck1 hV hf ht (show p < 19 by omega) p2 hn e01 hw1 ho1 (nI sl) (nI V) x4 x5 x6 x7 x8 (nI f) (nI t) (nI p) n 0 (by omega) (fun j hj => by omega)
    cases hx : mkS V n f t p ws pt with
    | true =>
      rw [m2.mp hx] at m3
      obtain ⟨h2, k1, k2, k3⟩ := c_keep (d + 3) ck1 hsl hf ht hft (show p < 19 by omega)
      refine ⟨h2, fr_trans (fr_mono p3 (fun q i k z => Or.inl z)) (fr_mono k3 (fun q i k z => Or.inr z)), Or.inl ⟨p, by omega, hx, hb, k2, ?_⟩⟩
      rw [bX5_closes_94_a]
      simp (disch := first | omega | rfl | assumption) only [ck.2.1, p1, bX5_closes_115_a, m3, bX5_closes_154_a, e01, k1, bX5_closes_174_a, q_cl, q_ps, q_pn, bI_t, bI_f, gI_same, gI_ne, gR_pI, gJ_pI, gV_pI, gN_pI, gC_pI, gS_pI, gI_pJ, gR_pJ, gV_pJ, gN_pJ, gJ_same, gJ_ne, gI_pR, gJ_pR, gV_pR, gN_pR, gR_same, gR_ne, zin_t, zin_f, x_ltt, x_ltf, x_let, x_lef, x_eqt, x_eqf, n_0, n_1, n_2, n_3, n_4, n_5, n_6, n_7, n_8, n_9, n_10, n_11, n_12, n_16, n_19, n_20, n_24, n_25, n_32, n_40, n_48, n_50, n_60, n_64, n_80, n_96, n_114, n_684, n_1000, n_9330, n_16806, n_1000000, n_5764800, ↓n_m, m_ltI, m_leI, m_lt', m_le', m_eq, m_eq', m_add, m_sub, mm_lt, mm_le, mm_eq, q_sub, nI_add, q_mul, nI_clamp, bz_0, bz_1, q_bzb, b_0, b_1, b_ft, b_tf, ne_eq, not_true_eq_false, not_false_eq_true, decide_true, decide_false, Bool.and_self, Bool.false_and, Bool.and_false, Bool.and_true, Bool.true_and, Bool.not_true, Bool.not_false, ↓reduceIte]
    | false =>
      have mn : m ≠ n := fun z => by
        have := m2.mpr z
        rw [hx] at this
        cases this
      obtain ⟨h', q1, q2⟩ := ih (p + 1) (z_I (nI m)) h1 (by omega) ck1 hn e01 hw1 ho1 (fun q hq => by
        by_cases z : q = p
        · subst z; exact hx
        · exact hb q (by omega))
      have step : EX (d + 4) 59 94 [z_R 8050 0, z_R 6321 0, z_I (nI sl), z_I (nI V), z_I x4, z_I x5, z_I x6, z_I x7, z_I x8, z_I (nI f), z_I (nI t), z_I (nI p), u] [] h = EX (d + 4) 59 94 [z_R 8050 0, z_R 6321 0, z_I (nI sl), z_I (nI V), z_I x4, z_I x5, z_I x6, z_I x7, z_I x8, z_I (nI f), z_I (nI t), z_I (nI (p + 1)), z_I (nI m)] [] h1 := by
        rw [bX5_closes_94_a]
        simp (disch := first | omega | rfl | assumption) only [ck.2.1, p1, bX5_closes_115_a, m3, bX5_closes_154_a, e01, bX5_closes_176_a, q_cl, q_ps, q_pn, bI_t, bI_f, gI_same, gI_ne, gR_pI, gJ_pI, gV_pI, gN_pI, gC_pI, gS_pI, gI_pJ, gR_pJ, gV_pJ, gN_pJ, gJ_same, gJ_ne, gI_pR, gJ_pR, gV_pR, gN_pR, gR_same, gR_ne, zin_t, zin_f, x_ltt, x_ltf, x_let, x_lef, x_eqt, x_eqf, n_0, n_1, n_2, n_3, n_4, n_5, n_6, n_7, n_8, n_9, n_10, n_11, n_12, n_16, n_19, n_20, n_24, n_25, n_32, n_40, n_48, n_50, n_60, n_64, n_80, n_96, n_114, n_684, n_1000, n_9330, n_16806, n_1000000, n_5764800, ↓n_m, m_ltI, m_leI, m_lt', m_le', m_eq, m_eq', m_add, m_sub, mm_lt, mm_le, mm_eq, q_sub, nI_add, q_mul, nI_clamp, bz_0, bz_1, q_bzb, b_0, b_1, b_ft, b_tf, ne_eq, not_true_eq_false, not_false_eq_true, decide_true, decide_false, Bool.and_self, Bool.false_and, Bool.and_false, Bool.and_true, Bool.true_and, Bool.not_true, Bool.not_false, ↓reduceIte]
      refine ⟨h', fr_trans (fr_mono p3 (fun q i k z => Or.inl z)) q1, ?_⟩
      rw [step]
      exact q2
theorem c_closes_a (d : Nat) {V n sl : Nat} {ws pt : Nat → List Nat} (hV : V < 64) (hsl : sl < 2) {h : z_H} (ck : cOK h) (hn : n ≤ 6) (e0 : gI h 8050 0 0 = nI n) (hw : ∀ i, i < n → isW (ws i) ∧ gI h 6321 0 i = nI (rowN (ws i))) (ho : ∀ i, i < n → isW (pt i) ∧ gI h 6331 0 i = nI (rowN (pt i))) (hns : same n ws pt = false) :
    ∃ h', fr (fun q i k => pC 100 q i k ∨ pKp sl q i k) h h' ∧ Rn (d + 5) 59 [z_R 8050 0, z_R 6321 0, z_I (nI sl), z_I (nI V)] h = some (some (z_I (bI (fstS V n ws pt).isSome)), h') ∧ ∀ s, fstS V n ws pt = some s → ans h' sl s := by
  obtain ⟨u, q1, q2, q3, q4⟩ := c_unl_a (d + 3) ck hn e0 hw ho
  have hu : u < n := by
    by_cases z : u < n
    · exact z
    · have : same n ws pt = true := same_iff.mpr (fun i hi => q2 i (by omega))
      rw [hns] at this
      cases this
  have hne := q3 hu
  obtain ⟨w1, w2⟩ := hw u hu
  obtain ⟨o1, o2⟩ := ho u hu
  have w8 := w1.1
  have o8 := o1.1
  have l1 := c_lengthOf (d + 3) w1 h
  have l2 := c_lengthOf (d + 3) o1 h
  have r1 := rowN_lt' w1
  have r2 := rowN_lt' o1
  rw [rX5_closes_a, bX5_closes_0_a]
  by_cases hl : (pt u).length ≤ (ws u).length
  · obtain ⟨c1, c2, c3⟩ := cft_ok w1 o1 hne hl
    obtain ⟨i1, i2, i3, i4, i5⟩ := fj_spec (ws u) (pt u) (fun x hx => (w1.2 x hx).1) (fun x hx => (o1.2 x hx).1) hne
    have j7 : fj (ws u) (pt u) < 8 := by have := i3 hl; omega
    have fp := c_firstParting (d + 3) h w1 o1 hne
    have dg1 := c_row_dig w1 j7
    have dg2 := c_row_dig o1 j7
    obtain ⟨h', g1, g2⟩ := c_plc_a d hV c1 c2 c3 hsl (nI u) (nI (rowN (ws u))) (nI (rowN (pt u))) (nI ((ws u).length - (pt u).length)) (nI (3 * fj (ws u) (pt u))) 19 0 z_U h (by omega) ck hn e0 hw ho (fun q hq => by omega)
    have ef : (ws u).getD (fj (ws u) (pt u)) 0 = cfr (ws u) (pt u) := rfl
    have step : z_cl (Rn (d + 4) 60 [z_R 8050 0, z_R 6321 0] h) (fun v h' => EX (d + 4) 59 5 [z_R 8050 0, z_R 6321 0, z_I (nI sl), z_I (nI V), z_U, z_U, z_U, z_U, z_U, z_U, z_U, z_U, z_U] (z_ps v []) h') = EX (d + 4) 59 94 [z_R 8050 0, z_R 6321 0, z_I (nI sl), z_I (nI V), z_I (nI u), z_I (nI (rowN (ws u))), z_I (nI (rowN (pt u))), z_I (nI ((ws u).length - (pt u).length)), z_I (nI (3 * fj (ws u) (pt u))), z_I (nI (cfr (ws u) (pt u))), z_I (nI (cto (ws u) (pt u))), z_I (nI 0), z_U] [] h := by
      unfold cto
      by_cases hs : (pt u).length < (ws u).length
      · rw [if_pos hs]
        simp (disch := first | omega | rfl | assumption) only [q4, bX5_closes_5_a, e0, bX5_closes_18_a, ck.1 8050 5 rfl, w2, o2, l1, bX5_closes_38_a, l2, bX5_closes_43_a, bX5_closes_53_a, fp, bX5_closes_60_a, dg1, ef, bX5_closes_89_a, q_cl, q_ps, q_pn, bI_t, bI_f, gI_same, gI_ne, gR_pI, gJ_pI, gV_pI, gN_pI, gC_pI, gS_pI, gI_pJ, gR_pJ, gV_pJ, gN_pJ, gJ_same, gJ_ne, gI_pR, gJ_pR, gV_pR, gN_pR, gR_same, gR_ne, zin_t, zin_f, x_ltt, x_ltf, x_let, x_lef, x_eqt, x_eqf, n_0, n_1, n_2, n_3, n_4, n_5, n_6, n_7, n_8, n_9, n_10, n_11, n_12, n_16, n_19, n_20, n_24, n_25, n_32, n_40, n_48, n_50, n_60, n_64, n_80, n_96, n_114, n_684, n_1000, n_9330, n_16806, n_1000000, n_5764800, ↓n_m, m_ltI, m_leI, m_lt', m_le', m_eq, m_eq', m_add, m_sub, mm_lt, mm_le, mm_eq, q_sub, nI_add, q_mul, nI_clamp, bz_0, bz_1, q_bzb, b_0, b_1, b_ft, b_tf, ne_eq, not_true_eq_false, not_false_eq_true, decide_true, decide_false, Bool.and_self, Bool.false_and, Bool.and_false, Bool.and_true, Bool.true_and, Bool.not_true, Bool.not_false, ↓reduceIte]
      · rw [if_neg hs]
        simp (disch := first | omega | rfl | assumption) only [q4, bX5_closes_5_a, e0, bX5_closes_18_a, ck.1 8050 5 rfl, w2, o2, l1, bX5_closes_38_a, l2, bX5_closes_43_a, bX5_closes_53_a, fp, bX5_closes_60_a, dg1, ef, bX5_closes_81_a, dg2, bX5_closes_89_a, q_cl, q_ps, q_pn, bI_t, bI_f, gI_same, gI_ne, gR_pI, gJ_pI, gV_pI, gN_pI, gC_pI, gS_pI, gI_pJ, gR_pJ, gV_pJ, gN_pJ, gJ_same, gJ_ne, gI_pR, gJ_pR, gV_pR, gN_pR, gR_same, gR_ne, zin_t, zin_f, x_ltt, x_ltf, x_let, x_lef, x_eqt, x_eqf, n_0, n_1, n_2, n_3, n_4, n_5, n_6, n_7, n_8, n_9, n_10, n_11, n_12, n_16, n_19, n_20, n_24, n_25, n_32, n_40, n_48, n_50, n_60, n_64, n_80, n_96, n_114, n_684, n_1000, n_9330, n_16806, n_1000000, n_5764800, ↓n_m, m_ltI, m_leI, m_lt', m_le', m_eq, m_eq', m_add, m_sub, mm_lt, mm_le, mm_eq, q_sub, nI_add, q_mul, nI_clamp, bz_0, bz_1, q_bzb, b_0, b_1, b_ft, b_tf, ne_eq, not_true_eq_false, not_false_eq_true, decide_true, decide_false, Bool.and_self, Bool.false_and, Bool.and_false, Bool.and_true, Bool.true_and, Bool.not_true, Bool.not_false, ↓reduceIte]
    refine ⟨h', g1, ?_⟩
    rw [step]
    rcases g2 with ⟨q, a1, a2, a3, a4, a5⟩ | ⟨a1, a2⟩
    · have ea := fstS_at hu w1 o1 hne hl a1 a2 a3
      rw [ea]
      exact ⟨a5, fun s hs => by cases hs; exact a4⟩
    · have ea := fstS_no hu w1 hne a1
      rw [ea]
      exact ⟨a2, fun s hs => by cases hs⟩
  · have ea := fstS_short (V := V) hu w1 hne hl
    rw [ea]
    refine ⟨h, fr_rfl _ _, ?_, fun s hs => by cases hs⟩
    have hneg : ((0 : Int32) ≤ nI (ws u).length - nI (pt u).length) = False := eq_false (fun z => by
      have h1 : (nI (ws u).length - nI (pt u).length).toInt = ((ws u).length : Int) - (pt u).length := by
        have a8 : (ws u).length < 9 := by omega
        have b8 : (pt u).length < 9 := by omega
        have tab : ∀ a, a < 9 → ∀ b, b < 9 → (nI a - nI b).toInt = (a : Int) - b := by decide +kernel
        exact tab _ a8 _ b8
      rw [Int32.le_iff_toInt_le, h1] at z
      have z0 : (0 : Int32).toInt = 0 := by decide
      omega)
    have hneg' : (nI 0 ≤ nI (ws u).length - nI (pt u).length) = False := hneg
    simp (disch := first | omega | rfl | assumption) only [q4, bX5_closes_5_a, e0, bX5_closes_18_a, ck.1 8050 5 rfl, w2, o2, l1, bX5_closes_38_a, l2, bX5_closes_43_a, hneg', Option.isSome_none, q_cl, q_ps, q_pn, bI_t, bI_f, gI_same, gI_ne, gR_pI, gJ_pI, gV_pI, gN_pI, gC_pI, gS_pI, gI_pJ, gR_pJ, gV_pJ, gN_pJ, gJ_same, gJ_ne, gI_pR, gJ_pR, gV_pR, gN_pR, gR_same, gR_ne, zin_t, zin_f, x_ltt, x_ltf, x_let, x_lef, x_eqt, x_eqf, n_0, n_1, n_2, n_3, n_4, n_5, n_6, n_7, n_8, n_9, n_10, n_11, n_12, n_16, n_19, n_20, n_24, n_25, n_32, n_40, n_48, n_50, n_60, n_64, n_80, n_96, n_114, n_684, n_1000, n_9330, n_16806, n_1000000, n_5764800, ↓n_m, m_ltI, m_leI, m_lt', m_le', m_eq, m_eq', m_add, m_sub, mm_lt, mm_le, mm_eq, q_sub, nI_add, q_mul, nI_clamp, bz_0, bz_1, q_bzb, b_0, b_1, b_ft, b_tf, ne_eq, not_true_eq_false, not_false_eq_true, decide_true, decide_false, Bool.and_self, Bool.false_and, Bool.and_false, Bool.and_true, Bool.true_and, Bool.not_true, Bool.not_false, ↓reduceIte]
theorem c_unl_b_loop (d : Nat) {h : z_H} (ck : cOK h) {n : Nat} {ws pt : Nat → List Nat} (hn : n ≤ 6) (e0 : gI h 8050 0 0 = nI n) (hw : ∀ i, i < n → isW (ws i) ∧ gI h 6341 0 i = nI (rowN (ws i))) (ho : ∀ i, i < n → isW (pt i) ∧ gI h 6331 0 i = nI (rowN (pt i))) : ∀ (r i : Nat), i + r = n → (∀ j, j < i → ws j = pt j) →
    ∃ u, u ≤ n ∧ (∀ j, j < u → ws j = pt j) ∧ (u < n → ws u ≠ pt u) ∧ EX d 60 2 [z_R 8050 0, z_R 6341 0, z_I (nI i)] [] h = some (some (z_I (nI u)), h) := by
  intro r
  induction r with
  | zero =>
    intro i hi hj
    refine ⟨i, by omega, hj, fun z => by omega, ?_⟩
    rw [bX5_firstUnlike_2_b]
    simp (disch := first | omega | rfl | assumption) only [e0, bX5_firstUnlike_28_b, q_cl, q_ps, q_pn, bI_t, bI_f, gI_same, gI_ne, gR_pI, gJ_pI, gV_pI, gN_pI, gC_pI, gS_pI, gI_pJ, gR_pJ, gV_pJ, gN_pJ, gJ_same, gJ_ne, gI_pR, gJ_pR, gV_pR, gN_pR, gR_same, gR_ne, zin_t, zin_f, x_ltt, x_ltf, x_let, x_lef, x_eqt, x_eqf, n_0, n_1, n_2, n_3, n_4, n_5, n_6, n_7, n_8, n_9, n_10, n_11, n_12, n_16, n_19, n_20, n_24, n_25, n_32, n_40, n_48, n_50, n_60, n_64, n_80, n_96, n_114, n_684, n_1000, n_9330, n_16806, n_1000000, n_5764800, ↓n_m, m_ltI, m_leI, m_lt', m_le', m_eq, m_eq', m_add, m_sub, mm_lt, mm_le, mm_eq, q_sub, nI_add, q_mul, nI_clamp, bz_0, bz_1, q_bzb, b_0, b_1, b_ft, b_tf, ne_eq, not_true_eq_false, not_false_eq_true, decide_true, decide_false, Bool.and_self, Bool.false_and, Bool.and_false, Bool.and_true, Bool.true_and, Bool.not_true, Bool.not_false, ↓reduceIte]
  | succ r ih =>
    intro i hi hj
    obtain ⟨w1, w2⟩ := hw i (by omega)
    obtain ⟨o1, o2⟩ := ho i (by omega)
    have r1 := rowN_lt' w1
    have r2 := rowN_lt' o1
    by_cases e : ws i = pt i
    · obtain ⟨u, q1, q2, q3, q4⟩ := ih (i + 1) (by omega) (fun j hj' => by
        by_cases z : j = i
        · subst z; exact e
        · exact hj j (by omega))
      refine ⟨u, q1, q2, q3, ?_⟩
      have e3 : rowN (ws i) = rowN (pt i) := by rw [e]
      rw [bX5_firstUnlike_2_b]
      simp (disch := first | omega | rfl | assumption) only [e0, ck.1 8050 5 rfl, w2, o2, e3, q_cl, q_ps, q_pn, bI_t, bI_f, gI_same, gI_ne, gR_pI, gJ_pI, gV_pI, gN_pI, gC_pI, gS_pI, gI_pJ, gR_pJ, gV_pJ, gN_pJ, gJ_same, gJ_ne, gI_pR, gJ_pR, gV_pR, gN_pR, gR_same, gR_ne, zin_t, zin_f, x_ltt, x_ltf, x_let, x_lef, x_eqt, x_eqf, n_0, n_1, n_2, n_3, n_4, n_5, n_6, n_7, n_8, n_9, n_10, n_11, n_12, n_16, n_19, n_20, n_24, n_25, n_32, n_40, n_48, n_50, n_60, n_64, n_80, n_96, n_114, n_684, n_1000, n_9330, n_16806, n_1000000, n_5764800, ↓n_m, m_ltI, m_leI, m_lt', m_le', m_eq, m_eq', m_add, m_sub, mm_lt, mm_le, mm_eq, q_sub, nI_add, q_mul, nI_clamp, bz_0, bz_1, q_bzb, b_0, b_1, b_ft, b_tf, ne_eq, not_true_eq_false, not_false_eq_true, decide_true, decide_false, Bool.and_self, Bool.false_and, Bool.and_false, Bool.and_true, Bool.true_and, Bool.not_true, Bool.not_false, ↓reduceIte]
      exact q4
    · refine ⟨i, by omega, hj, fun _ => e, ?_⟩
      have e3 : rowN (ws i) ≠ rowN (pt i) := fun z => e (rowN_inj _ _ w1.2 o1.2 z)
      rw [bX5_firstUnlike_2_b]
      simp (disch := first | omega | rfl | assumption) only [e0, ck.1 8050 5 rfl, w2, o2, bX5_firstUnlike_28_b, q_cl, q_ps, q_pn, bI_t, bI_f, gI_same, gI_ne, gR_pI, gJ_pI, gV_pI, gN_pI, gC_pI, gS_pI, gI_pJ, gR_pJ, gV_pJ, gN_pJ, gJ_same, gJ_ne, gI_pR, gJ_pR, gV_pR, gN_pR, gR_same, gR_ne, zin_t, zin_f, x_ltt, x_ltf, x_let, x_lef, x_eqt, x_eqf, n_0, n_1, n_2, n_3, n_4, n_5, n_6, n_7, n_8, n_9, n_10, n_11, n_12, n_16, n_19, n_20, n_24, n_25, n_32, n_40, n_48, n_50, n_60, n_64, n_80, n_96, n_114, n_684, n_1000, n_9330, n_16806, n_1000000, n_5764800, ↓n_m, m_ltI, m_leI, m_lt', m_le', m_eq, m_eq', m_add, m_sub, mm_lt, mm_le, mm_eq, q_sub, nI_add, q_mul, nI_clamp, bz_0, bz_1, q_bzb, b_0, b_1, b_ft, b_tf, ne_eq, not_true_eq_false, not_false_eq_true, decide_true, decide_false, Bool.and_self, Bool.false_and, Bool.and_false, Bool.and_true, Bool.true_and, Bool.not_true, Bool.not_false, ↓reduceIte]
theorem c_unl_b (d : Nat) {h : z_H} (ck : cOK h) {n : Nat} {ws pt : Nat → List Nat} (hn : n ≤ 6) (e0 : gI h 8050 0 0 = nI n) (hw : ∀ i, i < n → isW (ws i) ∧ gI h 6341 0 i = nI (rowN (ws i))) (ho : ∀ i, i < n → isW (pt i) ∧ gI h 6331 0 i = nI (rowN (pt i))) :
    ∃ u, u ≤ n ∧ (∀ j, j < u → ws j = pt j) ∧ (u < n → ws u ≠ pt u) ∧ Rn (d + 1) 60 [z_R 8050 0, z_R 6341 0] h = some (some (z_I (nI u)), h) := by
  obtain ⟨u, q1, q2, q3, q4⟩ := c_unl_b_loop d ck hn e0 hw ho n 0 (by omega) (fun j hj => by omega)
  refine ⟨u, q1, q2, q3, ?_⟩
  rw [rX5_firstUnlike_b, bX5_firstUnlike_0_b]
  exact q4
theorem c_mko_b_loop (d : Nat) {h : z_H} (ck : cOK h) {V n f t p : Nat} {ws pt : Nat → List Nat} (hV : V < 64) (hf : 1 ≤ f ∧ f ≤ 6) (ht : t ≤ 6) (hp : p < 19) (hC : cC h 100 V (smL f t p)) (hn : n ≤ 6) (e0 : gI h 8050 0 0 = nI n) (hw : ∀ i, i < n → isW (ws i) ∧ gI h 6341 0 i = nI (rowN (ws i))) (ho : ∀ i, i < n → isW (pt i) ∧ gI h 6331 0 i = nI (rowN (pt i))) (x2 x3 x4 x5 x6 x7 x8 x9 x10 x11 : Int32) : ∀ (r i : Nat), i + r = n → (∀ j, j < i → runW V (smL f t p) (ws j) = pt j) →
    ∃ m, m ≤ n ∧ (mkS V n f t p ws pt = true ↔ m = n) ∧ EX (d + 4) 59 118 [z_R 8050 0, z_R 6341 0, z_I x2, z_I x3, z_I x4, z_I x5, z_I x6, z_I x7, z_I x8, z_I x9, z_I x10, z_I x11, z_I (nI i)] [] h = EX (d + 4) 59 154 [z_R 8050 0, z_R 6341 0, z_I x2, z_I x3, z_I x4, z_I x5, z_I x6, z_I x7, z_I x8, z_I x9, z_I x10, z_I x11, z_I (nI m)] [] h := by
  intro r
  induction r with
  | zero =>
    intro i hi hj
    refine ⟨i, by omega, ⟨fun _ => by omega, fun _ => mkS_iff.mpr (fun j hj' => hj j (by omega))⟩, ?_⟩
    rw [bX5_closes_118_b]
    simp (disch := first | omega | rfl | assumption) only [e0, q_cl, q_ps, q_pn, bI_t, bI_f, gI_same, gI_ne, gR_pI, gJ_pI, gV_pI, gN_pI, gC_pI, gS_pI, gI_pJ, gR_pJ, gV_pJ, gN_pJ, gJ_same, gJ_ne, gI_pR, gJ_pR, gV_pR, gN_pR, gR_same, gR_ne, zin_t, zin_f, x_ltt, x_ltf, x_let, x_lef, x_eqt, x_eqf, n_0, n_1, n_2, n_3, n_4, n_5, n_6, n_7, n_8, n_9, n_10, n_11, n_12, n_16, n_19, n_20, n_24, n_25, n_32, n_40, n_48, n_50, n_60, n_64, n_80, n_96, n_114, n_684, n_1000, n_9330, n_16806, n_1000000, n_5764800, ↓n_m, m_ltI, m_leI, m_lt', m_le', m_eq, m_eq', m_add, m_sub, mm_lt, mm_le, mm_eq, q_sub, nI_add, q_mul, nI_clamp, bz_0, bz_1, q_bzb, b_0, b_1, b_ft, b_tf, ne_eq, not_true_eq_false, not_false_eq_true, decide_true, decide_false, Bool.and_self, Bool.false_and, Bool.and_false, Bool.and_true, Bool.true_and, Bool.not_true, Bool.not_false, ↓reduceIte]
  | succ r ih =>
    intro i hi hj
    obtain ⟨w1, w2⟩ := hw i (by omega)
    obtain ⟨o1, o2⟩ := ho i (by omega)
    have ok := smL_ok hf ht hp
    have e1 := c_over (d + 1) hV ok hC w1
    have w3 := runW_ok (V := V) ok.1 w1
    have r1 := rowN_lt' w3
    have r2 := rowN_lt' o1
    by_cases e : runW V (smL f t p) (ws i) = pt i
    · obtain ⟨m, m1, m2, m3⟩ := ih (i + 1) (by omega) (fun j hj' => by
        by_cases z : j = i
        · subst z; exact e
        · exact hj j (by omega))
      have e3 : rowN (runW V (smL f t p) (ws i)) = rowN (pt i) := by rw [e]
      refine ⟨m, m1, m2, ?_⟩
      rw [bX5_closes_118_b]
      simp (disch := first | omega | rfl | assumption) only [e0, ck.2.1, w2, e1, bX5_closes_138_b, ck.1 8050 5 rfl, o2, e3, q_cl, q_ps, q_pn, bI_t, bI_f, gI_same, gI_ne, gR_pI, gJ_pI, gV_pI, gN_pI, gC_pI, gS_pI, gI_pJ, gR_pJ, gV_pJ, gN_pJ, gJ_same, gJ_ne, gI_pR, gJ_pR, gV_pR, gN_pR, gR_same, gR_ne, zin_t, zin_f, x_ltt, x_ltf, x_let, x_lef, x_eqt, x_eqf, n_0, n_1, n_2, n_3, n_4, n_5, n_6, n_7, n_8, n_9, n_10, n_11, n_12, n_16, n_19, n_20, n_24, n_25, n_32, n_40, n_48, n_50, n_60, n_64, n_80, n_96, n_114, n_684, n_1000, n_9330, n_16806, n_1000000, n_5764800, ↓n_m, m_ltI, m_leI, m_lt', m_le', m_eq, m_eq', m_add, m_sub, mm_lt, mm_le, mm_eq, q_sub, nI_add, q_mul, nI_clamp, bz_0, bz_1, q_bzb, b_0, b_1, b_ft, b_tf, ne_eq, not_true_eq_false, not_false_eq_true, decide_true, decide_false, Bool.and_self, Bool.false_and, Bool.and_false, Bool.and_true, Bool.true_and, Bool.not_true, Bool.not_false, ↓reduceIte]
      exact m3
    · have e3 : rowN (runW V (smL f t p) (ws i)) ≠ rowN (pt i) := fun z => e (rowN_inj _ _ w3.2 o1.2 z)
      refine ⟨i, by omega, ⟨fun z => absurd (mkS_iff.mp z i (by omega)) e, fun z => by omega⟩, ?_⟩
      rw [bX5_closes_118_b]
      simp (disch := first | omega | rfl | assumption) only [e0, ck.2.1, w2, e1, bX5_closes_138_b, ck.1 8050 5 rfl, o2, q_cl, q_ps, q_pn, bI_t, bI_f, gI_same, gI_ne, gR_pI, gJ_pI, gV_pI, gN_pI, gC_pI, gS_pI, gI_pJ, gR_pJ, gV_pJ, gN_pJ, gJ_same, gJ_ne, gI_pR, gJ_pR, gV_pR, gN_pR, gR_same, gR_ne, zin_t, zin_f, x_ltt, x_ltf, x_let, x_lef, x_eqt, x_eqf, n_0, n_1, n_2, n_3, n_4, n_5, n_6, n_7, n_8, n_9, n_10, n_11, n_12, n_16, n_19, n_20, n_24, n_25, n_32, n_40, n_48, n_50, n_60, n_64, n_80, n_96, n_114, n_684, n_1000, n_9330, n_16806, n_1000000, n_5764800, ↓n_m, m_ltI, m_leI, m_lt', m_le', m_eq, m_eq', m_add, m_sub, mm_lt, mm_le, mm_eq, q_sub, nI_add, q_mul, nI_clamp, bz_0, bz_1, q_bzb, b_0, b_1, b_ft, b_tf, ne_eq, not_true_eq_false, not_false_eq_true, decide_true, decide_false, Bool.and_self, Bool.false_and, Bool.and_false, Bool.and_true, Bool.true_and, Bool.not_true, Bool.not_false, ↓reduceIte]
/-- places, one after another -/
theorem c_plc_b (d : Nat) {V n f t sl : Nat} {ws pt : Nat → List Nat} (hV : V < 64) (hf : 1 ≤ f ∧ f ≤ 6) (ht : t ≤ 6) (hft : t ≠ f) (hsl : sl < 2) (x4 x5 x6 x7 x8 : Int32) : ∀ (r p : Nat) (u : z_V) (h : z_H), p + r = 19 → cOK h → n ≤ 6 → gI h 8050 0 0 = nI n → (∀ i, i < n → isW (ws i) ∧ gI h 6341 0 i = nI (rowN (ws i))) → (∀ i, i < n → isW (pt i) ∧ gI h 6331 0 i = nI (rowN (pt i))) → (∀ q, q < p → mkS V n f t q ws pt = false) →
    ∃ h', fr (fun q i k => pC 100 q i k ∨ pKp sl q i k) h h' ∧ ((∃ q, q < 19 ∧ mkS V n f t q ws pt = true ∧ (∀ j, j < q → mkS V n f t j ws pt = false) ∧ ans h' sl (sN f t q) ∧ EX (d + 4) 59 94 [z_R 8050 0, z_R 6341 0, z_I (nI sl), z_I (nI V), z_I x4, z_I x5, z_I x6, z_I x7, z_I x8, z_I (nI f), z_I (nI t), z_I (nI p), u] [] h = some (some (z_I (nI 1)), h')) ∨ ((∀ j, j < 19 → mkS V n f t j ws pt = false) ∧ EX (d + 4) 59 94 [z_R 8050 0, z_R 6341 0, z_I (nI sl), z_I (nI V), z_I x4, z_I x5, z_I x6, z_I x7, z_I x8, z_I (nI f), z_I (nI t), z_I (nI p), u] [] h = some (some (z_I (nI 0)), h'))) := by
  intro r
  induction r with
  | zero =>
    intro p u h hp ck hn e0 hw ho hb
    have : p = 19 := by omega
    subst this
    refine ⟨h, fr_rfl _ _, Or.inr ⟨hb, ?_⟩⟩
    rw [bX5_closes_94_b]
    simp (disch := first | omega | rfl | assumption) only [bX5_closes_182_b, q_cl, q_ps, q_pn, bI_t, bI_f, gI_same, gI_ne, gR_pI, gJ_pI, gV_pI, gN_pI, gC_pI, gS_pI, gI_pJ, gR_pJ, gV_pJ, gN_pJ, gJ_same, gJ_ne, gI_pR, gJ_pR, gV_pR, gN_pR, gR_same, gR_ne, zin_t, zin_f, x_ltt, x_ltf, x_let, x_lef, x_eqt, x_eqf, n_0, n_1, n_2, n_3, n_4, n_5, n_6, n_7, n_8, n_9, n_10, n_11, n_12, n_16, n_19, n_20, n_24, n_25, n_32, n_40, n_48, n_50, n_60, n_64, n_80, n_96, n_114, n_684, n_1000, n_9330, n_16806, n_1000000, n_5764800, ↓n_m, m_ltI, m_leI, m_lt', m_le', m_eq, m_eq', m_add, m_sub, mm_lt, mm_le, mm_eq, q_sub, nI_add, q_mul, nI_clamp, bz_0, bz_1, q_bzb, b_0, b_1, b_ft, b_tf, ne_eq, not_true_eq_false, not_false_eq_true, decide_true, decide_false, Bool.and_self, Bool.false_and, Bool.and_false, Bool.and_true, Bool.true_and, Bool.not_true, Bool.not_false, ↓reduceIte]
  | succ r ih =>
    intro p u h hp ck hn e0 hw ho hb
    obtain ⟨h1, p1, p2, p3⟩ := c_setSimple (d + 2) hV hf ht (show p < 19 by omega) 100 h
    have ck1 := fr_cOK p3 ck
    have kp : ∀ q i k, q ≠ 6000 → gI h1 q i k = gI h q i k := fun q i k z => p3.2 q i k (fun y => z y.1)
    have e01 : gI h1 8050 0 0 = nI n := (kp _ _ _ (by decide)).trans e0
    have hw1 : ∀ i, i < n → isW (ws i) ∧ gI h1 6341 0 i = nI (rowN (ws i)) := fun i hi => ⟨(hw i hi).1, (kp _ _ _ (by decide)).trans (hw i hi).2⟩
    have ho1 : ∀ i, i < n → isW (pt i) ∧ gI h1 6331 0 i = nI (rowN (pt i)) := fun i hi => ⟨(ho i hi).1, (kp _ _ _ (by decide)).trans (ho i hi).2⟩
    obtain ⟨m, m1, m2, m3⟩ := c_mko_b_loop d ck1 hV hf ht (show p < 19 by omega) p2 hn e01 hw1 ho1 (nI sl) (nI V) x4 x5 x6 x7 x8 (nI f) (nI t) (nI p) n 0 (by omega) (fun j hj => by omega)
    cases hx : mkS V n f t p ws pt with
    | true =>
      rw [m2.mp hx] at m3
      obtain ⟨h2, k1, k2, k3⟩ := c_keep (d + 3) ck1 hsl hf ht hft (show p < 19 by omega)
      refine ⟨h2, fr_trans (fr_mono p3 (fun q i k z => Or.inl z)) (fr_mono k3 (fun q i k z => Or.inr z)), Or.inl ⟨p, by omega, hx, hb, k2, ?_⟩⟩
      rw [bX5_closes_94_b]
      simp (disch := first | omega | rfl | assumption) only [ck.2.1, p1, bX5_closes_115_b, m3, bX5_closes_154_b, e01, k1, bX5_closes_174_b, q_cl, q_ps, q_pn, bI_t, bI_f, gI_same, gI_ne, gR_pI, gJ_pI, gV_pI, gN_pI, gC_pI, gS_pI, gI_pJ, gR_pJ, gV_pJ, gN_pJ, gJ_same, gJ_ne, gI_pR, gJ_pR, gV_pR, gN_pR, gR_same, gR_ne, zin_t, zin_f, x_ltt, x_ltf, x_let, x_lef, x_eqt, x_eqf, n_0, n_1, n_2, n_3, n_4, n_5, n_6, n_7, n_8, n_9, n_10, n_11, n_12, n_16, n_19, n_20, n_24, n_25, n_32, n_40, n_48, n_50, n_60, n_64, n_80, n_96, n_114, n_684, n_1000, n_9330, n_16806, n_1000000, n_5764800, ↓n_m, m_ltI, m_leI, m_lt', m_le', m_eq, m_eq', m_add, m_sub, mm_lt, mm_le, mm_eq, q_sub, nI_add, q_mul, nI_clamp, bz_0, bz_1, q_bzb, b_0, b_1, b_ft, b_tf, ne_eq, not_true_eq_false, not_false_eq_true, decide_true, decide_false, Bool.and_self, Bool.false_and, Bool.and_false, Bool.and_true, Bool.true_and, Bool.not_true, Bool.not_false, ↓reduceIte]
    | false =>
      have mn : m ≠ n := fun z => by
        have := m2.mpr z
        rw [hx] at this
        cases this
      obtain ⟨h', q1, q2⟩ := ih (p + 1) (z_I (nI m)) h1 (by omega) ck1 hn e01 hw1 ho1 (fun q hq => by
        by_cases z : q = p
        · subst z; exact hx
        · exact hb q (by omega))
      have step : EX (d + 4) 59 94 [z_R 8050 0, z_R 6341 0, z_I (nI sl), z_I (nI V), z_I x4, z_I x5, z_I x6, z_I x7, z_I x8, z_I (nI f), z_I (nI t), z_I (nI p), u] [] h = EX (d + 4) 59 94 [z_R 8050 0, z_R 6341 0, z_I (nI sl), z_I (nI V), z_I x4, z_I x5, z_I x6, z_I x7, z_I x8, z_I (nI f), z_I (nI t), z_I (nI (p + 1)), z_I (nI m)] [] h1 := by
        rw [bX5_closes_94_b]
        simp (disch := first | omega | rfl | assumption) only [ck.2.1, p1, bX5_closes_115_b, m3, bX5_closes_154_b, e01, bX5_closes_176_b, q_cl, q_ps, q_pn, bI_t, bI_f, gI_same, gI_ne, gR_pI, gJ_pI, gV_pI, gN_pI, gC_pI, gS_pI, gI_pJ, gR_pJ, gV_pJ, gN_pJ, gJ_same, gJ_ne, gI_pR, gJ_pR, gV_pR, gN_pR, gR_same, gR_ne, zin_t, zin_f, x_ltt, x_ltf, x_let, x_lef, x_eqt, x_eqf, n_0, n_1, n_2, n_3, n_4, n_5, n_6, n_7, n_8, n_9, n_10, n_11, n_12, n_16, n_19, n_20, n_24, n_25, n_32, n_40, n_48, n_50, n_60, n_64, n_80, n_96, n_114, n_684, n_1000, n_9330, n_16806, n_1000000, n_5764800, ↓n_m, m_ltI, m_leI, m_lt', m_le', m_eq, m_eq', m_add, m_sub, mm_lt, mm_le, mm_eq, q_sub, nI_add, q_mul, nI_clamp, bz_0, bz_1, q_bzb, b_0, b_1, b_ft, b_tf, ne_eq, not_true_eq_false, not_false_eq_true, decide_true, decide_false, Bool.and_self, Bool.false_and, Bool.and_false, Bool.and_true, Bool.true_and, Bool.not_true, Bool.not_false, ↓reduceIte]
      refine ⟨h', fr_trans (fr_mono p3 (fun q i k z => Or.inl z)) q1, ?_⟩
      rw [step]
      exact q2
theorem c_closes_b (d : Nat) {V n sl : Nat} {ws pt : Nat → List Nat} (hV : V < 64) (hsl : sl < 2) {h : z_H} (ck : cOK h) (hn : n ≤ 6) (e0 : gI h 8050 0 0 = nI n) (hw : ∀ i, i < n → isW (ws i) ∧ gI h 6341 0 i = nI (rowN (ws i))) (ho : ∀ i, i < n → isW (pt i) ∧ gI h 6331 0 i = nI (rowN (pt i))) (hns : same n ws pt = false) :
    ∃ h', fr (fun q i k => pC 100 q i k ∨ pKp sl q i k) h h' ∧ Rn (d + 5) 59 [z_R 8050 0, z_R 6341 0, z_I (nI sl), z_I (nI V)] h = some (some (z_I (bI (fstS V n ws pt).isSome)), h') ∧ ∀ s, fstS V n ws pt = some s → ans h' sl s := by
  obtain ⟨u, q1, q2, q3, q4⟩ := c_unl_b (d + 3) ck hn e0 hw ho
  have hu : u < n := by
    by_cases z : u < n
    · exact z
    · have : same n ws pt = true := same_iff.mpr (fun i hi => q2 i (by omega))
      rw [hns] at this
      cases this
  have hne := q3 hu
  obtain ⟨w1, w2⟩ := hw u hu
  obtain ⟨o1, o2⟩ := ho u hu
  have w8 := w1.1
  have o8 := o1.1
  have l1 := c_lengthOf (d + 3) w1 h
  have l2 := c_lengthOf (d + 3) o1 h
  have r1 := rowN_lt' w1
  have r2 := rowN_lt' o1
  rw [rX5_closes_b, bX5_closes_0_b]
  by_cases hl : (pt u).length ≤ (ws u).length
  · obtain ⟨c1, c2, c3⟩ := cft_ok w1 o1 hne hl
    obtain ⟨i1, i2, i3, i4, i5⟩ := fj_spec (ws u) (pt u) (fun x hx => (w1.2 x hx).1) (fun x hx => (o1.2 x hx).1) hne
    have j7 : fj (ws u) (pt u) < 8 := by have := i3 hl; omega
    have fp := c_firstParting (d + 3) h w1 o1 hne
    have dg1 := c_row_dig w1 j7
    have dg2 := c_row_dig o1 j7
    obtain ⟨h', g1, g2⟩ := c_plc_b d hV c1 c2 c3 hsl (nI u) (nI (rowN (ws u))) (nI (rowN (pt u))) (nI ((ws u).length - (pt u).length)) (nI (3 * fj (ws u) (pt u))) 19 0 z_U h (by omega) ck hn e0 hw ho (fun q hq => by omega)
    have ef : (ws u).getD (fj (ws u) (pt u)) 0 = cfr (ws u) (pt u) := rfl
    have step : z_cl (Rn (d + 4) 60 [z_R 8050 0, z_R 6341 0] h) (fun v h' => EX (d + 4) 59 5 [z_R 8050 0, z_R 6341 0, z_I (nI sl), z_I (nI V), z_U, z_U, z_U, z_U, z_U, z_U, z_U, z_U, z_U] (z_ps v []) h') = EX (d + 4) 59 94 [z_R 8050 0, z_R 6341 0, z_I (nI sl), z_I (nI V), z_I (nI u), z_I (nI (rowN (ws u))), z_I (nI (rowN (pt u))), z_I (nI ((ws u).length - (pt u).length)), z_I (nI (3 * fj (ws u) (pt u))), z_I (nI (cfr (ws u) (pt u))), z_I (nI (cto (ws u) (pt u))), z_I (nI 0), z_U] [] h := by
      unfold cto
      by_cases hs : (pt u).length < (ws u).length
      · rw [if_pos hs]
        simp (disch := first | omega | rfl | assumption) only [q4, bX5_closes_5_b, e0, bX5_closes_18_b, ck.1 8050 5 rfl, w2, o2, l1, bX5_closes_38_b, l2, bX5_closes_43_b, bX5_closes_53_b, fp, bX5_closes_60_b, dg1, ef, bX5_closes_89_b, q_cl, q_ps, q_pn, bI_t, bI_f, gI_same, gI_ne, gR_pI, gJ_pI, gV_pI, gN_pI, gC_pI, gS_pI, gI_pJ, gR_pJ, gV_pJ, gN_pJ, gJ_same, gJ_ne, gI_pR, gJ_pR, gV_pR, gN_pR, gR_same, gR_ne, zin_t, zin_f, x_ltt, x_ltf, x_let, x_lef, x_eqt, x_eqf, n_0, n_1, n_2, n_3, n_4, n_5, n_6, n_7, n_8, n_9, n_10, n_11, n_12, n_16, n_19, n_20, n_24, n_25, n_32, n_40, n_48, n_50, n_60, n_64, n_80, n_96, n_114, n_684, n_1000, n_9330, n_16806, n_1000000, n_5764800, ↓n_m, m_ltI, m_leI, m_lt', m_le', m_eq, m_eq', m_add, m_sub, mm_lt, mm_le, mm_eq, q_sub, nI_add, q_mul, nI_clamp, bz_0, bz_1, q_bzb, b_0, b_1, b_ft, b_tf, ne_eq, not_true_eq_false, not_false_eq_true, decide_true, decide_false, Bool.and_self, Bool.false_and, Bool.and_false, Bool.and_true, Bool.true_and, Bool.not_true, Bool.not_false, ↓reduceIte]
      · rw [if_neg hs]
        simp (disch := first | omega | rfl | assumption) only [q4, bX5_closes_5_b, e0, bX5_closes_18_b, ck.1 8050 5 rfl, w2, o2, l1, bX5_closes_38_b, l2, bX5_closes_43_b, bX5_closes_53_b, fp, bX5_closes_60_b, dg1, ef, bX5_closes_81_b, dg2, bX5_closes_89_b, q_cl, q_ps, q_pn, bI_t, bI_f, gI_same, gI_ne, gR_pI, gJ_pI, gV_pI, gN_pI, gC_pI, gS_pI, gI_pJ, gR_pJ, gV_pJ, gN_pJ, gJ_same, gJ_ne, gI_pR, gJ_pR, gV_pR, gN_pR, gR_same, gR_ne, zin_t, zin_f, x_ltt, x_ltf, x_let, x_lef, x_eqt, x_eqf, n_0, n_1, n_2, n_3, n_4, n_5, n_6, n_7, n_8, n_9, n_10, n_11, n_12, n_16, n_19, n_20, n_24, n_25, n_32, n_40, n_48, n_50, n_60, n_64, n_80, n_96, n_114, n_684, n_1000, n_9330, n_16806, n_1000000, n_5764800, ↓n_m, m_ltI, m_leI, m_lt', m_le', m_eq, m_eq', m_add, m_sub, mm_lt, mm_le, mm_eq, q_sub, nI_add, q_mul, nI_clamp, bz_0, bz_1, q_bzb, b_0, b_1, b_ft, b_tf, ne_eq, not_true_eq_false, not_false_eq_true, decide_true, decide_false, Bool.and_self, Bool.false_and, Bool.and_false, Bool.and_true, Bool.true_and, Bool.not_true, Bool.not_false, ↓reduceIte]
    refine ⟨h', g1, ?_⟩
    rw [step]
    rcases g2 with ⟨q, a1, a2, a3, a4, a5⟩ | ⟨a1, a2⟩
    · have ea := fstS_at hu w1 o1 hne hl a1 a2 a3
      rw [ea]
      exact ⟨a5, fun s hs => by cases hs; exact a4⟩
    · have ea := fstS_no hu w1 hne a1
      rw [ea]
      exact ⟨a2, fun s hs => by cases hs⟩
  · have ea := fstS_short (V := V) hu w1 hne hl
    rw [ea]
    refine ⟨h, fr_rfl _ _, ?_, fun s hs => by cases hs⟩
    have hneg : ((0 : Int32) ≤ nI (ws u).length - nI (pt u).length) = False := eq_false (fun z => by
      have h1 : (nI (ws u).length - nI (pt u).length).toInt = ((ws u).length : Int) - (pt u).length := by
        have a8 : (ws u).length < 9 := by omega
        have b8 : (pt u).length < 9 := by omega
        have tab : ∀ a, a < 9 → ∀ b, b < 9 → (nI a - nI b).toInt = (a : Int) - b := by decide +kernel
        exact tab _ a8 _ b8
      rw [Int32.le_iff_toInt_le, h1] at z
      have z0 : (0 : Int32).toInt = 0 := by decide
      omega)
    have hneg' : (nI 0 ≤ nI (ws u).length - nI (pt u).length) = False := hneg
    simp (disch := first | omega | rfl | assumption) only [q4, bX5_closes_5_b, e0, bX5_closes_18_b, ck.1 8050 5 rfl, w2, o2, l1, bX5_closes_38_b, l2, bX5_closes_43_b, hneg', Option.isSome_none, q_cl, q_ps, q_pn, bI_t, bI_f, gI_same, gI_ne, gR_pI, gJ_pI, gV_pI, gN_pI, gC_pI, gS_pI, gI_pJ, gR_pJ, gV_pJ, gN_pJ, gJ_same, gJ_ne, gI_pR, gJ_pR, gV_pR, gN_pR, gR_same, gR_ne, zin_t, zin_f, x_ltt, x_ltf, x_let, x_lef, x_eqt, x_eqf, n_0, n_1, n_2, n_3, n_4, n_5, n_6, n_7, n_8, n_9, n_10, n_11, n_12, n_16, n_19, n_20, n_24, n_25, n_32, n_40, n_48, n_50, n_60, n_64, n_80, n_96, n_114, n_684, n_1000, n_9330, n_16806, n_1000000, n_5764800, ↓n_m, m_ltI, m_leI, m_lt', m_le', m_eq, m_eq', m_add, m_sub, mm_lt, mm_le, mm_eq, q_sub, nI_add, q_mul, nI_clamp, bz_0, bz_1, q_bzb, b_0, b_1, b_ft, b_tf, ne_eq, not_true_eq_false, not_false_eq_true, decide_true, decide_false, Bool.and_self, Bool.false_and, Bool.and_false, Bool.and_true, Bool.true_and, Bool.not_true, Bool.not_false, ↓reduceIte]
