/-! ===== speeches, parted ===== -/
def alB (P : Nat → Bool) : Nat → Bool
  | 0 => true
  | n + 1 => alB P n && P n
theorem alB_succ (P : Nat → Bool) (n : Nat) : alB P (n + 1) = (alB P n && P n) := rfl
theorem alB_stay {P : Nat → Bool} {k : Nat} (h : alB P k = false) : ∀ r, alB P (k + r) = false := by
  intro r
  induction r with
  | zero => exact h
  | succ r ih => show (alB P (k + r) && P (k + r)) = false; rw [ih, Bool.false_and]
theorem alB_no {P : Nat → Bool} {k : Nat} (n : Nat) (hk : k < n) (h : P k = false) : alB P n = false := by
  have := alB_stay (P := P) (k := k + 1) (by rw [alB_succ, h, Bool.and_false]) (n - (k + 1))
  rwa [show k + 1 + (n - (k + 1)) = n by omega] at this
/-- two rows of words are the same -/
def alk (nl : Nat) (f g : Nat → List Nat) : Bool := alB (fun i => decide (f i = g i)) nl
abbrev pSpk (p : Nat) : Nat → Nat → Nat → Prop := fun q _ k => q = 96291 ∧ 12 * p ≤ k ∧ k < 12 * p + 12
theorem pSpk_g (p : Nat) : ∀ q i k, pSpk p q i k → grp q i k ∈ [12] := by
  rintro q i k ⟨rfl, -⟩
  exact (by decide : (12 : Nat) ∈ [12])
/-- all that the class needs to speak the list -/
def cSp (h : z_H) (N : Nat) (xs : Nat → Int32) (G : Gh) (e : Int32) (rd sh : Nat → Nat) (n : Nat) (wl wp wy : Nat → Nat) (nl : Nat) (lw : Nat → List Nat) : Prop := InvG h N xs G e ∧ iLdG h (gnL G) rd sh n wl wp wy ∧ (∀ k, k < n → ∀ p, p < 8 → gI h 64221 0 (8 * k + p) = comI (arr rd sh (wp k) (wy k) p)) ∧ iLiG h nl lw
theorem cSp_fr {h h' : z_H} (f : frX [12] h h') {N : Nat} {xs : Nat → Int32} {G : Gh} {e : Int32} {rd sh : Nat → Nat} {n : Nat} {wl wp wy : Nat → Nat} {nl : Nat} {lw : Nat → List Nat} (m : cSp h N xs G e rd sh n wl wp wy nl lw) : cSp h' N xs G e rd sh n wl wp wy nl lw := ⟨Inv_scr f m.1, iLdG_fr f (by decide) (by decide) (by decide) m.2.1, fun k hk p hp => (f.1 _ _ _ (by exact (by decide : (9 : Nat) ∉ [12]))).trans (m.2.2.1 k hk p hp), iLiG_fr f (by decide) m.2.2.2⟩
theorem c_list_loop (d : Nat) {N : Nat} {xs : Nat → Int32} {G : Gh} {e : Int32} {rd sh : Nat → Nat} {n : Nat} {wl wp wy : Nat → Nat} {nl : Nat} {lw : Nat → List Nat} {p y : Nat} (hp : p < 8) (hy : y < 1000) : ∀ (r i : Nat) (h : z_H), i + r = nl → cSp h N xs G e rd sh n wl wp wy nl lw → (∀ j, j < i → gI h 96291 0 (12 * p + j) = nI (rowN (spF G rd sh n wl wp wy p y (lw j)))) →
    ∃ h', EX (d + 4) 50 2 [z_R 11030 0, z_I (nI p), z_I (nI y), z_I (nI i)] [] h = some (none, h') ∧ (∀ j, j < nl → gI h' 96291 0 (12 * p + j) = nI (rowN (spF G rd sh n wl wp wy p y (lw j)))) ∧ fr (pSpk p) h h' := by
  intro r
  induction r with
  | zero =>
    intro i h hi m hj
    obtain ⟨m1, m2, m3, l1, l2, l3, l4⟩ := m
    have : i = nl := by omega
    subst this
    refine ⟨h, ?_, hj, fr_rfl _ _⟩
    rw [bX3_speakList_2]
    simp (disch := first | omega | rfl | assumption) only [l2, bX3_speakList_39, q_cl, q_ps, q_pn, bI_t, bI_f, gI_same, gI_ne, gR_pI, gJ_pI, gV_pI, gN_pI, gC_pI, gS_pI, gI_pJ, gR_pJ, gV_pJ, gN_pJ, gJ_same, gJ_ne, gI_pR, gJ_pR, gV_pR, gN_pR, gR_same, gR_ne, zin_t, zin_f, x_ltt, x_ltf, x_let, x_lef, x_eqt, x_eqf, n_0, n_1, n_2, n_3, n_4, n_5, n_6, n_7, n_8, n_9, n_10, n_11, n_12, n_16, n_19, n_20, n_24, n_25, n_32, n_40, n_48, n_50, n_60, n_64, n_80, n_96, n_114, n_684, n_1000, n_9330, n_16806, n_1000000, n_5764800, ↓n_m, m_ltI, m_leI, m_lt', m_le', m_eq, m_eq', m_add, m_sub, mm_lt, mm_le, mm_eq, q_sub, nI_add, q_mul, nI_clamp, bz_0, bz_1, q_bzb, b_0, b_1, b_ft, b_tf, ne_eq, not_true_eq_false, not_false_eq_true, decide_true, decide_false, Bool.and_self, Bool.false_and, Bool.and_false, Bool.and_true, Bool.true_and, Bool.not_true, Bool.not_false, ↓reduceIte]
  | succ r ih =>
    intro i h hi m hj
    have m' := m
    obtain ⟨m1, m2, m3, l1, l2, l3, l4⟩ := m
    have c := I_c m1
    obtain ⟨w1, w2, w3⟩ := l4 i (by omega)
    have c1 := c_spoken d m1 m2 m3 hp hy w1
    have hpi : p * 12 + i = 12 * p + i := by omega
    have f0 : fr (pSpk p) h (pI h 96291 0 (12 * p + i) (nI (rowN (spF G rd sh n wl wp wy p y (lw i))))) := fr_pI h _ ⟨rfl, by omega, by omega⟩
    obtain ⟨h', q1, q2, q3⟩ := ih (i + 1) _ (by omega) (cSp_fr (frX_fr f0 (pSpk_g p)) m') (fun j hj' => by
      by_cases e : j = i
      · subst e; simp (disch := first | omega | rfl | assumption) only [q_cl, q_ps, q_pn, bI_t, bI_f, gI_same, gI_ne, gR_pI, gJ_pI, gV_pI, gN_pI, gC_pI, gS_pI, gI_pJ, gR_pJ, gV_pJ, gN_pJ, gJ_same, gJ_ne, gI_pR, gJ_pR, gV_pR, gN_pR, gR_same, gR_ne, zin_t, zin_f, x_ltt, x_ltf, x_let, x_lef, x_eqt, x_eqf, n_0, n_1, n_2, n_3, n_4, n_5, n_6, n_7, n_8, n_9, n_10, n_11, n_12, n_16, n_19, n_20, n_24, n_25, n_32, n_40, n_48, n_50, n_60, n_64, n_80, n_96, n_114, n_684, n_1000, n_9330, n_16806, n_1000000, n_5764800, ↓n_m, m_ltI, m_leI, m_lt', m_le', m_eq, m_eq', m_add, m_sub, mm_lt, mm_le, mm_eq, q_sub, nI_add, q_mul, nI_clamp, bz_0, bz_1, q_bzb, b_0, b_1, b_ft, b_tf, ne_eq, not_true_eq_false, not_false_eq_true, decide_true, decide_false, Bool.and_self, Bool.false_and, Bool.and_false, Bool.and_true, Bool.true_and, Bool.not_true, Bool.not_false, ↓reduceIte]
      · simp (disch := first | omega | rfl | assumption) only [hj j (by omega), q_cl, q_ps, q_pn, bI_t, bI_f, gI_same, gI_ne, gR_pI, gJ_pI, gV_pI, gN_pI, gC_pI, gS_pI, gI_pJ, gR_pJ, gV_pJ, gN_pJ, gJ_same, gJ_ne, gI_pR, gJ_pR, gV_pR, gN_pR, gR_same, gR_ne, zin_t, zin_f, x_ltt, x_ltf, x_let, x_lef, x_eqt, x_eqf, n_0, n_1, n_2, n_3, n_4, n_5, n_6, n_7, n_8, n_9, n_10, n_11, n_12, n_16, n_19, n_20, n_24, n_25, n_32, n_40, n_48, n_50, n_60, n_64, n_80, n_96, n_114, n_684, n_1000, n_9330, n_16806, n_1000000, n_5764800, ↓n_m, m_ltI, m_leI, m_lt', m_le', m_eq, m_eq', m_add, m_sub, mm_lt, mm_le, mm_eq, q_sub, nI_add, q_mul, nI_clamp, bz_0, bz_1, q_bzb, b_0, b_1, b_ft, b_tf, ne_eq, not_true_eq_false, not_false_eq_true, decide_true, decide_false, Bool.and_self, Bool.false_and, Bool.and_false, Bool.and_true, Bool.true_and, Bool.not_true, Bool.not_false, ↓reduceIte])
    refine ⟨h', ?_, q2, fr_trans f0 q3⟩
    rw [bX3_speakList_2]
    simp (disch := first | omega | rfl | assumption) only [l2, c.1 11030 10 rfl, c.1 11030 9 rfl, w2, c1, hpi, bX3_speakList_32, q_cl, q_ps, q_pn, bI_t, bI_f, gI_same, gI_ne, gR_pI, gJ_pI, gV_pI, gN_pI, gC_pI, gS_pI, gI_pJ, gR_pJ, gV_pJ, gN_pJ, gJ_same, gJ_ne, gI_pR, gJ_pR, gV_pR, gN_pR, gR_same, gR_ne, zin_t, zin_f, x_ltt, x_ltf, x_let, x_lef, x_eqt, x_eqf, n_0, n_1, n_2, n_3, n_4, n_5, n_6, n_7, n_8, n_9, n_10, n_11, n_12, n_16, n_19, n_20, n_24, n_25, n_32, n_40, n_48, n_50, n_60, n_64, n_80, n_96, n_114, n_684, n_1000, n_9330, n_16806, n_1000000, n_5764800, ↓n_m, m_ltI, m_leI, m_lt', m_le', m_eq, m_eq', m_add, m_sub, mm_lt, mm_le, mm_eq, q_sub, nI_add, q_mul, nI_clamp, bz_0, bz_1, q_bzb, b_0, b_1, b_ft, b_tf, ne_eq, not_true_eq_false, not_false_eq_true, decide_true, decide_false, Bool.and_self, Bool.false_and, Bool.and_false, Bool.and_true, Bool.true_and, Bool.not_true, Bool.not_false, ↓reduceIte]
    exact q1
theorem c_speakList (d : Nat) {N : Nat} {xs : Nat → Int32} {G : Gh} {e : Int32} {rd sh : Nat → Nat} {n : Nat} {wl wp wy : Nat → Nat} {nl : Nat} {lw : Nat → List Nat} {p y : Nat} (hp : p < 8) (hy : y < 1000) {h : z_H} (m : cSp h N xs G e rd sh n wl wp wy nl lw) :
    ∃ h', Rn (d + 5) 50 [z_R 11030 0, z_I (nI p), z_I (nI y)] h = some (none, h') ∧ (∀ j, j < nl → gI h' 96291 0 (12 * p + j) = nI (rowN (spF G rd sh n wl wp wy p y (lw j)))) ∧ fr (pSpk p) h h' := by
  obtain ⟨h', q1, q2, q3⟩ := c_list_loop d hp hy nl 0 h (by omega) m (fun j hj => by omega)
  refine ⟨h', ?_, q2, q3⟩
  rw [rX3_speakList, bX3_speakList_0]
  exact q1
theorem c_alike_loop (d : Nat) {h : z_H} (ck : cOK h) {nl a b : Nat} (hn : nl ≤ 12) (e1 : gI h 11030 0 1 = nI nl) (ha : a < 8) (hb : b < 8) {f g : Nat → List Nat} (hf : ∀ i, i < nl → isW (f i) ∧ gI h 96291 0 (12 * a + i) = nI (rowN (f i))) (hg : ∀ i, i < nl → isW (g i) ∧ gI h 96291 0 (12 * b + i) = nI (rowN (g i))) : ∀ (r i : Nat), i + r = nl → alB (fun i => decide (f i = g i)) i = true →
    EX d 51 2 [z_R 11030 0, z_I (nI a), z_I (nI b), z_I (nI i)] [] h = some (some (z_I (bI (alk nl f g))), h) := by
  intro r
  induction r with
  | zero =>
    intro i hi ht
    have : i = nl := by omega
    subst this
    rw [bX3_speakAlike_2, show alk i f g = true from ht]
    simp (disch := first | omega | rfl | assumption) only [e1, bX3_speakAlike_43, q_cl, q_ps, q_pn, bI_t, bI_f, gI_same, gI_ne, gR_pI, gJ_pI, gV_pI, gN_pI, gC_pI, gS_pI, gI_pJ, gR_pJ, gV_pJ, gN_pJ, gJ_same, gJ_ne, gI_pR, gJ_pR, gV_pR, gN_pR, gR_same, gR_ne, zin_t, zin_f, x_ltt, x_ltf, x_let, x_lef, x_eqt, x_eqf, n_0, n_1, n_2, n_3, n_4, n_5, n_6, n_7, n_8, n_9, n_10, n_11, n_12, n_16, n_19, n_20, n_24, n_25, n_32, n_40, n_48, n_50, n_60, n_64, n_80, n_96, n_114, n_684, n_1000, n_9330, n_16806, n_1000000, n_5764800, ↓n_m, m_ltI, m_leI, m_lt', m_le', m_eq, m_eq', m_add, m_sub, mm_lt, mm_le, mm_eq, q_sub, nI_add, q_mul, nI_clamp, bz_0, bz_1, q_bzb, b_0, b_1, b_ft, b_tf, ne_eq, not_true_eq_false, not_false_eq_true, decide_true, decide_false, Bool.and_self, Bool.false_and, Bool.and_false, Bool.and_true, Bool.true_and, Bool.not_true, Bool.not_false, ↓reduceIte]
  | succ r ih =>
    intro i hi ht
    obtain ⟨f1, f2⟩ := hf i (by omega)
    obtain ⟨g1, g2⟩ := hg i (by omega)
    have hai : a * 12 + i = 12 * a + i := by omega
    have hbi : b * 12 + i = 12 * b + i := by omega
    have r1 := rowN_lt' f1
    have r2 := rowN_lt' g1
    rw [bX3_speakAlike_2]
    by_cases e : f i = g i
    · have ih1 := ih (i + 1) (by omega) (by rw [alB_succ, ht]; simp [e])
      have e3 : rowN (f i) = rowN (g i) := by rw [e]
      simp (disch := first | omega | rfl | assumption) only [e1, ck.1 11030 10 rfl, hai, hbi, f2, g2, e3, bX3_speakAlike_37, q_cl, q_ps, q_pn, bI_t, bI_f, gI_same, gI_ne, gR_pI, gJ_pI, gV_pI, gN_pI, gC_pI, gS_pI, gI_pJ, gR_pJ, gV_pJ, gN_pJ, gJ_same, gJ_ne, gI_pR, gJ_pR, gV_pR, gN_pR, gR_same, gR_ne, zin_t, zin_f, x_ltt, x_ltf, x_let, x_lef, x_eqt, x_eqf, n_0, n_1, n_2, n_3, n_4, n_5, n_6, n_7, n_8, n_9, n_10, n_11, n_12, n_16, n_19, n_20, n_24, n_25, n_32, n_40, n_48, n_50, n_60, n_64, n_80, n_96, n_114, n_684, n_1000, n_9330, n_16806, n_1000000, n_5764800, ↓n_m, m_ltI, m_leI, m_lt', m_le', m_eq, m_eq', m_add, m_sub, mm_lt, mm_le, mm_eq, q_sub, nI_add, q_mul, nI_clamp, bz_0, bz_1, q_bzb, b_0, b_1, b_ft, b_tf, ne_eq, not_true_eq_false, not_false_eq_true, decide_true, decide_false, Bool.and_self, Bool.false_and, Bool.and_false, Bool.and_true, Bool.true_and, Bool.not_true, Bool.not_false, ↓reduceIte]
      exact ih1
    · have e3 : rowN (f i) ≠ rowN (g i) := fun z => e (rowN_inj _ _ f1.2 g1.2 z)
      have e4 : alk nl f g = false := alB_no (k := i) nl (by omega) (by simp [e])
      rw [e4]
      simp (disch := first | omega | rfl | assumption) only [e1, ck.1 11030 10 rfl, hai, hbi, f2, g2, q_cl, q_ps, q_pn, bI_t, bI_f, gI_same, gI_ne, gR_pI, gJ_pI, gV_pI, gN_pI, gC_pI, gS_pI, gI_pJ, gR_pJ, gV_pJ, gN_pJ, gJ_same, gJ_ne, gI_pR, gJ_pR, gV_pR, gN_pR, gR_same, gR_ne, zin_t, zin_f, x_ltt, x_ltf, x_let, x_lef, x_eqt, x_eqf, n_0, n_1, n_2, n_3, n_4, n_5, n_6, n_7, n_8, n_9, n_10, n_11, n_12, n_16, n_19, n_20, n_24, n_25, n_32, n_40, n_48, n_50, n_60, n_64, n_80, n_96, n_114, n_684, n_1000, n_9330, n_16806, n_1000000, n_5764800, ↓n_m, m_ltI, m_leI, m_lt', m_le', m_eq, m_eq', m_add, m_sub, mm_lt, mm_le, mm_eq, q_sub, nI_add, q_mul, nI_clamp, bz_0, bz_1, q_bzb, b_0, b_1, b_ft, b_tf, ne_eq, not_true_eq_false, not_false_eq_true, decide_true, decide_false, Bool.and_self, Bool.false_and, Bool.and_false, Bool.and_true, Bool.true_and, Bool.not_true, Bool.not_false, ↓reduceIte]
theorem c_speakAlike (d : Nat) {h : z_H} (ck : cOK h) {nl a b : Nat} (hn : nl ≤ 12) (e1 : gI h 11030 0 1 = nI nl) (ha : a < 8) (hb : b < 8) {f g : Nat → List Nat} (hf : ∀ i, i < nl → isW (f i) ∧ gI h 96291 0 (12 * a + i) = nI (rowN (f i))) (hg : ∀ i, i < nl → isW (g i) ∧ gI h 96291 0 (12 * b + i) = nI (rowN (g i))) :
    Rn (d + 1) 51 [z_R 11030 0, z_I (nI a), z_I (nI b)] h = some (some (z_I (bI (alk nl f g))), h) := by
  rw [rX3_speakAlike, bX3_speakAlike_0]
  exact c_alike_loop d ck hn e1 ha hb hf hg nl 0 (by omega) rfl
/-- a place says what no earlier one says -/
def nwP (nl : Nat) (S : Nat → Nat → List Nat) (p : Nat) : Bool := alB (fun q => !alk nl (S q) (S p)) p
theorem c_cnt_in (d : Nat) {h : z_H} (ck : cOK h) {nl p : Nat} (hn : nl ≤ 12) (e1 : gI h 11030 0 1 = nI nl) (hp : p < 8) {S : Nat → Nat → List Nat} (hS : ∀ q, q ≤ p → ∀ i, i < nl → isW (S q i) ∧ gI h 96291 0 (12 * q + i) = nI (rowN (S q i))) (x1 x2 : Int32) : ∀ (r q : Nat) (b : Bool), q + r = p → b = alB (fun q => !alk nl (S q) (S p)) q →
    ∃ u5, EX (d + 1) 47 22 [z_R 11030 0, z_I x1, z_I x2, z_I (nI p), z_I (bI b), z_I (nI q)] [] h = EX (d + 1) 47 56 [z_R 11030 0, z_I x1, z_I x2, z_I (nI p), z_I (bI (nwP nl S p)), z_I u5] [] h := by
  intro r
  induction r with
  | zero =>
    intro q b hq hb
    have : q = p := by omega
    subst this
    refine ⟨nI q, ?_⟩
    rw [bX3_countSpeeches_22, hb]
    simp (disch := first | omega | rfl | assumption) only [q_cl, q_ps, q_pn, bI_t, bI_f, gI_same, gI_ne, gR_pI, gJ_pI, gV_pI, gN_pI, gC_pI, gS_pI, gI_pJ, gR_pJ, gV_pJ, gN_pJ, gJ_same, gJ_ne, gI_pR, gJ_pR, gV_pR, gN_pR, gR_same, gR_ne, zin_t, zin_f, x_ltt, x_ltf, x_let, x_lef, x_eqt, x_eqf, n_0, n_1, n_2, n_3, n_4, n_5, n_6, n_7, n_8, n_9, n_10, n_11, n_12, n_16, n_19, n_20, n_24, n_25, n_32, n_40, n_48, n_50, n_60, n_64, n_80, n_96, n_114, n_684, n_1000, n_9330, n_16806, n_1000000, n_5764800, ↓n_m, m_ltI, m_leI, m_lt', m_le', m_eq, m_eq', m_add, m_sub, mm_lt, mm_le, mm_eq, q_sub, nI_add, q_mul, nI_clamp, bz_0, bz_1, q_bzb, b_0, b_1, b_ft, b_tf, ne_eq, not_true_eq_false, not_false_eq_true, decide_true, decide_false, Bool.and_self, Bool.false_and, Bool.and_false, Bool.and_true, Bool.true_and, Bool.not_true, Bool.not_false, ↓reduceIte]
    rfl
  | succ r ih =>
    intro q b hq hb
    cases b with
    | false =>
      have h0 : nwP nl S p = false := by
        have := alB_stay hb.symm (p - q)
        rwa [show q + (p - q) = p by omega] at this
      refine ⟨nI q, ?_⟩
      rw [bX3_countSpeeches_22, h0]
      simp (disch := first | omega | rfl | assumption) only [q_cl, q_ps, q_pn, bI_t, bI_f, gI_same, gI_ne, gR_pI, gJ_pI, gV_pI, gN_pI, gC_pI, gS_pI, gI_pJ, gR_pJ, gV_pJ, gN_pJ, gJ_same, gJ_ne, gI_pR, gJ_pR, gV_pR, gN_pR, gR_same, gR_ne, zin_t, zin_f, x_ltt, x_ltf, x_let, x_lef, x_eqt, x_eqf, n_0, n_1, n_2, n_3, n_4, n_5, n_6, n_7, n_8, n_9, n_10, n_11, n_12, n_16, n_19, n_20, n_24, n_25, n_32, n_40, n_48, n_50, n_60, n_64, n_80, n_96, n_114, n_684, n_1000, n_9330, n_16806, n_1000000, n_5764800, ↓n_m, m_ltI, m_leI, m_lt', m_le', m_eq, m_eq', m_add, m_sub, mm_lt, mm_le, mm_eq, q_sub, nI_add, q_mul, nI_clamp, bz_0, bz_1, q_bzb, b_0, b_1, b_ft, b_tf, ne_eq, not_true_eq_false, not_false_eq_true, decide_true, decide_false, Bool.and_self, Bool.false_and, Bool.and_false, Bool.and_true, Bool.true_and, Bool.not_true, Bool.not_false, ↓reduceIte]
    | true =>
      have e2 := c_speakAlike d ck hn e1 (show q < 8 by omega) hp (hS q (by omega)) (hS p (Nat.le_refl _))
      obtain ⟨u5, ih1⟩ := ih (q + 1) (!alk nl (S q) (S p)) (by omega) (by rw [alB_succ, ← hb, Bool.true_and])
      refine ⟨u5, ?_⟩
      rw [← ih1, bX3_countSpeeches_22]
      simp (disch := first | omega | rfl | assumption) only [e2, q_cl, q_ps, q_pn, bI_t, bI_f, gI_same, gI_ne, gR_pI, gJ_pI, gV_pI, gN_pI, gC_pI, gS_pI, gI_pJ, gR_pJ, gV_pJ, gN_pJ, gJ_same, gJ_ne, gI_pR, gJ_pR, gV_pR, gN_pR, gR_same, gR_ne, zin_t, zin_f, x_ltt, x_ltf, x_let, x_lef, x_eqt, x_eqf, n_0, n_1, n_2, n_3, n_4, n_5, n_6, n_7, n_8, n_9, n_10, n_11, n_12, n_16, n_19, n_20, n_24, n_25, n_32, n_40, n_48, n_50, n_60, n_64, n_80, n_96, n_114, n_684, n_1000, n_9330, n_16806, n_1000000, n_5764800, ↓n_m, m_ltI, m_leI, m_lt', m_le', m_eq, m_eq', m_add, m_sub, mm_lt, mm_le, mm_eq, q_sub, nI_add, q_mul, nI_clamp, bz_0, bz_1, q_bzb, b_0, b_1, b_ft, b_tf, ne_eq, not_true_eq_false, not_false_eq_true, decide_true, decide_false, Bool.and_self, Bool.false_and, Bool.and_false, Bool.and_true, Bool.true_and, Bool.not_true, Bool.not_false, ↓reduceIte]
      cases alk nl (S q) (S p) with
      | true => simp (disch := first | omega | rfl | assumption) only [bX3_countSpeeches_40, bX3_countSpeeches_47, bX3_countSpeeches_48, q_cl, q_ps, q_pn, bI_t, bI_f, gI_same, gI_ne, gR_pI, gJ_pI, gV_pI, gN_pI, gC_pI, gS_pI, gI_pJ, gR_pJ, gV_pJ, gN_pJ, gJ_same, gJ_ne, gI_pR, gJ_pR, gV_pR, gN_pR, gR_same, gR_ne, zin_t, zin_f, x_ltt, x_ltf, x_let, x_lef, x_eqt, x_eqf, n_0, n_1, n_2, n_3, n_4, n_5, n_6, n_7, n_8, n_9, n_10, n_11, n_12, n_16, n_19, n_20, n_24, n_25, n_32, n_40, n_48, n_50, n_60, n_64, n_80, n_96, n_114, n_684, n_1000, n_9330, n_16806, n_1000000, n_5764800, ↓n_m, m_ltI, m_leI, m_lt', m_le', m_eq, m_eq', m_add, m_sub, mm_lt, mm_le, mm_eq, q_sub, nI_add, q_mul, nI_clamp, bz_0, bz_1, q_bzb, b_0, b_1, b_ft, b_tf, ne_eq, not_true_eq_false, not_false_eq_true, decide_true, decide_false, Bool.and_self, Bool.false_and, Bool.and_false, Bool.and_true, Bool.true_and, Bool.not_true, Bool.not_false, ↓reduceIte]
      | false => simp (disch := first | omega | rfl | assumption) only [bX3_countSpeeches_40, bX3_countSpeeches_48, q_cl, q_ps, q_pn, bI_t, bI_f, gI_same, gI_ne, gR_pI, gJ_pI, gV_pI, gN_pI, gC_pI, gS_pI, gI_pJ, gR_pJ, gV_pJ, gN_pJ, gJ_same, gJ_ne, gI_pR, gJ_pR, gV_pR, gN_pR, gR_same, gR_ne, zin_t, zin_f, x_ltt, x_ltf, x_let, x_lef, x_eqt, x_eqf, n_0, n_1, n_2, n_3, n_4, n_5, n_6, n_7, n_8, n_9, n_10, n_11, n_12, n_16, n_19, n_20, n_24, n_25, n_32, n_40, n_48, n_50, n_60, n_64, n_80, n_96, n_114, n_684, n_1000, n_9330, n_16806, n_1000000, n_5764800, ↓n_m, m_ltI, m_leI, m_lt', m_le', m_eq, m_eq', m_add, m_sub, mm_lt, mm_le, mm_eq, q_sub, nI_add, q_mul, nI_clamp, bz_0, bz_1, q_bzb, b_0, b_1, b_ft, b_tf, ne_eq, not_true_eq_false, not_false_eq_true, decide_true, decide_false, Bool.and_self, Bool.false_and, Bool.and_false, Bool.and_true, Bool.true_and, Bool.not_true, Bool.not_false, ↓reduceIte]
theorem c_cnt_out (d : Nat) {N : Nat} {xs : Nat → Int32} {G : Gh} {e : Int32} {rd sh : Nat → Nat} {n : Nat} {wl wp wy : Nat → Nat} {nl : Nat} {lw : Nat → List Nat} {y : Nat} (hy : y < 1000) : ∀ (r p : Nat) (u4 u5 : z_V) (h : z_H), p + r = 8 → cSp h N xs G e rd sh n wl wp wy nl lw → (∀ q, q < p → ∀ j, j < nl → gI h 96291 0 (12 * q + j) = nI (rowN (spF G rd sh n wl wp wy q y (lw j)))) →
    ∃ h', EX (d + 5) 47 4 [z_R 11030 0, z_I (nI y), z_I (nI (cntB (nwP nl (fun p i => spF G rd sh n wl wp wy p y (lw i))) p)), z_I (nI p), u4, u5] [] h = some (some (z_I (nI (cntB (nwP nl (fun p i => spF G rd sh n wl wp wy p y (lw i))) 8))), h') ∧ frX [12] h h' := by
  intro r
  induction r with
  | zero =>
    intro p u4 u5 h hp m hq
    have : p = 8 := by omega
    subst this
    refine ⟨h, ?_, frX_rfl _ _⟩
    rw [bX3_countSpeeches_4]
    simp (disch := first | omega | rfl | assumption) only [bX3_countSpeeches_75, q_cl, q_ps, q_pn, bI_t, bI_f, gI_same, gI_ne, gR_pI, gJ_pI, gV_pI, gN_pI, gC_pI, gS_pI, gI_pJ, gR_pJ, gV_pJ, gN_pJ, gJ_same, gJ_ne, gI_pR, gJ_pR, gV_pR, gN_pR, gR_same, gR_ne, zin_t, zin_f, x_ltt, x_ltf, x_let, x_lef, x_eqt, x_eqf, n_0, n_1, n_2, n_3, n_4, n_5, n_6, n_7, n_8, n_9, n_10, n_11, n_12, n_16, n_19, n_20, n_24, n_25, n_32, n_40, n_48, n_50, n_60, n_64, n_80, n_96, n_114, n_684, n_1000, n_9330, n_16806, n_1000000, n_5764800, ↓n_m, m_ltI, m_leI, m_lt', m_le', m_eq, m_eq', m_add, m_sub, mm_lt, mm_le, mm_eq, q_sub, nI_add, q_mul, nI_clamp, bz_0, bz_1, q_bzb, b_0, b_1, b_ft, b_tf, ne_eq, not_true_eq_false, not_false_eq_true, decide_true, decide_false, Bool.and_self, Bool.false_and, Bool.and_false, Bool.and_true, Bool.true_and, Bool.not_true, Bool.not_false, ↓reduceIte]
  | succ r ih =>
    intro p u4 u5 h hp m hq
    obtain ⟨h1, p1, p2, p3⟩ := c_speakList d (show p < 8 by omega) hy m
    have F1 := frX_fr p3 (pSpk_g p)
    have m1 := cSp_fr F1 m
    have hq1 : ∀ q, q < p + 1 → ∀ j, j < nl → gI h1 96291 0 (12 * q + j) = nI (rowN (spF G rd sh n wl wp wy q y (lw j))) := fun q hq' j hj => by
      by_cases e : q = p
      · subst e; exact p2 j hj
      · have hl := m.2.2.2.1
        rw [p3.2 _ _ _ (fun z => by have := z.2; omega)]
        exact hq q (by omega) j hj
    have ok : okG G := (mT_of m.1).1
    obtain ⟨v5, q1⟩ := c_cnt_in (d + 4) (I_c m1.1) (p := p) m1.2.2.2.1 m1.2.2.2.2.1 (by omega) (S := fun p i => spF G rd sh n wl wp wy p y (lw i)) (fun q hq' i hi => ⟨spF_ok ok m.2.1 q y (m.2.2.2.2.2.2 i hi).1, hq1 q (by omega) i hi⟩) (nI y) (nI (cntB (nwP nl (fun p i => spF G rd sh n wl wp wy p y (lw i))) p)) p 0 true (by omega) rfl
    have es : cntB (nwP nl (fun p i => spF G rd sh n wl wp wy p y (lw i))) (p + 1) = cntB (nwP nl (fun p i => spF G rd sh n wl wp wy p y (lw i))) p + (if nwP nl (fun p i => spF G rd sh n wl wp wy p y (lw i)) p = true then 1 else 0) := rfl
    obtain ⟨h', r1, r2⟩ := ih (p + 1) (z_I (bI (nwP nl (fun p i => spF G rd sh n wl wp wy p y (lw i)) p))) (z_I v5) h1 (by omega) m1 hq1
    refine ⟨h', ?_, frX_trans F1 r2⟩
    rw [← r1, es, bX3_countSpeeches_4]
    simp (disch := first | omega | rfl | assumption) only [p1, bX3_countSpeeches_16, q_cl, q_ps, q_pn, bI_t, bI_f, gI_same, gI_ne, gR_pI, gJ_pI, gV_pI, gN_pI, gC_pI, gS_pI, gI_pJ, gR_pJ, gV_pJ, gN_pJ, gJ_same, gJ_ne, gI_pR, gJ_pR, gV_pR, gN_pR, gR_same, gR_ne, zin_t, zin_f, x_ltt, x_ltf, x_let, x_lef, x_eqt, x_eqf, n_0, n_1, n_2, n_3, n_4, n_5, n_6, n_7, n_8, n_9, n_10, n_11, n_12, n_16, n_19, n_20, n_24, n_25, n_32, n_40, n_48, n_50, n_60, n_64, n_80, n_96, n_114, n_684, n_1000, n_9330, n_16806, n_1000000, n_5764800, ↓n_m, m_ltI, m_leI, m_lt', m_le', m_eq, m_eq', m_add, m_sub, mm_lt, mm_le, mm_eq, q_sub, nI_add, q_mul, nI_clamp, bz_0, bz_1, q_bzb, b_0, b_1, b_ft, b_tf, ne_eq, not_true_eq_false, not_false_eq_true, decide_true, decide_false, Bool.and_self, Bool.false_and, Bool.and_false, Bool.and_true, Bool.true_and, Bool.not_true, Bool.not_false, ↓reduceIte]
    have q1' : EX (d + 5) 47 22 [z_R 11030 0, z_I (nI y), z_I (nI (cntB (nwP nl (fun p i => spF G rd sh n wl wp wy p y (lw i))) p)), z_I (nI p), z_I (nI 1), z_I (nI 0)] [] h1 = _ := q1
    rw [q1', bX3_countSpeeches_56]
    cases nwP nl (fun p i => spF G rd sh n wl wp wy p y (lw i)) p with
    | true => simp (disch := first | omega | rfl | assumption) only [bX3_countSpeeches_67, q_cl, q_ps, q_pn, bI_t, bI_f, gI_same, gI_ne, gR_pI, gJ_pI, gV_pI, gN_pI, gC_pI, gS_pI, gI_pJ, gR_pJ, gV_pJ, gN_pJ, gJ_same, gJ_ne, gI_pR, gJ_pR, gV_pR, gN_pR, gR_same, gR_ne, zin_t, zin_f, x_ltt, x_ltf, x_let, x_lef, x_eqt, x_eqf, n_0, n_1, n_2, n_3, n_4, n_5, n_6, n_7, n_8, n_9, n_10, n_11, n_12, n_16, n_19, n_20, n_24, n_25, n_32, n_40, n_48, n_50, n_60, n_64, n_80, n_96, n_114, n_684, n_1000, n_9330, n_16806, n_1000000, n_5764800, ↓n_m, m_ltI, m_leI, m_lt', m_le', m_eq, m_eq', m_add, m_sub, mm_lt, mm_le, mm_eq, q_sub, nI_add, q_mul, nI_clamp, bz_0, bz_1, q_bzb, b_0, b_1, b_ft, b_tf, ne_eq, not_true_eq_false, not_false_eq_true, decide_true, decide_false, Bool.and_self, Bool.false_and, Bool.and_false, Bool.and_true, Bool.true_and, Bool.not_true, Bool.not_false, ↓reduceIte]
    | false => simp (disch := first | omega | rfl | assumption) only [bX3_countSpeeches_66, bX3_countSpeeches_67, q_cl, q_ps, q_pn, bI_t, bI_f, gI_same, gI_ne, gR_pI, gJ_pI, gV_pI, gN_pI, gC_pI, gS_pI, gI_pJ, gR_pJ, gV_pJ, gN_pJ, gJ_same, gJ_ne, gI_pR, gJ_pR, gV_pR, gN_pR, gR_same, gR_ne, zin_t, zin_f, x_ltt, x_ltf, x_let, x_lef, x_eqt, x_eqf, n_0, n_1, n_2, n_3, n_4, n_5, n_6, n_7, n_8, n_9, n_10, n_11, n_12, n_16, n_19, n_20, n_24, n_25, n_32, n_40, n_48, n_50, n_60, n_64, n_80, n_96, n_114, n_684, n_1000, n_9330, n_16806, n_1000000, n_5764800, ↓n_m, m_ltI, m_leI, m_lt', m_le', m_eq, m_eq', m_add, m_sub, mm_lt, mm_le, mm_eq, q_sub, nI_add, q_mul, nI_clamp, bz_0, bz_1, q_bzb, b_0, b_1, b_ft, b_tf, ne_eq, not_true_eq_false, not_false_eq_true, decide_true, decide_false, Bool.and_self, Bool.false_and, Bool.and_false, Bool.and_true, Bool.true_and, Bool.not_true, Bool.not_false, ↓reduceIte]
/-! the reference -/
def mSl (h : z_H) (G : Gh) (n : Nat) (wl : Nat → Nat) (cc : Nat → Nat → Nat) (nl : Nat) (lw : Nat → List Nat) : Prop := mSp h G n wl cc ∧ nl ≤ 12 ∧ gI h 49100 0 30 = nI nl ∧ ∀ k, k < nl → isW (lw k) ∧ gI h 12641 0 k = nI (wN (lw k))
theorem mSl_tW {h h' : z_H} (f : fr tW h h') {G : Gh} {n : Nat} {wl : Nat → Nat} {cc : Nat → Nat → Nat} {nl : Nat} {lw : Nat → List Nat} (m : mSl h G n wl cc nl lw) : mSl h' G n wl cc nl lw := by
  obtain ⟨a1, a2, a3, a4⟩ := m
  have kp := tW_kp f
  exact ⟨mSp_tW f a1, a2, (kp _ _ _ (by decide) (by decide) (by first | decide | exact Or.inl (by decide))).trans a3, fun k hk => ⟨(a4 k hk).1, (kp _ _ _ (by decide) (by decide) (by first | decide | exact Or.inl (by decide))).trans (a4 k hk).2⟩⟩
abbrev spC (G : Gh) (n : Nat) (wl : Nat → Nat) (cc : Nat → Nat → Nat) (p y : Nat) (w : List Nat) : List Nat := spk (gvV G) (gLF G) wl (fun k => cc k p) y n n w 0
theorem spC_ok {h : z_H} {G : Gh} {n : Nat} {wl : Nat → Nat} {cc : Nat → Nat → Nat} (m : mSp h G n wl cc) (p y : Nat) {w : List Nat} (hw : isW w) : isW (spC G n wl cc p y w) := spk_ok m.1.1.2.2.1 (fun k hk => (m.2.2.2.1 k hk).1) n w 0 hw
theorem m_alike_loop (d : Nat) {G : Gh} {n : Nat} {wl : Nat → Nat} {cc : Nat → Nat → Nat} {nl : Nat} {lw : Nat → List Nat} {a b y : Nat} (ha : a < 8) (hb : b < 8) (hy : y < 1000) : ∀ (r i : Nat) (h : z_H), i + r = nl → mSl h G n wl cc nl lw →
    ∃ h', EX (d + 7) 230 6 [z_R 49100 0, z_I (nI a), z_I (nI b), z_I (nI y), z_I (bI (alB (fun i => decide (spC G n wl cc a y (lw i) = spC G n wl cc b y (lw i))) i)), z_I (nI i)] [] h = some (some (z_I (bI (alk nl (fun i => spC G n wl cc a y (lw i)) (fun i => spC G n wl cc b y (lw i))))), h') ∧ fr tW h h' := by
  intro r
  induction r with
  | zero =>
    intro i h hi m
    obtain ⟨a1, a2, a3, a4⟩ := m
    have : i = nl := by omega
    subst this
    refine ⟨h, ?_, fr_rfl _ _⟩
    rw [bX11_speakAlike_6]
    simp (disch := first | omega | rfl | assumption) only [a3, bX11_speakAlike_62, q_cl, q_ps, q_pn, bI_t, bI_f, gI_same, gI_ne, gR_pI, gJ_pI, gV_pI, gN_pI, gC_pI, gS_pI, gI_pJ, gR_pJ, gV_pJ, gN_pJ, gJ_same, gJ_ne, gI_pR, gJ_pR, gV_pR, gN_pR, gR_same, gR_ne, zin_t, zin_f, x_ltt, x_ltf, x_let, x_lef, x_eqt, x_eqf, n_0, n_1, n_2, n_3, n_4, n_5, n_6, n_7, n_8, n_9, n_10, n_11, n_12, n_16, n_19, n_20, n_24, n_25, n_32, n_40, n_48, n_50, n_60, n_64, n_80, n_96, n_114, n_684, n_1000, n_9330, n_16806, n_1000000, n_5764800, ↓n_m, m_ltI, m_leI, m_lt', m_le', m_eq, m_eq', m_add, m_sub, mm_lt, mm_le, mm_eq, q_sub, nI_add, q_mul, nI_clamp, bz_0, bz_1, q_bzb, b_0, b_1, b_ft, b_tf, ne_eq, not_true_eq_false, not_false_eq_true, decide_true, decide_false, Bool.and_self, Bool.false_and, Bool.and_false, Bool.and_true, Bool.true_and, Bool.not_true, Bool.not_false, ↓reduceIte]
    rfl
  | succ r ih =>
    intro i h hi m
    have m' := m
    obtain ⟨a1, a2, a3, a4⟩ := m
    obtain ⟨w1, w2⟩ := a4 i (by omega)
    cases hx : alB (fun i => decide (spC G n wl cc a y (lw i) = spC G n wl cc b y (lw i))) i with
    | false =>
      obtain ⟨h', q1, q2⟩ := ih (i + 1) h (by omega) m'
      rw [alB_succ, hx, Bool.false_and] at q1
      refine ⟨h', ?_, q2⟩
      rw [← q1, bX11_speakAlike_6]
      simp (disch := first | omega | rfl | assumption) only [a3, bX11_speakAlike_53, bX11_speakAlike_54, q_cl, q_ps, q_pn, bI_t, bI_f, gI_same, gI_ne, gR_pI, gJ_pI, gV_pI, gN_pI, gC_pI, gS_pI, gI_pJ, gR_pJ, gV_pJ, gN_pJ, gJ_same, gJ_ne, gI_pR, gJ_pR, gV_pR, gN_pR, gR_same, gR_ne, zin_t, zin_f, x_ltt, x_ltf, x_let, x_lef, x_eqt, x_eqf, n_0, n_1, n_2, n_3, n_4, n_5, n_6, n_7, n_8, n_9, n_10, n_11, n_12, n_16, n_19, n_20, n_24, n_25, n_32, n_40, n_48, n_50, n_60, n_64, n_80, n_96, n_114, n_684, n_1000, n_9330, n_16806, n_1000000, n_5764800, ↓n_m, m_ltI, m_leI, m_lt', m_le', m_eq, m_eq', m_add, m_sub, mm_lt, mm_le, mm_eq, q_sub, nI_add, q_mul, nI_clamp, bz_0, bz_1, q_bzb, b_0, b_1, b_ft, b_tf, ne_eq, not_true_eq_false, not_false_eq_true, decide_true, decide_false, Bool.and_self, Bool.false_and, Bool.and_false, Bool.and_true, Bool.true_and, Bool.not_true, Bool.not_false, ↓reduceIte]
    | true =>
      obtain ⟨h1, p1, p2⟩ := m_speechOf d a1 ha hy w1
      have m1 := mSl_tW p2 m'
      obtain ⟨b1, b2, b3, b4⟩ := m1
      obtain ⟨h2, s1, s2⟩ := m_speechOf d b1 hb hy w1
      have fT := fr_trans p2 s2
      obtain ⟨h', q1, q2⟩ := ih (i + 1) h2 (by omega) (mSl_tW fT m')
      have o1 := wN_lt (spC_ok a1 a y w1)
      have o2 := wN_lt (spC_ok a1 b y w1)
      have w2' := (b4 i (by omega)).2
      refine ⟨h', ?_, fr_trans fT q2⟩
      rw [← q1, alB_succ, hx, Bool.true_and, bX11_speakAlike_6]
      by_cases e : spC G n wl cc a y (lw i) = spC G n wl cc b y (lw i)
      · have e3 : wN (spC G n wl cc a y (lw i)) = wN (spC G n wl cc b y (lw i)) := by rw [e]
        have e4 : decide (spC G n wl cc a y (lw i) = spC G n wl cc b y (lw i)) = true := decide_eq_true e
        rw [e4]
        simp (disch := first | omega | rfl | assumption) only [a3, a1.1.2.1 31 rfl, w2, p1, bX11_speakAlike_33, b1.1.2.1 31 rfl, w2', s1, bX11_speakAlike_46, e3, bX11_speakAlike_54, q_cl, q_ps, q_pn, bI_t, bI_f, gI_same, gI_ne, gR_pI, gJ_pI, gV_pI, gN_pI, gC_pI, gS_pI, gI_pJ, gR_pJ, gV_pJ, gN_pJ, gJ_same, gJ_ne, gI_pR, gJ_pR, gV_pR, gN_pR, gR_same, gR_ne, zin_t, zin_f, x_ltt, x_ltf, x_let, x_lef, x_eqt, x_eqf, n_0, n_1, n_2, n_3, n_4, n_5, n_6, n_7, n_8, n_9, n_10, n_11, n_12, n_16, n_19, n_20, n_24, n_25, n_32, n_40, n_48, n_50, n_60, n_64, n_80, n_96, n_114, n_684, n_1000, n_9330, n_16806, n_1000000, n_5764800, ↓n_m, m_ltI, m_leI, m_lt', m_le', m_eq, m_eq', m_add, m_sub, mm_lt, mm_le, mm_eq, q_sub, nI_add, q_mul, nI_clamp, bz_0, bz_1, q_bzb, b_0, b_1, b_ft, b_tf, ne_eq, not_true_eq_false, not_false_eq_true, decide_true, decide_false, Bool.and_self, Bool.false_and, Bool.and_false, Bool.and_true, Bool.true_and, Bool.not_true, Bool.not_false, ↓reduceIte]
      · have e3 : wN (spC G n wl cc a y (lw i)) ≠ wN (spC G n wl cc b y (lw i)) := fun z => e (wN_inj (spC_ok a1 a y w1) (spC_ok a1 b y w1) z)
        have e4 : decide (spC G n wl cc a y (lw i) = spC G n wl cc b y (lw i)) = false := decide_eq_false e
        have e5 : (nI (wN (spk (gvV G) (gLF G) wl (fun k => cc k a) y n n (lw i) 0)) = nI (wN (spk (gvV G) (gLF G) wl (fun k => cc k b) y n n (lw i) 0))) = False := x_eqf e3 (Nat.lt_trans o1 (by decide)) (Nat.lt_trans o2 (by decide))
        rw [e4]
        simp (disch := first | omega | rfl | assumption) only [a3, a1.1.2.1 31 rfl, w2, p1, bX11_speakAlike_33, b1.1.2.1 31 rfl, w2', s1, bX11_speakAlike_46, e5, bX11_speakAlike_53, bX11_speakAlike_54, q_cl, q_ps, q_pn, bI_t, bI_f, gI_same, gI_ne, gR_pI, gJ_pI, gV_pI, gN_pI, gC_pI, gS_pI, gI_pJ, gR_pJ, gV_pJ, gN_pJ, gJ_same, gJ_ne, gI_pR, gJ_pR, gV_pR, gN_pR, gR_same, gR_ne, zin_t, zin_f, x_ltt, x_ltf, x_let, x_lef, x_eqt, x_eqf, n_0, n_1, n_2, n_3, n_4, n_5, n_6, n_7, n_8, n_9, n_10, n_11, n_12, n_16, n_19, n_20, n_24, n_25, n_32, n_40, n_48, n_50, n_60, n_64, n_80, n_96, n_114, n_684, n_1000, n_9330, n_16806, n_1000000, n_5764800, ↓n_m, m_ltI, m_leI, m_lt', m_le', m_eq, m_eq', m_add, m_sub, mm_lt, mm_le, mm_eq, q_sub, nI_add, q_mul, nI_clamp, bz_0, bz_1, q_bzb, b_0, b_1, b_ft, b_tf, ne_eq, not_true_eq_false, not_false_eq_true, decide_true, decide_false, Bool.and_self, Bool.false_and, Bool.and_false, Bool.and_true, Bool.true_and, Bool.not_true, Bool.not_false, ↓reduceIte]
theorem m_speakAlike (d : Nat) {G : Gh} {n : Nat} {wl : Nat → Nat} {cc : Nat → Nat → Nat} {nl : Nat} {lw : Nat → List Nat} {a b y : Nat} (ha : a < 8) (hb : b < 8) (hy : y < 1000) {h : z_H} (m : mSl h G n wl cc nl lw) :
    ∃ h', Rn (d + 8) 230 [z_R 49100 0, z_I (nI a), z_I (nI b), z_I (nI y)] h = some (some (z_I (bI (alk nl (fun i => spC G n wl cc a y (lw i)) (fun i => spC G n wl cc b y (lw i))))), h') ∧ fr tW h h' := by
  obtain ⟨h', q1, q2⟩ := m_alike_loop d ha hb hy nl 0 h (by omega) m
  refine ⟨h', ?_, q2⟩
  rw [rX11_speakAlike, bX11_speakAlike_0]
  exact q1
theorem m_cnt_in (d : Nat) {G : Gh} {n : Nat} {wl : Nat → Nat} {cc : Nat → Nat → Nat} {nl : Nat} {lw : Nat → List Nat} {p y : Nat} (hp : p < 8) (hy : y < 1000) (x2 : Int32) : ∀ (r q : Nat) (h : z_H), q + r = p → mSl h G n wl cc nl lw →
    ∃ h', EX (d + 8) 231 34 [z_R 49100 0, z_I (nI y), z_I x2, z_I (nI p), z_I (bI (alB (fun q => !alk nl (fun i => spC G n wl cc q y (lw i)) (fun i => spC G n wl cc p y (lw i))) q)), z_I (nI q)] [] h = EX (d + 8) 231 69 [z_R 49100 0, z_I (nI y), z_I x2, z_I (nI p), z_I (bI (nwP nl (fun p i => spC G n wl cc p y (lw i)) p)), z_I (nI p)] [] h' ∧ fr tW h h' := by
  intro r
  induction r with
  | zero =>
    intro q h hq m
    have : q = p := by omega
    subst this
    refine ⟨h, ?_, fr_rfl _ _⟩
    rw [bX11_speeches_34]
    simp (disch := first | omega | rfl | assumption) only [q_cl, q_ps, q_pn, bI_t, bI_f, gI_same, gI_ne, gR_pI, gJ_pI, gV_pI, gN_pI, gC_pI, gS_pI, gI_pJ, gR_pJ, gV_pJ, gN_pJ, gJ_same, gJ_ne, gI_pR, gJ_pR, gV_pR, gN_pR, gR_same, gR_ne, zin_t, zin_f, x_ltt, x_ltf, x_let, x_lef, x_eqt, x_eqf, n_0, n_1, n_2, n_3, n_4, n_5, n_6, n_7, n_8, n_9, n_10, n_11, n_12, n_16, n_19, n_20, n_24, n_25, n_32, n_40, n_48, n_50, n_60, n_64, n_80, n_96, n_114, n_684, n_1000, n_9330, n_16806, n_1000000, n_5764800, ↓n_m, m_ltI, m_leI, m_lt', m_le', m_eq, m_eq', m_add, m_sub, mm_lt, mm_le, mm_eq, q_sub, nI_add, q_mul, nI_clamp, bz_0, bz_1, q_bzb, b_0, b_1, b_ft, b_tf, ne_eq, not_true_eq_false, not_false_eq_true, decide_true, decide_false, Bool.and_self, Bool.false_and, Bool.and_false, Bool.and_true, Bool.true_and, Bool.not_true, Bool.not_false, ↓reduceIte]
    rfl
  | succ r ih =>
    intro q h hq m
    cases hx : alB (fun q => !alk nl (fun i => spC G n wl cc q y (lw i)) (fun i => spC G n wl cc p y (lw i))) q with
    | false =>
      obtain ⟨h', q1, q2⟩ := ih (q + 1) h (by omega) m
      rw [alB_succ, hx, Bool.false_and] at q1
      refine ⟨h', ?_, q2⟩
      rw [← q1, bX11_speeches_34]
      simp (disch := first | omega | rfl | assumption) only [bX11_speeches_60, bX11_speeches_61, q_cl, q_ps, q_pn, bI_t, bI_f, gI_same, gI_ne, gR_pI, gJ_pI, gV_pI, gN_pI, gC_pI, gS_pI, gI_pJ, gR_pJ, gV_pJ, gN_pJ, gJ_same, gJ_ne, gI_pR, gJ_pR, gV_pR, gN_pR, gR_same, gR_ne, zin_t, zin_f, x_ltt, x_ltf, x_let, x_lef, x_eqt, x_eqf, n_0, n_1, n_2, n_3, n_4, n_5, n_6, n_7, n_8, n_9, n_10, n_11, n_12, n_16, n_19, n_20, n_24, n_25, n_32, n_40, n_48, n_50, n_60, n_64, n_80, n_96, n_114, n_684, n_1000, n_9330, n_16806, n_1000000, n_5764800, ↓n_m, m_ltI, m_leI, m_lt', m_le', m_eq, m_eq', m_add, m_sub, mm_lt, mm_le, mm_eq, q_sub, nI_add, q_mul, nI_clamp, bz_0, bz_1, q_bzb, b_0, b_1, b_ft, b_tf, ne_eq, not_true_eq_false, not_false_eq_true, decide_true, decide_false, Bool.and_self, Bool.false_and, Bool.and_false, Bool.and_true, Bool.true_and, Bool.not_true, Bool.not_false, ↓reduceIte]
    | true =>
      obtain ⟨h1, p1, p2⟩ := m_speakAlike d (show q < 8 by omega) hp hy m
      obtain ⟨h', q1, q2⟩ := ih (q + 1) h1 (by omega) (mSl_tW p2 m)
      refine ⟨h', ?_, fr_trans p2 q2⟩
      rw [← q1, alB_succ, hx, Bool.true_and, bX11_speeches_34]
      simp (disch := first | omega | rfl | assumption) only [p1, q_cl, q_ps, q_pn, bI_t, bI_f, gI_same, gI_ne, gR_pI, gJ_pI, gV_pI, gN_pI, gC_pI, gS_pI, gI_pJ, gR_pJ, gV_pJ, gN_pJ, gJ_same, gJ_ne, gI_pR, gJ_pR, gV_pR, gN_pR, gR_same, gR_ne, zin_t, zin_f, x_ltt, x_ltf, x_let, x_lef, x_eqt, x_eqf, n_0, n_1, n_2, n_3, n_4, n_5, n_6, n_7, n_8, n_9, n_10, n_11, n_12, n_16, n_19, n_20, n_24, n_25, n_32, n_40, n_48, n_50, n_60, n_64, n_80, n_96, n_114, n_684, n_1000, n_9330, n_16806, n_1000000, n_5764800, ↓n_m, m_ltI, m_leI, m_lt', m_le', m_eq, m_eq', m_add, m_sub, mm_lt, mm_le, mm_eq, q_sub, nI_add, q_mul, nI_clamp, bz_0, bz_1, q_bzb, b_0, b_1, b_ft, b_tf, ne_eq, not_true_eq_false, not_false_eq_true, decide_true, decide_false, Bool.and_self, Bool.false_and, Bool.and_false, Bool.and_true, Bool.true_and, Bool.not_true, Bool.not_false, ↓reduceIte]
      cases alk nl (fun i => spC G n wl cc q y (lw i)) (fun i => spC G n wl cc p y (lw i)) with
      | true => simp (disch := first | omega | rfl | assumption) only [bX11_speeches_53, bX11_speeches_60, bX11_speeches_61, q_cl, q_ps, q_pn, bI_t, bI_f, gI_same, gI_ne, gR_pI, gJ_pI, gV_pI, gN_pI, gC_pI, gS_pI, gI_pJ, gR_pJ, gV_pJ, gN_pJ, gJ_same, gJ_ne, gI_pR, gJ_pR, gV_pR, gN_pR, gR_same, gR_ne, zin_t, zin_f, x_ltt, x_ltf, x_let, x_lef, x_eqt, x_eqf, n_0, n_1, n_2, n_3, n_4, n_5, n_6, n_7, n_8, n_9, n_10, n_11, n_12, n_16, n_19, n_20, n_24, n_25, n_32, n_40, n_48, n_50, n_60, n_64, n_80, n_96, n_114, n_684, n_1000, n_9330, n_16806, n_1000000, n_5764800, ↓n_m, m_ltI, m_leI, m_lt', m_le', m_eq, m_eq', m_add, m_sub, mm_lt, mm_le, mm_eq, q_sub, nI_add, q_mul, nI_clamp, bz_0, bz_1, q_bzb, b_0, b_1, b_ft, b_tf, ne_eq, not_true_eq_false, not_false_eq_true, decide_true, decide_false, Bool.and_self, Bool.false_and, Bool.and_false, Bool.and_true, Bool.true_and, Bool.not_true, Bool.not_false, ↓reduceIte]
      | false => simp (disch := first | omega | rfl | assumption) only [bX11_speeches_53, bX11_speeches_61, q_cl, q_ps, q_pn, bI_t, bI_f, gI_same, gI_ne, gR_pI, gJ_pI, gV_pI, gN_pI, gC_pI, gS_pI, gI_pJ, gR_pJ, gV_pJ, gN_pJ, gJ_same, gJ_ne, gI_pR, gJ_pR, gV_pR, gN_pR, gR_same, gR_ne, zin_t, zin_f, x_ltt, x_ltf, x_let, x_lef, x_eqt, x_eqf, n_0, n_1, n_2, n_3, n_4, n_5, n_6, n_7, n_8, n_9, n_10, n_11, n_12, n_16, n_19, n_20, n_24, n_25, n_32, n_40, n_48, n_50, n_60, n_64, n_80, n_96, n_114, n_684, n_1000, n_9330, n_16806, n_1000000, n_5764800, ↓n_m, m_ltI, m_leI, m_lt', m_le', m_eq, m_eq', m_add, m_sub, mm_lt, mm_le, mm_eq, q_sub, nI_add, q_mul, nI_clamp, bz_0, bz_1, q_bzb, b_0, b_1, b_ft, b_tf, ne_eq, not_true_eq_false, not_false_eq_true, decide_true, decide_false, Bool.and_self, Bool.false_and, Bool.and_false, Bool.and_true, Bool.true_and, Bool.not_true, Bool.not_false, ↓reduceIte]
theorem m_cnt_out (d : Nat) {G : Gh} {n : Nat} {wl : Nat → Nat} {cc : Nat → Nat → Nat} {nl : Nat} {lw : Nat → List Nat} {y : Nat} (hy : y < 1000) : ∀ (r p : Nat) (u4 u5 : z_V) (h : z_H), p + r = 8 → mSl h G n wl cc nl lw →
    ∃ h', EX (d + 8) 231 22 [z_R 49100 0, z_I (nI y), z_I (nI (cntB (nwP nl (fun p i => spC G n wl cc p y (lw i))) p)), z_I (nI p), u4, u5] [] h = some (some (z_I (nI (cntB (nwP nl (fun p i => spC G n wl cc p y (lw i))) 8))), h') ∧ fr tW h h' := by
  intro r
  induction r with
  | zero =>
    intro p u4 u5 h hp m
    have : p = 8 := by omega
    subst this
    refine ⟨h, ?_, fr_rfl _ _⟩
    rw [bX11_speeches_22]
    simp (disch := first | omega | rfl | assumption) only [bX11_speeches_88, q_cl, q_ps, q_pn, bI_t, bI_f, gI_same, gI_ne, gR_pI, gJ_pI, gV_pI, gN_pI, gC_pI, gS_pI, gI_pJ, gR_pJ, gV_pJ, gN_pJ, gJ_same, gJ_ne, gI_pR, gJ_pR, gV_pR, gN_pR, gR_same, gR_ne, zin_t, zin_f, x_ltt, x_ltf, x_let, x_lef, x_eqt, x_eqf, n_0, n_1, n_2, n_3, n_4, n_5, n_6, n_7, n_8, n_9, n_10, n_11, n_12, n_16, n_19, n_20, n_24, n_25, n_32, n_40, n_48, n_50, n_60, n_64, n_80, n_96, n_114, n_684, n_1000, n_9330, n_16806, n_1000000, n_5764800, ↓n_m, m_ltI, m_leI, m_lt', m_le', m_eq, m_eq', m_add, m_sub, mm_lt, mm_le, mm_eq, q_sub, nI_add, q_mul, nI_clamp, bz_0, bz_1, q_bzb, b_0, b_1, b_ft, b_tf, ne_eq, not_true_eq_false, not_false_eq_true, decide_true, decide_false, Bool.and_self, Bool.false_and, Bool.and_false, Bool.and_true, Bool.true_and, Bool.not_true, Bool.not_false, ↓reduceIte]
  | succ r ih =>
    intro p u4 u5 h hp m
    obtain ⟨h1, p1, p2⟩ := m_cnt_in d (show p < 8 by omega) hy (nI (cntB (nwP nl (fun p i => spC G n wl cc p y (lw i))) p)) p 0 h (by omega) m
    obtain ⟨h', q1, q2⟩ := ih (p + 1) (z_I (bI (nwP nl (fun p i => spC G n wl cc p y (lw i)) p))) (z_I (nI p)) h1 (by omega) (mSl_tW p2 m)
    have es : cntB (nwP nl (fun p i => spC G n wl cc p y (lw i))) (p + 1) = cntB (nwP nl (fun p i => spC G n wl cc p y (lw i))) p + (if nwP nl (fun p i => spC G n wl cc p y (lw i)) p = true then 1 else 0) := rfl
    refine ⟨h', ?_, fr_trans p2 q2⟩
    have p1' : EX (d + 8) 231 34 [z_R 49100 0, z_I (nI y), z_I (nI (cntB (nwP nl (fun p i => spC G n wl cc p y (lw i))) p)), z_I (nI p), z_I (nI 1), z_I (nI 0)] [] h = _ := p1
    rw [← q1, es, bX11_speeches_22]
    simp (disch := first | omega | rfl | assumption) only [q_cl, q_ps, q_pn, bI_t, bI_f, gI_same, gI_ne, gR_pI, gJ_pI, gV_pI, gN_pI, gC_pI, gS_pI, gI_pJ, gR_pJ, gV_pJ, gN_pJ, gJ_same, gJ_ne, gI_pR, gJ_pR, gV_pR, gN_pR, gR_same, gR_ne, zin_t, zin_f, x_ltt, x_ltf, x_let, x_lef, x_eqt, x_eqf, n_0, n_1, n_2, n_3, n_4, n_5, n_6, n_7, n_8, n_9, n_10, n_11, n_12, n_16, n_19, n_20, n_24, n_25, n_32, n_40, n_48, n_50, n_60, n_64, n_80, n_96, n_114, n_684, n_1000, n_9330, n_16806, n_1000000, n_5764800, ↓n_m, m_ltI, m_leI, m_lt', m_le', m_eq, m_eq', m_add, m_sub, mm_lt, mm_le, mm_eq, q_sub, nI_add, q_mul, nI_clamp, bz_0, bz_1, q_bzb, b_0, b_1, b_ft, b_tf, ne_eq, not_true_eq_false, not_false_eq_true, decide_true, decide_false, Bool.and_self, Bool.false_and, Bool.and_false, Bool.and_true, Bool.true_and, Bool.not_true, Bool.not_false, ↓reduceIte]
    rw [p1', bX11_speeches_69]
    cases nwP nl (fun p i => spC G n wl cc p y (lw i)) p with
    | true => simp (disch := first | omega | rfl | assumption) only [bX11_speeches_80, q_cl, q_ps, q_pn, bI_t, bI_f, gI_same, gI_ne, gR_pI, gJ_pI, gV_pI, gN_pI, gC_pI, gS_pI, gI_pJ, gR_pJ, gV_pJ, gN_pJ, gJ_same, gJ_ne, gI_pR, gJ_pR, gV_pR, gN_pR, gR_same, gR_ne, zin_t, zin_f, x_ltt, x_ltf, x_let, x_lef, x_eqt, x_eqf, n_0, n_1, n_2, n_3, n_4, n_5, n_6, n_7, n_8, n_9, n_10, n_11, n_12, n_16, n_19, n_20, n_24, n_25, n_32, n_40, n_48, n_50, n_60, n_64, n_80, n_96, n_114, n_684, n_1000, n_9330, n_16806, n_1000000, n_5764800, ↓n_m, m_ltI, m_leI, m_lt', m_le', m_eq, m_eq', m_add, m_sub, mm_lt, mm_le, mm_eq, q_sub, nI_add, q_mul, nI_clamp, bz_0, bz_1, q_bzb, b_0, b_1, b_ft, b_tf, ne_eq, not_true_eq_false, not_false_eq_true, decide_true, decide_false, Bool.and_self, Bool.false_and, Bool.and_false, Bool.and_true, Bool.true_and, Bool.not_true, Bool.not_false, ↓reduceIte]
    | false => simp (disch := first | omega | rfl | assumption) only [bX11_speeches_79, bX11_speeches_80, q_cl, q_ps, q_pn, bI_t, bI_f, gI_same, gI_ne, gR_pI, gJ_pI, gV_pI, gN_pI, gC_pI, gS_pI, gI_pJ, gR_pJ, gV_pJ, gN_pJ, gJ_same, gJ_ne, gI_pR, gJ_pR, gV_pR, gN_pR, gR_same, gR_ne, zin_t, zin_f, x_ltt, x_ltf, x_let, x_lef, x_eqt, x_eqf, n_0, n_1, n_2, n_3, n_4, n_5, n_6, n_7, n_8, n_9, n_10, n_11, n_12, n_16, n_19, n_20, n_24, n_25, n_32, n_40, n_48, n_50, n_60, n_64, n_80, n_96, n_114, n_684, n_1000, n_9330, n_16806, n_1000000, n_5764800, ↓n_m, m_ltI, m_leI, m_lt', m_le', m_eq, m_eq', m_add, m_sub, mm_lt, mm_le, mm_eq, q_sub, nI_add, q_mul, nI_clamp, bz_0, bz_1, q_bzb, b_0, b_1, b_ft, b_tf, ne_eq, not_true_eq_false, not_false_eq_true, decide_true, decide_false, Bool.and_self, Bool.false_and, Bool.and_false, Bool.and_true, Bool.true_and, Bool.not_true, Bool.not_false, ↓reduceIte]
theorem mSl_of (d : Nat) {h : z_H} {N : Nat} {xs : Nat → Int32} {G : Gh} {e : Int32} (hG : InvG h N xs G e) {rd sh : Nat → Nat} {n : Nat} {wl wp wy : Nat → Nat} (hL : iLdG h (gnL G) rd sh n wl wp wy) {nl : Nat} {lw : Nat → List Nat} (hl : iLiG h nl lw) :
    ∃ h', Rn (d + 3) 225 [z_R 49100 0] h = some (none, h') ∧ mSl h' G n wl (fun k p => arr rd sh (wp k) (wy k) p) nl lw ∧ frX [12] h h' := by
  obtain ⟨h', f1, f2, f3⟩ := mSp_of d hG hL
  obtain ⟨l1, l2, l3, l4⟩ := iLiG_fr f3 (by decide) hl
  exact ⟨h', f1, ⟨f2, l1, l3, fun k hk => ⟨(l4 k hk).1, (l4 k hk).2.2⟩⟩, f3⟩
theorem op_speeches {N : Nat} {xs : Nat → Int32} (d : Nat) {h : z_H} (hI : Inv h N xs) (x1 : Int32) : OKc N xs (d + 60) 121 231 [z_I x1] h := by
  obtain ⟨G, hG⟩ := hI
  have m := I_m hG
  have c := I_c hG
  cases g1 : z_in x1 1000 with
  | false => exact OK_ref2 hG (-1000001) (by simp (disch := first | omega | rfl | assumption) only [bX10_speeches_0, bX10_speeches_5, bX10_speeches_14, bX10_speeches_15, bX10_speeches_22, bX10_speeches_30, rX10_speeches, c_noYear, g1, c_finding, q_cl, q_ps, q_pn, bI_t, bI_f, gI_same, gI_ne, gR_pI, gJ_pI, gV_pI, gN_pI, gC_pI, gS_pI, gI_pJ, gR_pJ, gV_pJ, gN_pJ, gJ_same, gJ_ne, gI_pR, gJ_pR, gV_pR, gN_pR, gR_same, gR_ne, zin_t, zin_f, x_ltt, x_ltf, x_let, x_lef, x_eqt, x_eqf, n_0, n_1, n_2, n_3, n_4, n_5, n_6, n_7, n_8, n_9, n_10, n_11, n_12, n_16, n_19, n_20, n_24, n_25, n_32, n_40, n_48, n_50, n_60, n_64, n_80, n_96, n_114, n_684, n_1000, n_9330, n_16806, n_1000000, n_5764800, ↓n_m, m_ltI, m_leI, m_lt', m_le', m_eq, m_eq', m_add, m_sub, mm_lt, mm_le, mm_eq, q_sub, nI_add, q_mul, nI_clamp, bz_0, bz_1, q_bzb, b_0, b_1, b_ft, b_tf, ne_eq, not_true_eq_false, not_false_eq_true, decide_true, decide_false, Bool.and_self, Bool.false_and, Bool.and_false, Bool.and_true, Bool.true_and, Bool.not_true, Bool.not_false, ↓reduceIte]) (by simp (disch := first | omega | rfl | assumption) only [bX11_speeches_0, bX11_speeches_4, bX11_speeches_13, bX11_speeches_14, bX11_speeches_18, bX11_speeches_22, bX11_speeches_34, bX11_speeches_53, bX11_speeches_60, bX11_speeches_61, bX11_speeches_69, bX11_speeches_79, bX11_speeches_80, bX11_speeches_88, rX11_speeches, m_isYear, g1, m_finding, q_cl, q_ps, q_pn, bI_t, bI_f, gI_same, gI_ne, gR_pI, gJ_pI, gV_pI, gN_pI, gC_pI, gS_pI, gI_pJ, gR_pJ, gV_pJ, gN_pJ, gJ_same, gJ_ne, gI_pR, gJ_pR, gV_pR, gN_pR, gR_same, gR_ne, zin_t, zin_f, x_ltt, x_ltf, x_let, x_lef, x_eqt, x_eqf, n_0, n_1, n_2, n_3, n_4, n_5, n_6, n_7, n_8, n_9, n_10, n_11, n_12, n_16, n_19, n_20, n_24, n_25, n_32, n_40, n_48, n_50, n_60, n_64, n_80, n_96, n_114, n_684, n_1000, n_9330, n_16806, n_1000000, n_5764800, ↓n_m, m_ltI, m_leI, m_lt', m_le', m_eq, m_eq', m_add, m_sub, mm_lt, mm_le, mm_eq, q_sub, nI_add, q_mul, nI_clamp, bz_0, bz_1, q_bzb, b_0, b_1, b_ft, b_tf, ne_eq, not_true_eq_false, not_false_eq_true, decide_true, decide_false, Bool.and_self, Bool.false_and, Bool.and_false, Bool.and_true, Bool.true_and, Bool.not_true, Bool.not_false, ↓reduceIte])
  | true =>
    obtain ⟨y, hy, -, rfl⟩ := zin_of g1
    obtain ⟨rd, sh, n, wl, wp, wy, hL⟩ := I_ld hG
    obtain ⟨h1, e1, I1, hL1, e2, F1⟩ := c_spread (d + 56) hG hL
    obtain ⟨nl, lw, hl⟩ := I_li I1
    obtain ⟨h2, k1, k2⟩ := c_cnt_out (d + 53) hy 8 0 z_U z_U h1 (by omega) ⟨I1, hL1, e2, hl⟩ (fun q hq => by omega)
    have I2 := Inv_scr k2 I1
    obtain ⟨h3, f1, f2, f3⟩ := mSl_of (d + 56) I2 (iLdG_fr k2 (by decide) (by decide) (by decide) hL1) (iLiG_fr k2 (by decide) hl)
    have I3 := Inv_scr f3 I2
    obtain ⟨h4, s1, s2⟩ := m_cnt_out (d + 51) hy 8 0 z_U z_U h3 (by omega) f2
    refine ⟨nI (cntB (nwP nl (fun p i => spF G rd sh n wl wp wy p y (lw i))) 8), h2, h4, ?_, ?_, G, Inv_scr (frX_fr s2 tW_g) I3⟩
    · have k1' : EX (d + 58) 47 4 [z_R 11030 0, z_I (nI y), z_I (nI 0), z_I (nI 0), z_U, z_U] [] h1 = _ := k1
      simp (disch := first | omega | rfl | assumption) only [bX10_speeches_0, bX10_speeches_5, bX10_speeches_14, bX10_speeches_15, bX10_speeches_22, bX10_speeches_30, rX10_speeches, c_noYear, g1, c.1 10090 5 rfl, e1, (I_c I1).1 10090 5 rfl, rX3_countSpeeches, bX3_countSpeeches_0, k1', q_cl, q_ps, q_pn, bI_t, bI_f, gI_same, gI_ne, gR_pI, gJ_pI, gV_pI, gN_pI, gC_pI, gS_pI, gI_pJ, gR_pJ, gV_pJ, gN_pJ, gJ_same, gJ_ne, gI_pR, gJ_pR, gV_pR, gN_pR, gR_same, gR_ne, zin_t, zin_f, x_ltt, x_ltf, x_let, x_lef, x_eqt, x_eqf, n_0, n_1, n_2, n_3, n_4, n_5, n_6, n_7, n_8, n_9, n_10, n_11, n_12, n_16, n_19, n_20, n_24, n_25, n_32, n_40, n_48, n_50, n_60, n_64, n_80, n_96, n_114, n_684, n_1000, n_9330, n_16806, n_1000000, n_5764800, ↓n_m, m_ltI, m_leI, m_lt', m_le', m_eq, m_eq', m_add, m_sub, mm_lt, mm_le, mm_eq, q_sub, nI_add, q_mul, nI_clamp, bz_0, bz_1, q_bzb, b_0, b_1, b_ft, b_tf, ne_eq, not_true_eq_false, not_false_eq_true, decide_true, decide_false, Bool.and_self, Bool.false_and, Bool.and_false, Bool.and_true, Bool.true_and, Bool.not_true, Bool.not_false, ↓reduceIte]
    · have s1' : EX (d + 59) 231 22 [z_R 49100 0, z_I (nI y), z_I (nI 0), z_I (nI 0), z_U, z_U] [] h3 = _ := s1
      simp (disch := first | omega | rfl | assumption) only [rX11_speeches, bX11_speeches_0, bX11_speeches_4, m_isYear, g1, bX11_speeches_14, f1, bX11_speeches_18, s1', q_cl, q_ps, q_pn, bI_t, bI_f, gI_same, gI_ne, gR_pI, gJ_pI, gV_pI, gN_pI, gC_pI, gS_pI, gI_pJ, gR_pJ, gV_pJ, gN_pJ, gJ_same, gJ_ne, gI_pR, gJ_pR, gV_pR, gN_pR, gR_same, gR_ne, zin_t, zin_f, x_ltt, x_ltf, x_let, x_lef, x_eqt, x_eqf, n_0, n_1, n_2, n_3, n_4, n_5, n_6, n_7, n_8, n_9, n_10, n_11, n_12, n_16, n_19, n_20, n_24, n_25, n_32, n_40, n_48, n_50, n_60, n_64, n_80, n_96, n_114, n_684, n_1000, n_9330, n_16806, n_1000000, n_5764800, ↓n_m, m_ltI, m_leI, m_lt', m_le', m_eq, m_eq', m_add, m_sub, mm_lt, mm_le, mm_eq, q_sub, nI_add, q_mul, nI_clamp, bz_0, bz_1, q_bzb, b_0, b_1, b_ft, b_tf, ne_eq, not_true_eq_false, not_false_eq_true, decide_true, decide_false, Bool.and_self, Bool.false_and, Bool.and_false, Bool.and_true, Bool.true_and, Bool.not_true, Bool.not_false, ↓reduceIte]
