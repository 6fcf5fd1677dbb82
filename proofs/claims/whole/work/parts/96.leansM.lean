/-! ===== leans: the reference ===== -/
def exB (P : Nat → Bool) : Nat → Bool
  | 0 => false
  | n + 1 => exB P n || P n
theorem exB_succ (P : Nat → Bool) (n : Nat) : exB P (n + 1) = (exB P n || P n) := rfl
theorem exB_no {P : Nat → Bool} : ∀ n, (∀ k, k < n → P k = false) → exB P n = false := by
  intro n
  induction n with
  | zero => intro _; rfl
  | succ n ih => intro h; rw [exB_succ, ih (fun k hk => h k (by omega)), h n (by omega)]; rfl
theorem exB_stay {P : Nat → Bool} {s : Nat} (h : exB P s = true) : ∀ r, exB P (s + r) = true := by
  intro r
  induction r with
  | zero => exact h
  | succ r ih => show (exB P (s + r) || P (s + r)) = true; rw [ih, Bool.true_or]
theorem exB_yes {P : Nat → Bool} {k : Nat} (n : Nat) (hk : k < n) (h : P k = true) : exB P n = true := by
  have := exB_stay (P := P) (s := k + 1) (by rw [exB_succ, h, Bool.or_true]) (n - (k + 1))
  rwa [show k + 1 + (n - (k + 1)) = n by omega] at this
/-- whether a stem is a mother of a match either with the law mu - 1 or without it alone -/
def lnD (G : Gh) (mu : Nat) (K : Nat → Nat → Option (List Nat)) (s m : Nat) : Bool := moB G 0 (K m) s (gnT G) != moB G mu (K m) s (gnT G)
/-- a set of numbers below n, as bits -/
def tbs (A n : Nat) (P : Nat → Bool) : Prop := A < 2 ^ n ∧ ∀ k, k < n → A.testBit k = P k
theorem tbs_0 (n : Nat) {P : Nat → Bool} (h : ∀ k, k < n → P k = false) : tbs 0 n P := ⟨Nat.two_pow_pos n, fun k hk => by rw [h k hk, Nat.zero_testBit]⟩
theorem tbs_congr {A n : Nat} {P Q : Nat → Bool} (h : tbs A n P) (e : ∀ k, k < n → P k = Q k) : tbs A n Q := ⟨h.1, fun k hk => (h.2 k hk).trans (e k hk)⟩
theorem tbs_set {A n m : Nat} {P : Nat → Bool} (h : tbs A n P) (hm : m < n) : tbs (A ||| 2 ^ m) n (fun k => P k || decide (m = k)) := by
  refine ⟨Nat.or_lt_two_pow h.1 (Nat.pow_lt_pow_right (by decide) hm), fun k hk => ?_⟩
  rw [Nat.testBit_or, h.2 k hk, Nat.testBit_two_pow]
theorem tbs_lt {A n : Nat} {P : Nat → Bool} (h : tbs A n P) (hn : n ≤ 10) : A < 1024 := Nat.lt_of_lt_of_le h.1 (show 2 ^ n ≤ 2 ^ 10 from Nat.pow_le_pow_right (by decide) hn)
theorem tbs_zero {A n : Nat} {P : Nat → Bool} (h : tbs A n P) : A = 0 ↔ ∀ k, k < n → P k = false := by
  constructor
  · intro z k hk
    rw [← h.2 k hk, z, Nat.zero_testBit]
  · intro z
    refine Nat.eq_of_testBit_eq (fun k => ?_)
    rw [Nat.zero_testBit]
    by_cases hk : k < n
    · rw [h.2 k hk, z k hk]
    · exact Nat.testBit_lt_two_pow (Nat.lt_of_lt_of_le h.1 (Nat.pow_le_pow_right (by decide) (by omega)))
theorem m_mo2_loop (d : Nat) {h : z_H} {G : Gh} {mu nM a s : Nat} {K : Nat → Nat → Option (List Nat)} {nu : Nat} (m : mT h G nu) (k : kn h G nM K) (hs : spr h G mu (stW s)) (hsW : isW (stW s)) (ha : a < nM) : ∀ (r t : Nat) (u : z_V), t + r = gnT G →
    EX d 195 4 [z_R 49100 0, z_I (nI a), z_I (bI (moB G mu (K a) s t)), z_I (nI t), u] [] h = some (some (z_I (bI (moB G mu (K a) s (gnT G)))), h) := by
  have h8 := m.1.2.2.2.1
  have h10 := k.1
  intro r
  induction r with
  | zero =>
    intro t u ht
    have : t = gnT G := by omega
    subst this
    rw [bX11_isMother_4]
    simp (disch := first | omega | rfl | assumption) only [m.2.2.2.2.2.1, bX11_isMother_57, q_cl, q_ps, q_pn, bI_t, bI_f, gI_same, gI_ne, gR_pI, gJ_pI, gV_pI, gN_pI, gC_pI, gS_pI, gI_pJ, gR_pJ, gV_pJ, gN_pJ, gJ_same, gJ_ne, gI_pR, gJ_pR, gV_pR, gN_pR, gR_same, gR_ne, zin_t, zin_f, x_ltt, x_ltf, x_let, x_lef, x_eqt, x_eqf, n_0, n_1, n_2, n_3, n_4, n_5, n_6, n_7, n_8, n_9, n_10, n_11, n_12, n_16, n_19, n_20, n_24, n_25, n_32, n_40, n_48, n_50, n_60, n_64, n_80, n_96, n_114, n_684, n_1000, n_9330, n_16806, n_1000000, n_5764800, ↓n_m, m_ltI, m_leI, m_lt', m_le', m_eq, m_eq', m_add, m_sub, mm_lt, mm_le, mm_eq, q_sub, nI_add, q_mul, nI_clamp, bz_0, bz_1, q_bzb, b_0, b_1, b_ft, b_tf, ne_eq, not_true_eq_false, not_false_eq_true, decide_true, decide_false, Bool.and_self, Bool.false_and, Bool.and_false, Bool.and_true, Bool.true_and, Bool.not_true, Bool.not_false, ↓reduceIte]
  | succ r ih =>
    intro t u ht
    have htn : t < gnT G := by omega
    have hwo := wrt_ok m.1 mu htn hsW
    have hwl := wN_lt hwo
    obtain ⟨ko, ke⟩ := k.2 a ha t htn
    have hse := (hs t htn).2
    have e3 : moB G mu (K a) s (t + 1) = (moB G mu (K a) s t && (decide (K a t = none) || decide (K a t = some (wrt G mu t (stW s))))) := rfl
    have ih1 := fun u => ih (t + 1) u (by omega)
    rw [e3] at ih1
    rw [bX11_isMother_4]
    cases hb : moB G mu (K a) s t with
    | false =>
      simp only [hb, Bool.false_and] at ih1
      simp (disch := first | omega | rfl | assumption) only [m.2.2.2.2.2.1, m.2.1 41 rfl, bX11_isMother_49, bX11_isMother_50, q_cl, q_ps, q_pn, bI_t, bI_f, gI_same, gI_ne, gR_pI, gJ_pI, gV_pI, gN_pI, gC_pI, gS_pI, gI_pJ, gR_pJ, gV_pJ, gN_pJ, gJ_same, gJ_ne, gI_pR, gJ_pR, gV_pR, gN_pR, gR_same, gR_ne, zin_t, zin_f, x_ltt, x_ltf, x_let, x_lef, x_eqt, x_eqf, n_0, n_1, n_2, n_3, n_4, n_5, n_6, n_7, n_8, n_9, n_10, n_11, n_12, n_16, n_19, n_20, n_24, n_25, n_32, n_40, n_48, n_50, n_60, n_64, n_80, n_96, n_114, n_684, n_1000, n_9330, n_16806, n_1000000, n_5764800, ↓n_m, m_ltI, m_leI, m_lt', m_le', m_eq, m_eq', m_add, m_sub, mm_lt, mm_le, mm_eq, q_sub, nI_add, q_mul, nI_clamp, bz_0, bz_1, q_bzb, b_0, b_1, b_ft, b_tf, ne_eq, not_true_eq_false, not_false_eq_true, decide_true, decide_false, Bool.and_self, Bool.false_and, Bool.and_false, Bool.and_true, Bool.true_and, Bool.not_true, Bool.not_false, ↓reduceIte]
      exact ih1 _
    | true =>
      simp only [hb, Bool.true_and] at ih1
      rcases num_eq ko hwo with ⟨o1, o2⟩ | ⟨v, o1, o2, o3, o4⟩
      · simp only [o1, decide_true, Bool.true_or] at ih1
        rw [o2] at ke
        simp (disch := first | omega | rfl | assumption) only [m.2.2.2.2.2.1, m.2.1 41 rfl, ke, mI_lt0, bX11_isMother_45, bX11_isMother_50, q_cl, q_ps, q_pn, bI_t, bI_f, gI_same, gI_ne, gR_pI, gJ_pI, gV_pI, gN_pI, gC_pI, gS_pI, gI_pJ, gR_pJ, gV_pJ, gN_pJ, gJ_same, gJ_ne, gI_pR, gJ_pR, gV_pR, gN_pR, gR_same, gR_ne, zin_t, zin_f, x_ltt, x_ltf, x_let, x_lef, x_eqt, x_eqf, n_0, n_1, n_2, n_3, n_4, n_5, n_6, n_7, n_8, n_9, n_10, n_11, n_12, n_16, n_19, n_20, n_24, n_25, n_32, n_40, n_48, n_50, n_60, n_64, n_80, n_96, n_114, n_684, n_1000, n_9330, n_16806, n_1000000, n_5764800, ↓n_m, m_ltI, m_leI, m_lt', m_le', m_eq, m_eq', m_add, m_sub, mm_lt, mm_le, mm_eq, q_sub, nI_add, q_mul, nI_clamp, bz_0, bz_1, q_bzb, b_0, b_1, b_ft, b_tf, ne_eq, not_true_eq_false, not_false_eq_true, decide_true, decide_false, Bool.and_self, Bool.false_and, Bool.and_false, Bool.and_true, Bool.true_and, Bool.not_true, Bool.not_false, ↓reduceIte]
        exact ih1 _
      · rw [o2] at ke
        have hn : ¬ K a t = none := fun z => by rw [o1] at z; cases z
        by_cases hq : wN v = wN (wrt G mu t (stW s))
        · simp only [o4.mp hq, decide_true, Bool.or_true] at ih1
          simp (disch := first | omega | rfl | assumption) only [m.2.2.2.2.2.1, m.2.1 41 rfl, m.2.1 43 rfl, ke, hse, hq, bX11_isMother_45, bX11_isMother_50, q_cl, q_ps, q_pn, bI_t, bI_f, gI_same, gI_ne, gR_pI, gJ_pI, gV_pI, gN_pI, gC_pI, gS_pI, gI_pJ, gR_pJ, gV_pJ, gN_pJ, gJ_same, gJ_ne, gI_pR, gJ_pR, gV_pR, gN_pR, gR_same, gR_ne, zin_t, zin_f, x_ltt, x_ltf, x_let, x_lef, x_eqt, x_eqf, n_0, n_1, n_2, n_3, n_4, n_5, n_6, n_7, n_8, n_9, n_10, n_11, n_12, n_16, n_19, n_20, n_24, n_25, n_32, n_40, n_48, n_50, n_60, n_64, n_80, n_96, n_114, n_684, n_1000, n_9330, n_16806, n_1000000, n_5764800, ↓n_m, m_ltI, m_leI, m_lt', m_le', m_eq, m_eq', m_add, m_sub, mm_lt, mm_le, mm_eq, q_sub, nI_add, q_mul, nI_clamp, bz_0, bz_1, q_bzb, b_0, b_1, b_ft, b_tf, ne_eq, not_true_eq_false, not_false_eq_true, decide_true, decide_false, Bool.and_self, Bool.false_and, Bool.and_false, Bool.and_true, Bool.true_and, Bool.not_true, Bool.not_false, ↓reduceIte]
          exact ih1 _
        · have hq2 : ¬ K a t = some (wrt G mu t (stW s)) := fun z => hq (o4.mpr z)
          simp only [hn, hq2, decide_false, Bool.or_false] at ih1
          simp (disch := first | omega | rfl | assumption) only [m.2.2.2.2.2.1, m.2.1 41 rfl, m.2.1 43 rfl, ke, hse, bX11_isMother_49, bX11_isMother_50, q_cl, q_ps, q_pn, bI_t, bI_f, gI_same, gI_ne, gR_pI, gJ_pI, gV_pI, gN_pI, gC_pI, gS_pI, gI_pJ, gR_pJ, gV_pJ, gN_pJ, gJ_same, gJ_ne, gI_pR, gJ_pR, gV_pR, gN_pR, gR_same, gR_ne, zin_t, zin_f, x_ltt, x_ltf, x_let, x_lef, x_eqt, x_eqf, n_0, n_1, n_2, n_3, n_4, n_5, n_6, n_7, n_8, n_9, n_10, n_11, n_12, n_16, n_19, n_20, n_24, n_25, n_32, n_40, n_48, n_50, n_60, n_64, n_80, n_96, n_114, n_684, n_1000, n_9330, n_16806, n_1000000, n_5764800, ↓n_m, m_ltI, m_leI, m_lt', m_le', m_eq, m_eq', m_add, m_sub, mm_lt, mm_le, mm_eq, q_sub, nI_add, q_mul, nI_clamp, bz_0, bz_1, q_bzb, b_0, b_1, b_ft, b_tf, ne_eq, not_true_eq_false, not_false_eq_true, decide_true, decide_false, Bool.and_self, Bool.false_and, Bool.and_false, Bool.and_true, Bool.true_and, Bool.not_true, Bool.not_false, ↓reduceIte]
          exact ih1 _
theorem m_isMother2 (d : Nat) {h : z_H} {G : Gh} {mu nM a s : Nat} {K : Nat → Nat → Option (List Nat)} {nu : Nat} (m : mT h G nu) (k : kn h G nM K) (hs : spr h G mu (stW s)) (hsW : isW (stW s)) (ha : a < nM) : Rn (d + 1) 195 [z_R 49100 0, z_I (nI a)] h = some (some (z_I (bI (moB G mu (K a) s (gnT G)))), h) := by
  rw [rX11_isMother, bX11_isMother_0]
  exact m_mo2_loop d m k hs hsW ha (gnT G) 0 _ (by omega)
theorem m_le1 (d : Nat) {h : z_H} {G : Gh} {nM s : Nat} {K : Nat → Nat → Option (List Nat)} (m : mT h G 0) (k : kn h G nM K) (hs : spr h G 0 (stW s)) (hsW : isW (stW s)) (e14 : gI h 49100 0 14 = nI nM) (x1 x2 x3 x4 : Int32) : ∀ (r a A : Nat), a + r = nM → tbs A nM (fun k => decide (k < a) && moB G 0 (K k) s (gnT G)) →
    ∃ A', tbs A' nM (fun k => moB G 0 (K k) s (gnT G)) ∧ EX (d + 1) 205 52 [z_R 49100 0, z_I x1, z_I x2, z_I x3, z_I x4, z_I (nI A), z_I (nI a)] [] h = EX (d + 1) 205 89 [z_R 49100 0, z_I x1, z_I x2, z_I x3, z_I x4, z_I (nI A'), z_I (nI nM)] [] h := by
  have h10 := k.1
  intro r
  induction r with
  | zero =>
    intro a A ha hA
    have : a = nM := by omega
    subst this
    refine ⟨A, tbs_congr hA (fun k hk => by rw [decide_eq_true hk, Bool.true_and]), ?_⟩
    rw [bX11_leans_52]
    simp (disch := first | omega | rfl | assumption) only [e14, q_cl, q_ps, q_pn, bI_t, bI_f, gI_same, gI_ne, gR_pI, gJ_pI, gV_pI, gN_pI, gC_pI, gS_pI, gI_pJ, gR_pJ, gV_pJ, gN_pJ, gJ_same, gJ_ne, gI_pR, gJ_pR, gV_pR, gN_pR, gR_same, gR_ne, zin_t, zin_f, x_ltt, x_ltf, x_let, x_lef, x_eqt, x_eqf, n_0, n_1, n_2, n_3, n_4, n_5, n_6, n_7, n_8, n_9, n_10, n_11, n_12, n_16, n_19, n_20, n_24, n_25, n_32, n_40, n_48, n_50, n_60, n_64, n_80, n_96, n_114, n_684, n_1000, n_9330, n_16806, n_1000000, n_5764800, ↓n_m, m_ltI, m_leI, m_lt', m_le', m_eq, m_eq', m_add, m_sub, mm_lt, mm_le, mm_eq, q_sub, nI_add, q_mul, nI_clamp, bz_0, bz_1, q_bzb, b_0, b_1, b_ft, b_tf, ne_eq, not_true_eq_false, not_false_eq_true, decide_true, decide_false, Bool.and_self, Bool.false_and, Bool.and_false, Bool.and_true, Bool.true_and, Bool.not_true, Bool.not_false, ↓reduceIte]
  | succ r ih =>
    intro a A ha hA
    have han : a < nM := by omega
    have e1 := m_isMother d m k hs hsW han
    have hsh : nI 1 <<< (nI a &&& 31) = nI (2 ^ a) := by rw [q_shl 1 (by omega), Nat.one_mul]
    rw [bX11_leans_52]
    cases hb : moB G 0 (K a) s (gnT G) with
    | true =>
      rw [hb] at e1
      obtain ⟨A', q1, q2⟩ := ih (a + 1) (A ||| 2 ^ a) (by omega) (tbs_congr (tbs_set hA han) (fun k hk => by
        by_cases e : a = k
        · subst e; rw [decide_eq_true rfl, Bool.or_true, decide_eq_true (Nat.lt_succ_self a), hb]; rfl
        · rw [decide_eq_false e, Bool.or_false]
          congr 1
          exact decide_eq_decide.mpr (by omega)))
      refine ⟨A', q1, ?_⟩
      simp (disch := first | omega | rfl | assumption) only [e14, e1, bX11_leans_69, hsh, bX11_leans_80, q_or, q_cl, q_ps, q_pn, bI_t, bI_f, gI_same, gI_ne, gR_pI, gJ_pI, gV_pI, gN_pI, gC_pI, gS_pI, gI_pJ, gR_pJ, gV_pJ, gN_pJ, gJ_same, gJ_ne, gI_pR, gJ_pR, gV_pR, gN_pR, gR_same, gR_ne, zin_t, zin_f, x_ltt, x_ltf, x_let, x_lef, x_eqt, x_eqf, n_0, n_1, n_2, n_3, n_4, n_5, n_6, n_7, n_8, n_9, n_10, n_11, n_12, n_16, n_19, n_20, n_24, n_25, n_32, n_40, n_48, n_50, n_60, n_64, n_80, n_96, n_114, n_684, n_1000, n_9330, n_16806, n_1000000, n_5764800, ↓n_m, m_ltI, m_leI, m_lt', m_le', m_eq, m_eq', m_add, m_sub, mm_lt, mm_le, mm_eq, q_sub, nI_add, q_mul, nI_clamp, bz_0, bz_1, q_bzb, b_0, b_1, b_ft, b_tf, ne_eq, not_true_eq_false, not_false_eq_true, decide_true, decide_false, Bool.and_self, Bool.false_and, Bool.and_false, Bool.and_true, Bool.true_and, Bool.not_true, Bool.not_false, ↓reduceIte]
      exact q2
    | false =>
      rw [hb] at e1
      obtain ⟨A', q1, q2⟩ := ih (a + 1) A (by omega) (tbs_congr hA (fun k hk => by
        by_cases e : a = k
        · subst e; rw [hb, Bool.and_false, Bool.and_false]
        · congr 1
          exact decide_eq_decide.mpr (by omega)))
      refine ⟨A', q1, ?_⟩
      simp (disch := first | omega | rfl | assumption) only [e14, e1, bX11_leans_69, bX11_leans_79, bX11_leans_80, q_or, Nat.or_zero, q_cl, q_ps, q_pn, bI_t, bI_f, gI_same, gI_ne, gR_pI, gJ_pI, gV_pI, gN_pI, gC_pI, gS_pI, gI_pJ, gR_pJ, gV_pJ, gN_pJ, gJ_same, gJ_ne, gI_pR, gJ_pR, gV_pR, gN_pR, gR_same, gR_ne, zin_t, zin_f, x_ltt, x_ltf, x_let, x_lef, x_eqt, x_eqf, n_0, n_1, n_2, n_3, n_4, n_5, n_6, n_7, n_8, n_9, n_10, n_11, n_12, n_16, n_19, n_20, n_24, n_25, n_32, n_40, n_48, n_50, n_60, n_64, n_80, n_96, n_114, n_684, n_1000, n_9330, n_16806, n_1000000, n_5764800, ↓n_m, m_ltI, m_leI, m_lt', m_le', m_eq, m_eq', m_add, m_sub, mm_lt, mm_le, mm_eq, q_sub, nI_add, q_mul, nI_clamp, bz_0, bz_1, q_bzb, b_0, b_1, b_ft, b_tf, ne_eq, not_true_eq_false, not_false_eq_true, decide_true, decide_false, Bool.and_self, Bool.false_and, Bool.and_false, Bool.and_true, Bool.true_and, Bool.not_true, Bool.not_false, ↓reduceIte]
      exact q2
theorem m_le2 (d : Nat) {h : z_H} {G : Gh} {mu nM s A : Nat} {K : Nat → Nat → Option (List Nat)} (m : mT h G 0) (k : kn h G nM K) (hs : spr h G mu (stW s)) (hsW : isW (stW s)) (e14 : gI h 49100 0 14 = nI nM) (hA : tbs A nM (fun k => moB G 0 (K k) s (gnT G))) (x1 x2 x4 : Int32) (E : Nat → Bool) : ∀ (r a B : Nat), a + r = nM → tbs B nM (fun k => E k || (decide (k < a) && lnD G mu K s k)) →
    ∃ B', tbs B' nM (fun k => E k || lnD G mu K s k) ∧ EX (d + 1) 205 108 [z_R 49100 0, z_I x1, z_I x2, z_I (nI B), z_I x4, z_I (nI A), z_I (nI a)] [] h = EX (d + 1) 205 159 [z_R 49100 0, z_I x1, z_I x2, z_I (nI B'), z_I x4, z_I (nI A), z_I (nI nM)] [] h := by
  have h10 := k.1
  have hA10 := tbs_lt hA h10
  intro r
  induction r with
  | zero =>
    intro a B ha hB
    have : a = nM := by omega
    subst this
    refine ⟨B, tbs_congr hB (fun k hk => by rw [decide_eq_true hk, Bool.true_and]), ?_⟩
    rw [bX11_leans_108]
    simp (disch := first | omega | rfl | assumption) only [e14, q_cl, q_ps, q_pn, bI_t, bI_f, gI_same, gI_ne, gR_pI, gJ_pI, gV_pI, gN_pI, gC_pI, gS_pI, gI_pJ, gR_pJ, gV_pJ, gN_pJ, gJ_same, gJ_ne, gI_pR, gJ_pR, gV_pR, gN_pR, gR_same, gR_ne, zin_t, zin_f, x_ltt, x_ltf, x_let, x_lef, x_eqt, x_eqf, n_0, n_1, n_2, n_3, n_4, n_5, n_6, n_7, n_8, n_9, n_10, n_11, n_12, n_16, n_19, n_20, n_24, n_25, n_32, n_40, n_48, n_50, n_60, n_64, n_80, n_96, n_114, n_684, n_1000, n_9330, n_16806, n_1000000, n_5764800, ↓n_m, m_ltI, m_leI, m_lt', m_le', m_eq, m_eq', m_add, m_sub, mm_lt, mm_le, mm_eq, q_sub, nI_add, q_mul, nI_clamp, bz_0, bz_1, q_bzb, b_0, b_1, b_ft, b_tf, ne_eq, not_true_eq_false, not_false_eq_true, decide_true, decide_false, Bool.and_self, Bool.false_and, Bool.and_false, Bool.and_true, Bool.true_and, Bool.not_true, Bool.not_false, ↓reduceIte]
  | succ r ih =>
    intro a B ha hB
    have han : a < nM := by omega
    have e1 := m_isMother2 d m k hs hsW han
    have hsh : nI 1 <<< (nI a &&& 31) = nI (2 ^ a) := by rw [q_shl 1 (by omega), Nat.one_mul]
    have hbit : (nI A >>> (nI a &&& 31)) &&& nI 1 = bI (moB G 0 (K a) s (gnT G)) := by
      rw [q_bitS (by omega) (by omega), hA.2 a han]
    have step : EX (d + 1) 205 108 [z_R 49100 0, z_I x1, z_I x2, z_I (nI B), z_I x4, z_I (nI A), z_I (nI a)] [] h = EX (d + 1) 205 140 [z_R 49100 0, z_I x1, z_I x2, z_I (nI B), z_I x4, z_I (nI A), z_I (nI a)] [z_I (bI (moB G 0 (K a) s (gnT G))), z_I (bI (moB G mu (K a) s (gnT G))), z_I (nI B)] h := by
      rw [bX11_leans_108]
      simp (disch := first | omega | rfl | assumption) only [e14, e1, bX11_leans_124, hbit, q_cl, q_ps, q_pn, bI_t, bI_f, gI_same, gI_ne, gR_pI, gJ_pI, gV_pI, gN_pI, gC_pI, gS_pI, gI_pJ, gR_pJ, gV_pJ, gN_pJ, gJ_same, gJ_ne, gI_pR, gJ_pR, gV_pR, gN_pR, gR_same, gR_ne, zin_t, zin_f, x_ltt, x_ltf, x_let, x_lef, x_eqt, x_eqf, n_0, n_1, n_2, n_3, n_4, n_5, n_6, n_7, n_8, n_9, n_10, n_11, n_12, n_16, n_19, n_20, n_24, n_25, n_32, n_40, n_48, n_50, n_60, n_64, n_80, n_96, n_114, n_684, n_1000, n_9330, n_16806, n_1000000, n_5764800, ↓n_m, m_ltI, m_leI, m_lt', m_le', m_eq, m_eq', m_add, m_sub, mm_lt, mm_le, mm_eq, q_sub, nI_add, q_mul, nI_clamp, bz_0, bz_1, q_bzb, b_0, b_1, b_ft, b_tf, ne_eq, not_true_eq_false, not_false_eq_true, decide_true, decide_false, Bool.and_self, Bool.false_and, Bool.and_false, Bool.and_true, Bool.true_and, Bool.not_true, Bool.not_false, ↓reduceIte]
      cases moB G 0 (K a) s (gnT G) with
      | true => simp (disch := first | omega | rfl | assumption) only [q_cl, q_ps, q_pn, bI_t, bI_f, gI_same, gI_ne, gR_pI, gJ_pI, gV_pI, gN_pI, gC_pI, gS_pI, gI_pJ, gR_pJ, gV_pJ, gN_pJ, gJ_same, gJ_ne, gI_pR, gJ_pR, gV_pR, gN_pR, gR_same, gR_ne, zin_t, zin_f, x_ltt, x_ltf, x_let, x_lef, x_eqt, x_eqf, n_0, n_1, n_2, n_3, n_4, n_5, n_6, n_7, n_8, n_9, n_10, n_11, n_12, n_16, n_19, n_20, n_24, n_25, n_32, n_40, n_48, n_50, n_60, n_64, n_80, n_96, n_114, n_684, n_1000, n_9330, n_16806, n_1000000, n_5764800, ↓n_m, m_ltI, m_leI, m_lt', m_le', m_eq, m_eq', m_add, m_sub, mm_lt, mm_le, mm_eq, q_sub, nI_add, q_mul, nI_clamp, bz_0, bz_1, q_bzb, b_0, b_1, b_ft, b_tf, ne_eq, not_true_eq_false, not_false_eq_true, decide_true, decide_false, Bool.and_self, Bool.false_and, Bool.and_false, Bool.and_true, Bool.true_and, Bool.not_true, Bool.not_false, ↓reduceIte]
      | false => simp (disch := first | omega | rfl | assumption) only [bX11_leans_139, q_cl, q_ps, q_pn, bI_t, bI_f, gI_same, gI_ne, gR_pI, gJ_pI, gV_pI, gN_pI, gC_pI, gS_pI, gI_pJ, gR_pJ, gV_pJ, gN_pJ, gJ_same, gJ_ne, gI_pR, gJ_pR, gV_pR, gN_pR, gR_same, gR_ne, zin_t, zin_f, x_ltt, x_ltf, x_let, x_lef, x_eqt, x_eqf, n_0, n_1, n_2, n_3, n_4, n_5, n_6, n_7, n_8, n_9, n_10, n_11, n_12, n_16, n_19, n_20, n_24, n_25, n_32, n_40, n_48, n_50, n_60, n_64, n_80, n_96, n_114, n_684, n_1000, n_9330, n_16806, n_1000000, n_5764800, ↓n_m, m_ltI, m_leI, m_lt', m_le', m_eq, m_eq', m_add, m_sub, mm_lt, mm_le, mm_eq, q_sub, nI_add, q_mul, nI_clamp, bz_0, bz_1, q_bzb, b_0, b_1, b_ft, b_tf, ne_eq, not_true_eq_false, not_false_eq_true, decide_true, decide_false, Bool.and_self, Bool.false_and, Bool.and_false, Bool.and_true, Bool.true_and, Bool.not_true, Bool.not_false, ↓reduceIte]
    rw [step, bX11_leans_140]
    cases hb : lnD G mu K s a with
    | true =>
      obtain ⟨B', q1, q2⟩ := ih (a + 1) (B ||| 2 ^ a) (by omega) (tbs_congr (tbs_set hB han) (fun k hk => by
        by_cases e : a = k
        · subst e; rw [decide_eq_true rfl, Bool.or_true, decide_eq_true (Nat.lt_succ_self a), hb, Bool.and_self, Bool.or_true]
        · rw [decide_eq_false e, Bool.or_false]
          congr 2
          exact decide_eq_decide.mpr (by omega)))
      refine ⟨B', q1, ?_⟩
      have hne : ¬ bI (moB G mu (K a) s (gnT G)) = bI (moB G 0 (K a) s (gnT G)) := by
        unfold lnD at hb
        revert hb
        cases moB G mu (K a) s (gnT G) <;> cases moB G 0 (K a) s (gnT G) <;> decide
      rw [if_neg hne]
      simp (disch := first | omega | rfl | assumption) only [hsh, bX11_leans_151, q_or, q_cl, q_ps, q_pn, bI_t, bI_f, gI_same, gI_ne, gR_pI, gJ_pI, gV_pI, gN_pI, gC_pI, gS_pI, gI_pJ, gR_pJ, gV_pJ, gN_pJ, gJ_same, gJ_ne, gI_pR, gJ_pR, gV_pR, gN_pR, gR_same, gR_ne, zin_t, zin_f, x_ltt, x_ltf, x_let, x_lef, x_eqt, x_eqf, n_0, n_1, n_2, n_3, n_4, n_5, n_6, n_7, n_8, n_9, n_10, n_11, n_12, n_16, n_19, n_20, n_24, n_25, n_32, n_40, n_48, n_50, n_60, n_64, n_80, n_96, n_114, n_684, n_1000, n_9330, n_16806, n_1000000, n_5764800, ↓n_m, m_ltI, m_leI, m_lt', m_le', m_eq, m_eq', m_add, m_sub, mm_lt, mm_le, mm_eq, q_sub, nI_add, q_mul, nI_clamp, bz_0, bz_1, q_bzb, b_0, b_1, b_ft, b_tf, ne_eq, not_true_eq_false, not_false_eq_true, decide_true, decide_false, Bool.and_self, Bool.false_and, Bool.and_false, Bool.and_true, Bool.true_and, Bool.not_true, Bool.not_false, ↓reduceIte]
      exact q2
    | false =>
      obtain ⟨B', q1, q2⟩ := ih (a + 1) B (by omega) (tbs_congr hB (fun k hk => by
        by_cases e : a = k
        · subst e; rw [hb, Bool.and_false, Bool.and_false]
        · congr 2
          exact decide_eq_decide.mpr (by omega)))
      refine ⟨B', q1, ?_⟩
      have heq : bI (moB G mu (K a) s (gnT G)) = bI (moB G 0 (K a) s (gnT G)) := by
        unfold lnD at hb
        revert hb
        cases moB G mu (K a) s (gnT G) <;> cases moB G 0 (K a) s (gnT G) <;> decide
      rw [if_pos heq]
      simp (disch := first | omega | rfl | assumption) only [bX11_leans_150, bX11_leans_151, q_or, Nat.or_zero, q_cl, q_ps, q_pn, bI_t, bI_f, gI_same, gI_ne, gR_pI, gJ_pI, gV_pI, gN_pI, gC_pI, gS_pI, gI_pJ, gR_pJ, gV_pJ, gN_pJ, gJ_same, gJ_ne, gI_pR, gJ_pR, gV_pR, gN_pR, gR_same, gR_ne, zin_t, zin_f, x_ltt, x_ltf, x_let, x_lef, x_eqt, x_eqf, n_0, n_1, n_2, n_3, n_4, n_5, n_6, n_7, n_8, n_9, n_10, n_11, n_12, n_16, n_19, n_20, n_24, n_25, n_32, n_40, n_48, n_50, n_60, n_64, n_80, n_96, n_114, n_684, n_1000, n_9330, n_16806, n_1000000, n_5764800, ↓n_m, m_ltI, m_leI, m_lt', m_le', m_eq, m_eq', m_add, m_sub, mm_lt, mm_le, mm_eq, q_sub, nI_add, q_mul, nI_clamp, bz_0, bz_1, q_bzb, b_0, b_1, b_ft, b_tf, ne_eq, not_true_eq_false, not_false_eq_true, decide_true, decide_false, Bool.and_self, Bool.false_and, Bool.and_false, Bool.and_true, Bool.true_and, Bool.not_true, Bool.not_false, ↓reduceIte]
      exact q2
theorem fr_off {h h1 h2 : z_H} (v : Int32) (h0 : gI h 49100 0 40 = mI) (f1 : fr tM h h1) (f2 : fr tM (pI h1 49100 0 40 v) h2) : fr tM h (pI h2 49100 0 40 mI) := by
  refine ⟨(f2.1.trans f1.1 : h2.2 = h.2), fun p i k q => ?_⟩
  by_cases e : p = 49100 ∧ i = 0 ∧ k = 40
  · obtain ⟨rfl, rfl, rfl⟩ := e
    rw [gI_same, h0]
  · rw [gI_pI, if_neg e, f2.2 p i k q, gI_pI, if_neg e, f1.2 p i k q]
theorem mT_off {h : z_H} {G : Gh} {mu : Nat} (nu : Nat) (m : mT h G mu) : mT (pI h 49100 0 40 (mkI nu)) G nu := by
  obtain ⟨a1, a2, a3, a4, a5, a6, a7, a8⟩ := m
  refine ⟨a1, a2, by simp (disch := first | omega | rfl | assumption) only [a3, q_cl, q_ps, q_pn, bI_t, bI_f, gI_same, gI_ne, gR_pI, gJ_pI, gV_pI, gN_pI, gC_pI, gS_pI, gI_pJ, gR_pJ, gV_pJ, gN_pJ, gJ_same, gJ_ne, gI_pR, gJ_pR, gV_pR, gN_pR, gR_same, gR_ne, zin_t, zin_f, x_ltt, x_ltf, x_let, x_lef, x_eqt, x_eqf, n_0, n_1, n_2, n_3, n_4, n_5, n_6, n_7, n_8, n_9, n_10, n_11, n_12, n_16, n_19, n_20, n_24, n_25, n_32, n_40, n_48, n_50, n_60, n_64, n_80, n_96, n_114, n_684, n_1000, n_9330, n_16806, n_1000000, n_5764800, ↓n_m, m_ltI, m_leI, m_lt', m_le', m_eq, m_eq', m_add, m_sub, mm_lt, mm_le, mm_eq, q_sub, nI_add, q_mul, nI_clamp, bz_0, bz_1, q_bzb, b_0, b_1, b_ft, b_tf, ne_eq, not_true_eq_false, not_false_eq_true, decide_true, decide_false, Bool.and_self, Bool.false_and, Bool.and_false, Bool.and_true, Bool.true_and, Bool.not_true, Bool.not_false, ↓reduceIte], by simp (disch := first | omega | rfl | assumption) only [a4, q_cl, q_ps, q_pn, bI_t, bI_f, gI_same, gI_ne, gR_pI, gJ_pI, gV_pI, gN_pI, gC_pI, gS_pI, gI_pJ, gR_pJ, gV_pJ, gN_pJ, gJ_same, gJ_ne, gI_pR, gJ_pR, gV_pR, gN_pR, gR_same, gR_ne, zin_t, zin_f, x_ltt, x_ltf, x_let, x_lef, x_eqt, x_eqf, n_0, n_1, n_2, n_3, n_4, n_5, n_6, n_7, n_8, n_9, n_10, n_11, n_12, n_16, n_19, n_20, n_24, n_25, n_32, n_40, n_48, n_50, n_60, n_64, n_80, n_96, n_114, n_684, n_1000, n_9330, n_16806, n_1000000, n_5764800, ↓n_m, m_ltI, m_leI, m_lt', m_le', m_eq, m_eq', m_add, m_sub, mm_lt, mm_le, mm_eq, q_sub, nI_add, q_mul, nI_clamp, bz_0, bz_1, q_bzb, b_0, b_1, b_ft, b_tf, ne_eq, not_true_eq_false, not_false_eq_true, decide_true, decide_false, Bool.and_self, Bool.false_and, Bool.and_false, Bool.and_true, Bool.true_and, Bool.not_true, Bool.not_false, ↓reduceIte], fun j hj => ?_, by simp (disch := first | omega | rfl | assumption) only [a6, q_cl, q_ps, q_pn, bI_t, bI_f, gI_same, gI_ne, gR_pI, gJ_pI, gV_pI, gN_pI, gC_pI, gS_pI, gI_pJ, gR_pJ, gV_pJ, gN_pJ, gJ_same, gJ_ne, gI_pR, gJ_pR, gV_pR, gN_pR, gR_same, gR_ne, zin_t, zin_f, x_ltt, x_ltf, x_let, x_lef, x_eqt, x_eqf, n_0, n_1, n_2, n_3, n_4, n_5, n_6, n_7, n_8, n_9, n_10, n_11, n_12, n_16, n_19, n_20, n_24, n_25, n_32, n_40, n_48, n_50, n_60, n_64, n_80, n_96, n_114, n_684, n_1000, n_9330, n_16806, n_1000000, n_5764800, ↓n_m, m_ltI, m_leI, m_lt', m_le', m_eq, m_eq', m_add, m_sub, mm_lt, mm_le, mm_eq, q_sub, nI_add, q_mul, nI_clamp, bz_0, bz_1, q_bzb, b_0, b_1, b_ft, b_tf, ne_eq, not_true_eq_false, not_false_eq_true, decide_true, decide_false, Bool.and_self, Bool.false_and, Bool.and_false, Bool.and_true, Bool.true_and, Bool.not_true, Bool.not_false, ↓reduceIte], fun t ht => ?_, by simp (disch := first | omega | rfl | assumption) only [q_cl, q_ps, q_pn, bI_t, bI_f, gI_same, gI_ne, gR_pI, gJ_pI, gV_pI, gN_pI, gC_pI, gS_pI, gI_pJ, gR_pJ, gV_pJ, gN_pJ, gJ_same, gJ_ne, gI_pR, gJ_pR, gV_pR, gN_pR, gR_same, gR_ne, zin_t, zin_f, x_ltt, x_ltf, x_let, x_lef, x_eqt, x_eqf, n_0, n_1, n_2, n_3, n_4, n_5, n_6, n_7, n_8, n_9, n_10, n_11, n_12, n_16, n_19, n_20, n_24, n_25, n_32, n_40, n_48, n_50, n_60, n_64, n_80, n_96, n_114, n_684, n_1000, n_9330, n_16806, n_1000000, n_5764800, ↓n_m, m_ltI, m_leI, m_lt', m_le', m_eq, m_eq', m_add, m_sub, mm_lt, mm_le, mm_eq, q_sub, nI_add, q_mul, nI_clamp, bz_0, bz_1, q_bzb, b_0, b_1, b_ft, b_tf, ne_eq, not_true_eq_false, not_false_eq_true, decide_true, decide_false, Bool.and_self, Bool.false_and, Bool.and_false, Bool.and_true, Bool.true_and, Bool.not_true, Bool.not_false, ↓reduceIte]⟩
  · obtain ⟨e1, e2, e3, e4, e5, e6, e7, e8⟩ := a5 j hj
    exact ⟨by simp (disch := first | omega | rfl | assumption) only [e1, q_cl, q_ps, q_pn, bI_t, bI_f, gI_same, gI_ne, gR_pI, gJ_pI, gV_pI, gN_pI, gC_pI, gS_pI, gI_pJ, gR_pJ, gV_pJ, gN_pJ, gJ_same, gJ_ne, gI_pR, gJ_pR, gV_pR, gN_pR, gR_same, gR_ne, zin_t, zin_f, x_ltt, x_ltf, x_let, x_lef, x_eqt, x_eqf, n_0, n_1, n_2, n_3, n_4, n_5, n_6, n_7, n_8, n_9, n_10, n_11, n_12, n_16, n_19, n_20, n_24, n_25, n_32, n_40, n_48, n_50, n_60, n_64, n_80, n_96, n_114, n_684, n_1000, n_9330, n_16806, n_1000000, n_5764800, ↓n_m, m_ltI, m_leI, m_lt', m_le', m_eq, m_eq', m_add, m_sub, mm_lt, mm_le, mm_eq, q_sub, nI_add, q_mul, nI_clamp, bz_0, bz_1, q_bzb, b_0, b_1, b_ft, b_tf, ne_eq, not_true_eq_false, not_false_eq_true, decide_true, decide_false, Bool.and_self, Bool.false_and, Bool.and_false, Bool.and_true, Bool.true_and, Bool.not_true, Bool.not_false, ↓reduceIte], by simp (disch := first | omega | rfl | assumption) only [e2, q_cl, q_ps, q_pn, bI_t, bI_f, gI_same, gI_ne, gR_pI, gJ_pI, gV_pI, gN_pI, gC_pI, gS_pI, gI_pJ, gR_pJ, gV_pJ, gN_pJ, gJ_same, gJ_ne, gI_pR, gJ_pR, gV_pR, gN_pR, gR_same, gR_ne, zin_t, zin_f, x_ltt, x_ltf, x_let, x_lef, x_eqt, x_eqf, n_0, n_1, n_2, n_3, n_4, n_5, n_6, n_7, n_8, n_9, n_10, n_11, n_12, n_16, n_19, n_20, n_24, n_25, n_32, n_40, n_48, n_50, n_60, n_64, n_80, n_96, n_114, n_684, n_1000, n_9330, n_16806, n_1000000, n_5764800, ↓n_m, m_ltI, m_leI, m_lt', m_le', m_eq, m_eq', m_add, m_sub, mm_lt, mm_le, mm_eq, q_sub, nI_add, q_mul, nI_clamp, bz_0, bz_1, q_bzb, b_0, b_1, b_ft, b_tf, ne_eq, not_true_eq_false, not_false_eq_true, decide_true, decide_false, Bool.and_self, Bool.false_and, Bool.and_false, Bool.and_true, Bool.true_and, Bool.not_true, Bool.not_false, ↓reduceIte], by simp (disch := first | omega | rfl | assumption) only [e3, q_cl, q_ps, q_pn, bI_t, bI_f, gI_same, gI_ne, gR_pI, gJ_pI, gV_pI, gN_pI, gC_pI, gS_pI, gI_pJ, gR_pJ, gV_pJ, gN_pJ, gJ_same, gJ_ne, gI_pR, gJ_pR, gV_pR, gN_pR, gR_same, gR_ne, zin_t, zin_f, x_ltt, x_ltf, x_let, x_lef, x_eqt, x_eqf, n_0, n_1, n_2, n_3, n_4, n_5, n_6, n_7, n_8, n_9, n_10, n_11, n_12, n_16, n_19, n_20, n_24, n_25, n_32, n_40, n_48, n_50, n_60, n_64, n_80, n_96, n_114, n_684, n_1000, n_9330, n_16806, n_1000000, n_5764800, ↓n_m, m_ltI, m_leI, m_lt', m_le', m_eq, m_eq', m_add, m_sub, mm_lt, mm_le, mm_eq, q_sub, nI_add, q_mul, nI_clamp, bz_0, bz_1, q_bzb, b_0, b_1, b_ft, b_tf, ne_eq, not_true_eq_false, not_false_eq_true, decide_true, decide_false, Bool.and_self, Bool.false_and, Bool.and_false, Bool.and_true, Bool.true_and, Bool.not_true, Bool.not_false, ↓reduceIte], by simp (disch := first | omega | rfl | assumption) only [e4, q_cl, q_ps, q_pn, bI_t, bI_f, gI_same, gI_ne, gR_pI, gJ_pI, gV_pI, gN_pI, gC_pI, gS_pI, gI_pJ, gR_pJ, gV_pJ, gN_pJ, gJ_same, gJ_ne, gI_pR, gJ_pR, gV_pR, gN_pR, gR_same, gR_ne, zin_t, zin_f, x_ltt, x_ltf, x_let, x_lef, x_eqt, x_eqf, n_0, n_1, n_2, n_3, n_4, n_5, n_6, n_7, n_8, n_9, n_10, n_11, n_12, n_16, n_19, n_20, n_24, n_25, n_32, n_40, n_48, n_50, n_60, n_64, n_80, n_96, n_114, n_684, n_1000, n_9330, n_16806, n_1000000, n_5764800, ↓n_m, m_ltI, m_leI, m_lt', m_le', m_eq, m_eq', m_add, m_sub, mm_lt, mm_le, mm_eq, q_sub, nI_add, q_mul, nI_clamp, bz_0, bz_1, q_bzb, b_0, b_1, b_ft, b_tf, ne_eq, not_true_eq_false, not_false_eq_true, decide_true, decide_false, Bool.and_self, Bool.false_and, Bool.and_false, Bool.and_true, Bool.true_and, Bool.not_true, Bool.not_false, ↓reduceIte], by simp (disch := first | omega | rfl | assumption) only [e5, q_cl, q_ps, q_pn, bI_t, bI_f, gI_same, gI_ne, gR_pI, gJ_pI, gV_pI, gN_pI, gC_pI, gS_pI, gI_pJ, gR_pJ, gV_pJ, gN_pJ, gJ_same, gJ_ne, gI_pR, gJ_pR, gV_pR, gN_pR, gR_same, gR_ne, zin_t, zin_f, x_ltt, x_ltf, x_let, x_lef, x_eqt, x_eqf, n_0, n_1, n_2, n_3, n_4, n_5, n_6, n_7, n_8, n_9, n_10, n_11, n_12, n_16, n_19, n_20, n_24, n_25, n_32, n_40, n_48, n_50, n_60, n_64, n_80, n_96, n_114, n_684, n_1000, n_9330, n_16806, n_1000000, n_5764800, ↓n_m, m_ltI, m_leI, m_lt', m_le', m_eq, m_eq', m_add, m_sub, mm_lt, mm_le, mm_eq, q_sub, nI_add, q_mul, nI_clamp, bz_0, bz_1, q_bzb, b_0, b_1, b_ft, b_tf, ne_eq, not_true_eq_false, not_false_eq_true, decide_true, decide_false, Bool.and_self, Bool.false_and, Bool.and_false, Bool.and_true, Bool.true_and, Bool.not_true, Bool.not_false, ↓reduceIte], by simp (disch := first | omega | rfl | assumption) only [e6, q_cl, q_ps, q_pn, bI_t, bI_f, gI_same, gI_ne, gR_pI, gJ_pI, gV_pI, gN_pI, gC_pI, gS_pI, gI_pJ, gR_pJ, gV_pJ, gN_pJ, gJ_same, gJ_ne, gI_pR, gJ_pR, gV_pR, gN_pR, gR_same, gR_ne, zin_t, zin_f, x_ltt, x_ltf, x_let, x_lef, x_eqt, x_eqf, n_0, n_1, n_2, n_3, n_4, n_5, n_6, n_7, n_8, n_9, n_10, n_11, n_12, n_16, n_19, n_20, n_24, n_25, n_32, n_40, n_48, n_50, n_60, n_64, n_80, n_96, n_114, n_684, n_1000, n_9330, n_16806, n_1000000, n_5764800, ↓n_m, m_ltI, m_leI, m_lt', m_le', m_eq, m_eq', m_add, m_sub, mm_lt, mm_le, mm_eq, q_sub, nI_add, q_mul, nI_clamp, bz_0, bz_1, q_bzb, b_0, b_1, b_ft, b_tf, ne_eq, not_true_eq_false, not_false_eq_true, decide_true, decide_false, Bool.and_self, Bool.false_and, Bool.and_false, Bool.and_true, Bool.true_and, Bool.not_true, Bool.not_false, ↓reduceIte], by simp (disch := first | omega | rfl | assumption) only [e7, q_cl, q_ps, q_pn, bI_t, bI_f, gI_same, gI_ne, gR_pI, gJ_pI, gV_pI, gN_pI, gC_pI, gS_pI, gI_pJ, gR_pJ, gV_pJ, gN_pJ, gJ_same, gJ_ne, gI_pR, gJ_pR, gV_pR, gN_pR, gR_same, gR_ne, zin_t, zin_f, x_ltt, x_ltf, x_let, x_lef, x_eqt, x_eqf, n_0, n_1, n_2, n_3, n_4, n_5, n_6, n_7, n_8, n_9, n_10, n_11, n_12, n_16, n_19, n_20, n_24, n_25, n_32, n_40, n_48, n_50, n_60, n_64, n_80, n_96, n_114, n_684, n_1000, n_9330, n_16806, n_1000000, n_5764800, ↓n_m, m_ltI, m_leI, m_lt', m_le', m_eq, m_eq', m_add, m_sub, mm_lt, mm_le, mm_eq, q_sub, nI_add, q_mul, nI_clamp, bz_0, bz_1, q_bzb, b_0, b_1, b_ft, b_tf, ne_eq, not_true_eq_false, not_false_eq_true, decide_true, decide_false, Bool.and_self, Bool.false_and, Bool.and_false, Bool.and_true, Bool.true_and, Bool.not_true, Bool.not_false, ↓reduceIte], by simp (disch := first | omega | rfl | assumption) only [e8, q_cl, q_ps, q_pn, bI_t, bI_f, gI_same, gI_ne, gR_pI, gJ_pI, gV_pI, gN_pI, gC_pI, gS_pI, gI_pJ, gR_pJ, gV_pJ, gN_pJ, gJ_same, gJ_ne, gI_pR, gJ_pR, gV_pR, gN_pR, gR_same, gR_ne, zin_t, zin_f, x_ltt, x_ltf, x_let, x_lef, x_eqt, x_eqf, n_0, n_1, n_2, n_3, n_4, n_5, n_6, n_7, n_8, n_9, n_10, n_11, n_12, n_16, n_19, n_20, n_24, n_25, n_32, n_40, n_48, n_50, n_60, n_64, n_80, n_96, n_114, n_684, n_1000, n_9330, n_16806, n_1000000, n_5764800, ↓n_m, m_ltI, m_leI, m_lt', m_le', m_eq, m_eq', m_add, m_sub, mm_lt, mm_le, mm_eq, q_sub, nI_add, q_mul, nI_clamp, bz_0, bz_1, q_bzb, b_0, b_1, b_ft, b_tf, ne_eq, not_true_eq_false, not_false_eq_true, decide_true, decide_false, Bool.and_self, Bool.false_and, Bool.and_false, Bool.and_true, Bool.true_and, Bool.not_true, Bool.not_false, ↓reduceIte]⟩
  · obtain ⟨e1, e2, e3, e4⟩ := a7 t ht
    exact ⟨by simp (disch := first | omega | rfl | assumption) only [e1, q_cl, q_ps, q_pn, bI_t, bI_f, gI_same, gI_ne, gR_pI, gJ_pI, gV_pI, gN_pI, gC_pI, gS_pI, gI_pJ, gR_pJ, gV_pJ, gN_pJ, gJ_same, gJ_ne, gI_pR, gJ_pR, gV_pR, gN_pR, gR_same, gR_ne, zin_t, zin_f, x_ltt, x_ltf, x_let, x_lef, x_eqt, x_eqf, n_0, n_1, n_2, n_3, n_4, n_5, n_6, n_7, n_8, n_9, n_10, n_11, n_12, n_16, n_19, n_20, n_24, n_25, n_32, n_40, n_48, n_50, n_60, n_64, n_80, n_96, n_114, n_684, n_1000, n_9330, n_16806, n_1000000, n_5764800, ↓n_m, m_ltI, m_leI, m_lt', m_le', m_eq, m_eq', m_add, m_sub, mm_lt, mm_le, mm_eq, q_sub, nI_add, q_mul, nI_clamp, bz_0, bz_1, q_bzb, b_0, b_1, b_ft, b_tf, ne_eq, not_true_eq_false, not_false_eq_true, decide_true, decide_false, Bool.and_self, Bool.false_and, Bool.and_false, Bool.and_true, Bool.true_and, Bool.not_true, Bool.not_false, ↓reduceIte], by simp (disch := first | omega | rfl | assumption) only [e2, q_cl, q_ps, q_pn, bI_t, bI_f, gI_same, gI_ne, gR_pI, gJ_pI, gV_pI, gN_pI, gC_pI, gS_pI, gI_pJ, gR_pJ, gV_pJ, gN_pJ, gJ_same, gJ_ne, gI_pR, gJ_pR, gV_pR, gN_pR, gR_same, gR_ne, zin_t, zin_f, x_ltt, x_ltf, x_let, x_lef, x_eqt, x_eqf, n_0, n_1, n_2, n_3, n_4, n_5, n_6, n_7, n_8, n_9, n_10, n_11, n_12, n_16, n_19, n_20, n_24, n_25, n_32, n_40, n_48, n_50, n_60, n_64, n_80, n_96, n_114, n_684, n_1000, n_9330, n_16806, n_1000000, n_5764800, ↓n_m, m_ltI, m_leI, m_lt', m_le', m_eq, m_eq', m_add, m_sub, mm_lt, mm_le, mm_eq, q_sub, nI_add, q_mul, nI_clamp, bz_0, bz_1, q_bzb, b_0, b_1, b_ft, b_tf, ne_eq, not_true_eq_false, not_false_eq_true, decide_true, decide_false, Bool.and_self, Bool.false_and, Bool.and_false, Bool.and_true, Bool.true_and, Bool.not_true, Bool.not_false, ↓reduceIte], fun i x hx => by simp (disch := first | omega | rfl | assumption) only [e3 i x hx, q_cl, q_ps, q_pn, bI_t, bI_f, gI_same, gI_ne, gR_pI, gJ_pI, gV_pI, gN_pI, gC_pI, gS_pI, gI_pJ, gR_pJ, gV_pJ, gN_pJ, gJ_same, gJ_ne, gI_pR, gJ_pR, gV_pR, gN_pR, gR_same, gR_ne, zin_t, zin_f, x_ltt, x_ltf, x_let, x_lef, x_eqt, x_eqf, n_0, n_1, n_2, n_3, n_4, n_5, n_6, n_7, n_8, n_9, n_10, n_11, n_12, n_16, n_19, n_20, n_24, n_25, n_32, n_40, n_48, n_50, n_60, n_64, n_80, n_96, n_114, n_684, n_1000, n_9330, n_16806, n_1000000, n_5764800, ↓n_m, m_ltI, m_leI, m_lt', m_le', m_eq, m_eq', m_add, m_sub, mm_lt, mm_le, mm_eq, q_sub, nI_add, q_mul, nI_clamp, bz_0, bz_1, q_bzb, b_0, b_1, b_ft, b_tf, ne_eq, not_true_eq_false, not_false_eq_true, decide_true, decide_false, Bool.and_self, Bool.false_and, Bool.and_false, Bool.and_true, Bool.true_and, Bool.not_true, Bool.not_false, ↓reduceIte], fun s hs => by simp (disch := first | omega | rfl | assumption) only [e4 s hs, q_cl, q_ps, q_pn, bI_t, bI_f, gI_same, gI_ne, gR_pI, gJ_pI, gV_pI, gN_pI, gC_pI, gS_pI, gI_pJ, gR_pJ, gV_pJ, gN_pJ, gJ_same, gJ_ne, gI_pR, gJ_pR, gV_pR, gN_pR, gR_same, gR_ne, zin_t, zin_f, x_ltt, x_ltf, x_let, x_lef, x_eqt, x_eqf, n_0, n_1, n_2, n_3, n_4, n_5, n_6, n_7, n_8, n_9, n_10, n_11, n_12, n_16, n_19, n_20, n_24, n_25, n_32, n_40, n_48, n_50, n_60, n_64, n_80, n_96, n_114, n_684, n_1000, n_9330, n_16806, n_1000000, n_5764800, ↓n_m, m_ltI, m_leI, m_lt', m_le', m_eq, m_eq', m_add, m_sub, mm_lt, mm_le, mm_eq, q_sub, nI_add, q_mul, nI_clamp, bz_0, bz_1, q_bzb, b_0, b_1, b_ft, b_tf, ne_eq, not_true_eq_false, not_false_eq_true, decide_true, decide_false, Bool.and_self, Bool.false_and, Bool.and_false, Bool.and_true, Bool.true_and, Bool.not_true, Bool.not_false, ↓reduceIte]⟩
theorem kn_off {h : z_H} {G : Gh} {nM : Nat} {K : Nat → Nat → Option (List Nat)} (v : Int32) (k : kn h G nM K) : kn (pI h 49100 0 40 v) G nM K := ⟨k.1, fun m hm t ht => ⟨(k.2 m hm t ht).1, by simp (disch := first | omega | rfl | assumption) only [(k.2 m hm t ht).2, q_cl, q_ps, q_pn, bI_t, bI_f, gI_same, gI_ne, gR_pI, gJ_pI, gV_pI, gN_pI, gC_pI, gS_pI, gI_pJ, gR_pJ, gV_pJ, gN_pJ, gJ_same, gJ_ne, gI_pR, gJ_pR, gV_pR, gN_pR, gR_same, gR_ne, zin_t, zin_f, x_ltt, x_ltf, x_let, x_lef, x_eqt, x_eqf, n_0, n_1, n_2, n_3, n_4, n_5, n_6, n_7, n_8, n_9, n_10, n_11, n_12, n_16, n_19, n_20, n_24, n_25, n_32, n_40, n_48, n_50, n_60, n_64, n_80, n_96, n_114, n_684, n_1000, n_9330, n_16806, n_1000000, n_5764800, ↓n_m, m_ltI, m_leI, m_lt', m_le', m_eq, m_eq', m_add, m_sub, mm_lt, mm_le, mm_eq, q_sub, nI_add, q_mul, nI_clamp, bz_0, bz_1, q_bzb, b_0, b_1, b_ft, b_tf, ne_eq, not_true_eq_false, not_false_eq_true, decide_true, decide_false, Bool.and_self, Bool.false_and, Bool.and_false, Bool.and_true, Bool.true_and, Bool.not_true, Bool.not_false, ↓reduceIte]⟩⟩
theorem m_le_loop (d : Nat) {G : Gh} {nM j : Nat} {K : Nat → Nat → Option (List Nat)} (hj : j < 24) (x2 : Int32) : ∀ (r s B : Nat) (u5 u6 : z_V) (h : z_H), s + r = 9330 → mT h G 0 → kn h G nM K → gI h 49100 0 14 = nI nM → tbs B nM (fun m => exB (fun s => lnD G (j + 1) K s m) s) →
    ∃ h' B' x4 v5 v6, EX (d + 20) 205 32 [z_R 49100 0, z_I (nI j), z_I x2, z_I (nI B), z_I (nI (stN s)), u5, u6] [] h = EX (d + 20) 205 169 [z_R 49100 0, z_I (nI j), z_I x2, z_I (nI B'), z_I x4, v5, v6] [] h' ∧ tbs B' nM (fun m => exB (fun s => lnD G (j + 1) K s m) 9330) ∧ gI h' 49100 0 14 = nI nM ∧ fr tM h h' := by
  intro r
  induction r with
  | zero =>
    intro s B u5 u6 h hs m k e14 hB
    have : s = 9330 := by omega
    subst this
    refine ⟨h, B, nI (stN 9330), u5, u6, ?_, hB, e14, fr_rfl _ _⟩
    rw [bX11_leans_32, stN_9330]
    simp (disch := first | omega | rfl | assumption) only [q_cl, q_ps, q_pn, bI_t, bI_f, gI_same, gI_ne, gR_pI, gJ_pI, gV_pI, gN_pI, gC_pI, gS_pI, gI_pJ, gR_pJ, gV_pJ, gN_pJ, gJ_same, gJ_ne, gI_pR, gJ_pR, gV_pR, gN_pR, gR_same, gR_ne, zin_t, zin_f, x_ltt, x_ltf, x_let, x_lef, x_eqt, x_eqf, n_0, n_1, n_2, n_3, n_4, n_5, n_6, n_7, n_8, n_9, n_10, n_11, n_12, n_16, n_19, n_20, n_24, n_25, n_32, n_40, n_48, n_50, n_60, n_64, n_80, n_96, n_114, n_684, n_1000, n_9330, n_16806, n_1000000, n_5764800, ↓n_m, m_ltI, m_leI, m_lt', m_le', m_eq, m_eq', m_add, m_sub, mm_lt, mm_le, mm_eq, q_sub, nI_add, q_mul, nI_clamp, bz_0, bz_1, q_bzb, b_0, b_1, b_ft, b_tf, ne_eq, not_true_eq_false, not_false_eq_true, decide_true, decide_false, Bool.and_self, Bool.false_and, Bool.and_false, Bool.and_true, Bool.true_and, Bool.not_true, Bool.not_false, ↓reduceIte]
  | succ r ih =>
    intro s B u5 u6 h hs m k e14 hB
    have hs9 : s < 9330 := by omega
    obtain ⟨s1, s2⟩ := stN_le hs9
    have hsW : isW (stW s) := st_isW (by omega)
    obtain ⟨h1, p1, p2, p3⟩ := m_spreads (d + 11) (mu := 0) (by decide) hsW m
    have m1 := mT_tM p3 m
    have k1 := kn_tM p3 k
    have e141 : gI h1 49100 0 14 = nI nM := (p3.2 _ _ _ (tM_no rfl)).trans e14
    obtain ⟨A, hA, q1⟩ := m_le1 (d + 19) m1 k1 p2 hsW e141 (nI j) x2 (nI B) (nI (stN s)) nM 0 0 (by omega) (tbs_0 nM (fun k hk => by simp))
    have emk : mkI (j + 1) = nI j := mkI_pos (by omega)
    have m2 := mT_off (j + 1) m1
    rw [emk] at m2
    obtain ⟨h2, r1, r2, r3⟩ := m_spreads (d + 11) (mu := j + 1) (by omega) hsW m2
    have m3 := mT_off 0 (mT_tM r3 m2)
    rw [mk_0] at m3
    have k3 := kn_off mI (kn_tM r3 (kn_off (nI j) k1))
    have F := fr_off (nI j) (m.2.2.2.2.2.2.2.trans mk_0) p3 r3
    have e143 : gI (pI h2 49100 0 40 mI) 49100 0 14 = nI nM := (F.2 _ _ _ (tM_no rfl)).trans e14
    have sp3 : spr (pI h2 49100 0 40 mI) G (j + 1) (stW s) := fun t ht => ⟨by simp (disch := first | omega | rfl | assumption) only [(r2 t ht).1, q_cl, q_ps, q_pn, bI_t, bI_f, gI_same, gI_ne, gR_pI, gJ_pI, gV_pI, gN_pI, gC_pI, gS_pI, gI_pJ, gR_pJ, gV_pJ, gN_pJ, gJ_same, gJ_ne, gI_pR, gJ_pR, gV_pR, gN_pR, gR_same, gR_ne, zin_t, zin_f, x_ltt, x_ltf, x_let, x_lef, x_eqt, x_eqf, n_0, n_1, n_2, n_3, n_4, n_5, n_6, n_7, n_8, n_9, n_10, n_11, n_12, n_16, n_19, n_20, n_24, n_25, n_32, n_40, n_48, n_50, n_60, n_64, n_80, n_96, n_114, n_684, n_1000, n_9330, n_16806, n_1000000, n_5764800, ↓n_m, m_ltI, m_leI, m_lt', m_le', m_eq, m_eq', m_add, m_sub, mm_lt, mm_le, mm_eq, q_sub, nI_add, q_mul, nI_clamp, bz_0, bz_1, q_bzb, b_0, b_1, b_ft, b_tf, ne_eq, not_true_eq_false, not_false_eq_true, decide_true, decide_false, Bool.and_self, Bool.false_and, Bool.and_false, Bool.and_true, Bool.true_and, Bool.not_true, Bool.not_false, ↓reduceIte], by simp (disch := first | omega | rfl | assumption) only [(r2 t ht).2, q_cl, q_ps, q_pn, bI_t, bI_f, gI_same, gI_ne, gR_pI, gJ_pI, gV_pI, gN_pI, gC_pI, gS_pI, gI_pJ, gR_pJ, gV_pJ, gN_pJ, gJ_same, gJ_ne, gI_pR, gJ_pR, gV_pR, gN_pR, gR_same, gR_ne, zin_t, zin_f, x_ltt, x_ltf, x_let, x_lef, x_eqt, x_eqf, n_0, n_1, n_2, n_3, n_4, n_5, n_6, n_7, n_8, n_9, n_10, n_11, n_12, n_16, n_19, n_20, n_24, n_25, n_32, n_40, n_48, n_50, n_60, n_64, n_80, n_96, n_114, n_684, n_1000, n_9330, n_16806, n_1000000, n_5764800, ↓n_m, m_ltI, m_leI, m_lt', m_le', m_eq, m_eq', m_add, m_sub, mm_lt, mm_le, mm_eq, q_sub, nI_add, q_mul, nI_clamp, bz_0, bz_1, q_bzb, b_0, b_1, b_ft, b_tf, ne_eq, not_true_eq_false, not_false_eq_true, decide_true, decide_false, Bool.and_self, Bool.false_and, Bool.and_false, Bool.and_true, Bool.true_and, Bool.not_true, Bool.not_false, ↓reduceIte]⟩
    obtain ⟨B', hB', q2⟩ := m_le2 (d + 19) m3 k3 sp3 hsW e143 hA (nI j) x2 (nI (stN s)) (fun m => exB (fun s => lnD G (j + 1) K s m) s) nM 0 B (by omega) (tbs_congr hB (fun k hk => by simp))
    obtain ⟨h', B2, x4, v5, v6, t1, t2, t3, t4⟩ := ih (s + 1) B' (z_I (nI A)) (z_I (nI nM)) _ (by omega) m3 k3 e143 hB'
    refine ⟨h', B2, x4, v5, v6, ?_, t2, t3, fr_trans F t4⟩
    have q1' : EX (d + 20) 205 52 [z_R 49100 0, z_I (nI j), z_I x2, z_I (nI B), z_I (nI (stN s)), z_I (nI 0), z_I (nI 0)] [] h1 = EX (d + 20) 205 89 [z_R 49100 0, z_I (nI j), z_I x2, z_I (nI B), z_I (nI (stN s)), z_I (nI A), z_I (nI nM)] [] h1 := q1
    have q2' : EX (d + 20) 205 108 [z_R 49100 0, z_I (nI j), z_I x2, z_I (nI B), z_I (nI (stN s)), z_I (nI A), z_I (nI 0)] [] (pI h2 49100 0 40 mI) = EX (d + 20) 205 159 [z_R 49100 0, z_I (nI j), z_I x2, z_I (nI B'), z_I (nI (stN s)), z_I (nI A), z_I (nI nM)] [] (pI h2 49100 0 40 mI) := q2
    have p1' : Rn (d + 20) 194 [z_R 49100 0, z_I (nI (stN s))] h = some (none, h1) := p1
    have r1' : Rn (d + 20) 194 [z_R 49100 0, z_I (nI (stN s))] (pI h1 49100 0 40 (nI j)) = some (none, h2) := r1
    rw [bX11_leans_32]
    simp (disch := first | omega | rfl | assumption) only [p1', bX11_leans_46, q_cl, q_ps, q_pn, bI_t, bI_f, gI_same, gI_ne, gR_pI, gJ_pI, gV_pI, gN_pI, gC_pI, gS_pI, gI_pJ, gR_pJ, gV_pJ, gN_pJ, gJ_same, gJ_ne, gI_pR, gJ_pR, gV_pR, gN_pR, gR_same, gR_ne, zin_t, zin_f, x_ltt, x_ltf, x_let, x_lef, x_eqt, x_eqf, n_0, n_1, n_2, n_3, n_4, n_5, n_6, n_7, n_8, n_9, n_10, n_11, n_12, n_16, n_19, n_20, n_24, n_25, n_32, n_40, n_48, n_50, n_60, n_64, n_80, n_96, n_114, n_684, n_1000, n_9330, n_16806, n_1000000, n_5764800, ↓n_m, m_ltI, m_leI, m_lt', m_le', m_eq, m_eq', m_add, m_sub, mm_lt, mm_le, mm_eq, q_sub, nI_add, q_mul, nI_clamp, bz_0, bz_1, q_bzb, b_0, b_1, b_ft, b_tf, ne_eq, not_true_eq_false, not_false_eq_true, decide_true, decide_false, Bool.and_self, Bool.false_and, Bool.and_false, Bool.and_true, Bool.true_and, Bool.not_true, Bool.not_false, ↓reduceIte]
    rw [q1', bX11_leans_89]
    simp (disch := first | omega | rfl | assumption) only [r1', bX11_leans_100, q_cl, q_ps, q_pn, bI_t, bI_f, gI_same, gI_ne, gR_pI, gJ_pI, gV_pI, gN_pI, gC_pI, gS_pI, gI_pJ, gR_pJ, gV_pJ, gN_pJ, gJ_same, gJ_ne, gI_pR, gJ_pR, gV_pR, gN_pR, gR_same, gR_ne, zin_t, zin_f, x_ltt, x_ltf, x_let, x_lef, x_eqt, x_eqf, n_0, n_1, n_2, n_3, n_4, n_5, n_6, n_7, n_8, n_9, n_10, n_11, n_12, n_16, n_19, n_20, n_24, n_25, n_32, n_40, n_48, n_50, n_60, n_64, n_80, n_96, n_114, n_684, n_1000, n_9330, n_16806, n_1000000, n_5764800, ↓n_m, m_ltI, m_leI, m_lt', m_le', m_eq, m_eq', m_add, m_sub, mm_lt, mm_le, mm_eq, q_sub, nI_add, q_mul, nI_clamp, bz_0, bz_1, q_bzb, b_0, b_1, b_ft, b_tf, ne_eq, not_true_eq_false, not_false_eq_true, decide_true, decide_false, Bool.and_self, Bool.false_and, Bool.and_false, Bool.and_true, Bool.true_and, Bool.not_true, Bool.not_false, ↓reduceIte]
    rw [q2', bX11_leans_159]
    simp (disch := first | omega | rfl | assumption) only [m_nextStem (d + 17) hs9, bX11_leans_164, q_cl, q_ps, q_pn, bI_t, bI_f, gI_same, gI_ne, gR_pI, gJ_pI, gV_pI, gN_pI, gC_pI, gS_pI, gI_pJ, gR_pJ, gV_pJ, gN_pJ, gJ_same, gJ_ne, gI_pR, gJ_pR, gV_pR, gN_pR, gR_same, gR_ne, zin_t, zin_f, x_ltt, x_ltf, x_let, x_lef, x_eqt, x_eqf, n_0, n_1, n_2, n_3, n_4, n_5, n_6, n_7, n_8, n_9, n_10, n_11, n_12, n_16, n_19, n_20, n_24, n_25, n_32, n_40, n_48, n_50, n_60, n_64, n_80, n_96, n_114, n_684, n_1000, n_9330, n_16806, n_1000000, n_5764800, ↓n_m, m_ltI, m_leI, m_lt', m_le', m_eq, m_eq', m_add, m_sub, mm_lt, mm_le, mm_eq, q_sub, nI_add, q_mul, nI_clamp, bz_0, bz_1, q_bzb, b_0, b_1, b_ft, b_tf, ne_eq, not_true_eq_false, not_false_eq_true, decide_true, decide_false, Bool.and_self, Bool.false_and, Bool.and_false, Bool.and_true, Bool.true_and, Bool.not_true, Bool.not_false, ↓reduceIte]
    exact t1
theorem m_le_cnt (d : Nat) {h : z_H} {nM B : Nat} {P : Nat → Bool} (h10 : nM ≤ 10) (hB : tbs B nM P) (e14 : gI h 49100 0 14 = nI nM) (x1 x2 : Int32) (u6 : z_V) : ∀ (r a : Nat), a + r = nM → EX d 205 175 [z_R 49100 0, z_I x1, z_I x2, z_I (nI B), z_I (nI (cntB P a)), z_I (nI a), u6] [] h = some (some (z_I (nI (cntB P nM))), h) := by
  have hB10 := tbs_lt hB h10
  intro r
  induction r with
  | zero =>
    intro a ha
    have : a = nM := by omega
    subst this
    rw [bX11_leans_175]
    simp (disch := first | omega | rfl | assumption) only [e14, bX11_leans_201, q_cl, q_ps, q_pn, bI_t, bI_f, gI_same, gI_ne, gR_pI, gJ_pI, gV_pI, gN_pI, gC_pI, gS_pI, gI_pJ, gR_pJ, gV_pJ, gN_pJ, gJ_same, gJ_ne, gI_pR, gJ_pR, gV_pR, gN_pR, gR_same, gR_ne, zin_t, zin_f, x_ltt, x_ltf, x_let, x_lef, x_eqt, x_eqf, n_0, n_1, n_2, n_3, n_4, n_5, n_6, n_7, n_8, n_9, n_10, n_11, n_12, n_16, n_19, n_20, n_24, n_25, n_32, n_40, n_48, n_50, n_60, n_64, n_80, n_96, n_114, n_684, n_1000, n_9330, n_16806, n_1000000, n_5764800, ↓n_m, m_ltI, m_leI, m_lt', m_le', m_eq, m_eq', m_add, m_sub, mm_lt, mm_le, mm_eq, q_sub, nI_add, q_mul, nI_clamp, bz_0, bz_1, q_bzb, b_0, b_1, b_ft, b_tf, ne_eq, not_true_eq_false, not_false_eq_true, decide_true, decide_false, Bool.and_self, Bool.false_and, Bool.and_false, Bool.and_true, Bool.true_and, Bool.not_true, Bool.not_false, ↓reduceIte]
  | succ r ih =>
    intro a ha
    have hbit : (nI B >>> (nI a &&& 31)) &&& nI 1 = bI (P a) := by
      rw [q_bitS (by omega) (by omega), hB.2 a (by omega)]
    have ih1 := ih (a + 1) (by omega)
    have es : cntB P (a + 1) = cntB P a + (if P a = true then 1 else 0) := rfl
    rw [es] at ih1
    rw [bX11_leans_175]
    cases hp : P a with
    | true =>
      rw [hp, if_pos rfl] at ih1
      simp (disch := first | omega | rfl | assumption) only [e14, hbit, hp, q_cl, q_ps, q_pn, bI_t, bI_f, gI_same, gI_ne, gR_pI, gJ_pI, gV_pI, gN_pI, gC_pI, gS_pI, gI_pJ, gR_pJ, gV_pJ, gN_pJ, gJ_same, gJ_ne, gI_pR, gJ_pR, gV_pR, gN_pR, gR_same, gR_ne, zin_t, zin_f, x_ltt, x_ltf, x_let, x_lef, x_eqt, x_eqf, n_0, n_1, n_2, n_3, n_4, n_5, n_6, n_7, n_8, n_9, n_10, n_11, n_12, n_16, n_19, n_20, n_24, n_25, n_32, n_40, n_48, n_50, n_60, n_64, n_80, n_96, n_114, n_684, n_1000, n_9330, n_16806, n_1000000, n_5764800, ↓n_m, m_ltI, m_leI, m_lt', m_le', m_eq, m_eq', m_add, m_sub, mm_lt, mm_le, mm_eq, q_sub, nI_add, q_mul, nI_clamp, bz_0, bz_1, q_bzb, b_0, b_1, b_ft, b_tf, ne_eq, not_true_eq_false, not_false_eq_true, decide_true, decide_false, Bool.and_self, Bool.false_and, Bool.and_false, Bool.and_true, Bool.true_and, Bool.not_true, Bool.not_false, ↓reduceIte]
      exact ih1
    | false =>
      rw [hp, if_neg (by decide)] at ih1
      simp (disch := first | omega | rfl | assumption) only [e14, hbit, hp, q_cl, q_ps, q_pn, bI_t, bI_f, gI_same, gI_ne, gR_pI, gJ_pI, gV_pI, gN_pI, gC_pI, gS_pI, gI_pJ, gR_pJ, gV_pJ, gN_pJ, gJ_same, gJ_ne, gI_pR, gJ_pR, gV_pR, gN_pR, gR_same, gR_ne, zin_t, zin_f, x_ltt, x_ltf, x_let, x_lef, x_eqt, x_eqf, n_0, n_1, n_2, n_3, n_4, n_5, n_6, n_7, n_8, n_9, n_10, n_11, n_12, n_16, n_19, n_20, n_24, n_25, n_32, n_40, n_48, n_50, n_60, n_64, n_80, n_96, n_114, n_684, n_1000, n_9330, n_16806, n_1000000, n_5764800, ↓n_m, m_ltI, m_leI, m_lt', m_le', m_eq, m_eq', m_add, m_sub, mm_lt, mm_le, mm_eq, q_sub, nI_add, q_mul, nI_clamp, bz_0, bz_1, q_bzb, b_0, b_1, b_ft, b_tf, ne_eq, not_true_eq_false, not_false_eq_true, decide_true, decide_false, Bool.and_self, Bool.false_and, Bool.and_false, Bool.and_true, Bool.true_and, Bool.not_true, Bool.not_false, ↓reduceIte]
      exact ih1
/-- the reference's answer -/
theorem m_leans (d : Nat) {h : z_H} {N : Nat} {xs : Nat → Int32} {G : Gh} {e : Int32} (hG : InvG h N xs G e) {nM nF : Nat} {fm ft fy : Nat → Nat} {fw : Nat → Option (List Nat)} (hF : iFnG h (gnT G) nM nF fm ft fy fw) {j y : Nat} (hj : j < gnL G) (hy : y < 1000) :
    ∃ h', Rn (d + 60) 205 [z_R 49100 0, z_I (nI j), z_I (nI y)] h = some (some (z_I (nI (cntB (fun m => exB (fun s => lnD G (j + 1) (fun m t => knF fm ft fy fw m t y nF) s m) 9330) nM))), h') ∧ frX [12] h h' := by
  obtain ⟨w1, w2, w3, w4, -⟩ := I_L hG
  have nl : gnL G < 2 ^ 31 := by omega
  have g1 : z_in (nI j) (gnL G) = true := zin_t (by omega) hj
  have g2 : z_in (nI y) 1000 = true := zin_t (by omega) hy
  obtain ⟨h1, e1, k1, m1, F1⟩ := m_learns (d + 57) hG hF hy
  have e14 : gI h1 49100 0 14 = nI nM := (iFnG_fr F1 (by decide) hF).2.2.2.1
  obtain ⟨h2, B, x4, v5, v6, q1, q2, q3, q4⟩ := m_le_loop (d + 39) (show j < 24 by omega) (nI y) 9330 0 0 z_U z_U h1 (by omega) m1 k1 e14 (tbs_0 nM (fun k hk => rfl))
  refine ⟨h2, ?_, frX_trans F1 (frX_fr q4 tM_g)⟩
  have q1' : EX (d + 59) 205 32 [z_R 49100 0, z_I (nI j), z_I (nI y), z_I (nI 0), z_I (nI 1), z_U, z_U] [] h1 = EX (d + 59) 205 169 [z_R 49100 0, z_I (nI j), z_I (nI y), z_I (nI B), z_I x4, v5, v6] [] h2 := by
    rw [stN_0] at q1
    exact q1
  have hc := m_le_cnt (d + 59) k1.1 q2 q3 (nI j) (nI y) v6 nM 0 (by omega)
  simp (disch := first | omega | rfl | assumption) only [rX11_leans, bX11_leans_0, m_isLaw (h := h) _ nl w2, g1, bX11_leans_5, m_isYear, g2, bX11_leans_12, bX11_leans_22, e1, bX11_leans_27, q_cl, q_ps, q_pn, bI_t, bI_f, gI_same, gI_ne, gR_pI, gJ_pI, gV_pI, gN_pI, gC_pI, gS_pI, gI_pJ, gR_pJ, gV_pJ, gN_pJ, gJ_same, gJ_ne, gI_pR, gJ_pR, gV_pR, gN_pR, gR_same, gR_ne, zin_t, zin_f, x_ltt, x_ltf, x_let, x_lef, x_eqt, x_eqf, n_0, n_1, n_2, n_3, n_4, n_5, n_6, n_7, n_8, n_9, n_10, n_11, n_12, n_16, n_19, n_20, n_24, n_25, n_32, n_40, n_48, n_50, n_60, n_64, n_80, n_96, n_114, n_684, n_1000, n_9330, n_16806, n_1000000, n_5764800, ↓n_m, m_ltI, m_leI, m_lt', m_le', m_eq, m_eq', m_add, m_sub, mm_lt, mm_le, mm_eq, q_sub, nI_add, q_mul, nI_clamp, bz_0, bz_1, q_bzb, b_0, b_1, b_ft, b_tf, ne_eq, not_true_eq_false, not_false_eq_true, decide_true, decide_false, Bool.and_self, Bool.false_and, Bool.and_false, Bool.and_true, Bool.true_and, Bool.not_true, Bool.not_false, ↓reduceIte]
  rw [q1', bX11_leans_169]
  exact hc
