/-! ===== waves spread, in both ===== -/
theorem comI_fin {y : Nat} (h : y < 1000000) : comI y = nI y := if_pos h
theorem comI_inf {y : Nat} (h : ¬ y < 1000000) : comI y = mI := if_neg h
/-- what stands of a wave in the class, and in the reference -/
def cW (h : z_H) (w : Nat) (c : Nat → Nat) : Prop := ∀ p, p < 8 → gI h 64221 0 (8 * w + p) = comI (c p)
def mV (h : z_H) (w : Nat) (c : Nat → Nat) : Prop := ∀ p, p < 8 → gI h 64751 0 (8 * w + p) = nI (c p)
abbrev pArr (w : Nat) : Nat → Nat → Nat → Prop := fun p _ k => p = 64221 ∧ 8 * w ≤ k ∧ k < 8 * w + 8
abbrev pCom (w : Nat) : Nat → Nat → Nat → Prop := fun p _ k => p = 64751 ∧ 8 * w ≤ k ∧ k < 8 * w + 8
theorem cW_set {h : z_H} {w b y : Nat} {c : Nat → Nat} (hc : cW h w c) (hb : b < 8) (hy : y < 1000000) : cW (pI h 64221 0 (8 * w + b) (nI y)) w (fun p => if p = b then y else c p) := by
  intro p hp
  dsimp only
  by_cases e : p = b
  · subst e; rw [if_pos rfl, comI_fin hy]; simp (disch := first | omega | rfl | assumption) only [q_cl, q_ps, q_pn, bI_t, bI_f, gI_same, gI_ne, gR_pI, gJ_pI, gV_pI, gN_pI, gC_pI, gS_pI, gI_pJ, gR_pJ, gV_pJ, gN_pJ, gJ_same, gJ_ne, gI_pR, gJ_pR, gV_pR, gN_pR, gR_same, gR_ne, zin_t, zin_f, x_ltt, x_ltf, x_let, x_lef, x_eqt, x_eqf, n_0, n_1, n_2, n_3, n_4, n_5, n_6, n_7, n_8, n_9, n_10, n_11, n_12, n_16, n_19, n_20, n_24, n_25, n_32, n_40, n_48, n_50, n_60, n_64, n_80, n_96, n_114, n_684, n_1000, n_9330, n_16806, n_1000000, n_5764800, ↓n_m, m_ltI, m_leI, m_lt', m_le', m_eq, m_eq', m_add, m_sub, mm_lt, mm_le, mm_eq, q_sub, nI_add, q_mul, nI_clamp, bz_0, bz_1, q_bzb, b_0, b_1, b_ft, b_tf, ne_eq, not_true_eq_false, not_false_eq_true, decide_true, decide_false, Bool.and_self, Bool.false_and, Bool.and_false, Bool.and_true, Bool.true_and, Bool.not_true, Bool.not_false, ↓reduceIte]
  · rw [if_neg e]; simp (disch := first | omega | rfl | assumption) only [hc p hp, q_cl, q_ps, q_pn, bI_t, bI_f, gI_same, gI_ne, gR_pI, gJ_pI, gV_pI, gN_pI, gC_pI, gS_pI, gI_pJ, gR_pJ, gV_pJ, gN_pJ, gJ_same, gJ_ne, gI_pR, gJ_pR, gV_pR, gN_pR, gR_same, gR_ne, zin_t, zin_f, x_ltt, x_ltf, x_let, x_lef, x_eqt, x_eqf, n_0, n_1, n_2, n_3, n_4, n_5, n_6, n_7, n_8, n_9, n_10, n_11, n_12, n_16, n_19, n_20, n_24, n_25, n_32, n_40, n_48, n_50, n_60, n_64, n_80, n_96, n_114, n_684, n_1000, n_9330, n_16806, n_1000000, n_5764800, ↓n_m, m_ltI, m_leI, m_lt', m_le', m_eq, m_eq', m_add, m_sub, mm_lt, mm_le, mm_eq, q_sub, nI_add, q_mul, nI_clamp, bz_0, bz_1, q_bzb, b_0, b_1, b_ft, b_tf, ne_eq, not_true_eq_false, not_false_eq_true, decide_true, decide_false, Bool.and_self, Bool.false_and, Bool.and_false, Bool.and_true, Bool.true_and, Bool.not_true, Bool.not_false, ↓reduceIte]
theorem c_arrive (d : Nat) {h : z_H} (ck : cOK h) {w b y M : Nat} {c sh : Nat → Nat} (hw : w < 8) (hb : b < 8) (hy : y < 1000000) (hsh : sh b ≤ 1000) (e1 : gI h 8241 0 b = nI (sh b)) (hc : cW h w c) (hM : bd c M) (hM2 : M < 1000000) :
    (opn sh b y = true ∧ y < c b ∧ Rn (d + 1) 44 [z_R 11030 0, z_I (nI w), z_I (nI b), z_I (nI y)] h = some (some (z_I (nI 1)), pI h 64221 0 (8 * w + b) (nI y))) ∨ (¬ (opn sh b y = true ∧ y < c b) ∧ Rn (d + 1) 44 [z_R 11030 0, z_I (nI w), z_I (nI b), z_I (nI y)] h = some (some (z_I (nI 0)), h)) ∨ (opn sh b y = true ∧ ¬ c b < 1000000 ∧ Rn (d + 1) 44 [z_R 11030 0, z_I (nI w), z_I (nI b), z_I (nI y)] h = some (some (z_I (nI 1)), pI h 64221 0 (8 * w + b) (nI y))) := by
  have hwb : w * 8 + b = 8 * w + b := by omega
  have hcb := hc b hb
  by_cases ho : opn sh b y = true
  · by_cases hf : c b < 1000000
    · rw [comI_fin hf] at hcb
      have hbM := hM b hf
      by_cases hlt : y < c b
      · refine Or.inl ⟨ho, hlt, ?_⟩
        unfold opn at ho
        rw [Bool.or_eq_true, decide_eq_true_eq, beq_iff_eq] at ho
        by_cases h1000 : sh b = 1000
        · simp (disch := first | omega | rfl | assumption) only [bX3_arrive_0, bX3_arrive_34, bX3_arrive_35, bX3_arrive_64, bX3_arrive_66, rX3_arrive, ck.1 11030 5 rfl, ck.1 11030 2 rfl, e1, h1000, hwb, hcb, q_cl, q_ps, q_pn, bI_t, bI_f, gI_same, gI_ne, gR_pI, gJ_pI, gV_pI, gN_pI, gC_pI, gS_pI, gI_pJ, gR_pJ, gV_pJ, gN_pJ, gJ_same, gJ_ne, gI_pR, gJ_pR, gV_pR, gN_pR, gR_same, gR_ne, zin_t, zin_f, x_ltt, x_ltf, x_let, x_lef, x_eqt, x_eqf, n_0, n_1, n_2, n_3, n_4, n_5, n_6, n_7, n_8, n_9, n_10, n_11, n_12, n_16, n_19, n_20, n_24, n_25, n_32, n_40, n_48, n_50, n_60, n_64, n_80, n_96, n_114, n_684, n_1000, n_9330, n_16806, n_1000000, n_5764800, ↓n_m, m_ltI, m_leI, m_lt', m_le', m_eq, m_eq', m_add, m_sub, mm_lt, mm_le, mm_eq, q_sub, nI_add, q_mul, nI_clamp, bz_0, bz_1, q_bzb, b_0, b_1, b_ft, b_tf, ne_eq, not_true_eq_false, not_false_eq_true, decide_true, decide_false, Bool.and_self, Bool.false_and, Bool.and_false, Bool.and_true, Bool.true_and, Bool.not_true, Bool.not_false, ↓reduceIte]
        · have h2 : y < sh b := by omega
          simp (disch := first | omega | rfl | assumption) only [bX3_arrive_0, bX3_arrive_34, bX3_arrive_35, bX3_arrive_64, bX3_arrive_66, rX3_arrive, ck.1 11030 5 rfl, ck.1 11030 2 rfl, e1, h1000, hwb, hcb, q_cl, q_ps, q_pn, bI_t, bI_f, gI_same, gI_ne, gR_pI, gJ_pI, gV_pI, gN_pI, gC_pI, gS_pI, gI_pJ, gR_pJ, gV_pJ, gN_pJ, gJ_same, gJ_ne, gI_pR, gJ_pR, gV_pR, gN_pR, gR_same, gR_ne, zin_t, zin_f, x_ltt, x_ltf, x_let, x_lef, x_eqt, x_eqf, n_0, n_1, n_2, n_3, n_4, n_5, n_6, n_7, n_8, n_9, n_10, n_11, n_12, n_16, n_19, n_20, n_24, n_25, n_32, n_40, n_48, n_50, n_60, n_64, n_80, n_96, n_114, n_684, n_1000, n_9330, n_16806, n_1000000, n_5764800, ↓n_m, m_ltI, m_leI, m_lt', m_le', m_eq, m_eq', m_add, m_sub, mm_lt, mm_le, mm_eq, q_sub, nI_add, q_mul, nI_clamp, bz_0, bz_1, q_bzb, b_0, b_1, b_ft, b_tf, ne_eq, not_true_eq_false, not_false_eq_true, decide_true, decide_false, Bool.and_self, Bool.false_and, Bool.and_false, Bool.and_true, Bool.true_and, Bool.not_true, Bool.not_false, ↓reduceIte]
      · refine Or.inr (Or.inl ⟨fun z => hlt z.2, ?_⟩)
        unfold opn at ho
        rw [Bool.or_eq_true, decide_eq_true_eq, beq_iff_eq] at ho
        by_cases h1000 : sh b = 1000
        · simp (disch := first | omega | rfl | assumption) only [bX3_arrive_0, bX3_arrive_34, bX3_arrive_35, bX3_arrive_64, bX3_arrive_66, rX3_arrive, ck.1 11030 5 rfl, ck.1 11030 2 rfl, e1, h1000, hwb, hcb, q_cl, q_ps, q_pn, bI_t, bI_f, gI_same, gI_ne, gR_pI, gJ_pI, gV_pI, gN_pI, gC_pI, gS_pI, gI_pJ, gR_pJ, gV_pJ, gN_pJ, gJ_same, gJ_ne, gI_pR, gJ_pR, gV_pR, gN_pR, gR_same, gR_ne, zin_t, zin_f, x_ltt, x_ltf, x_let, x_lef, x_eqt, x_eqf, n_0, n_1, n_2, n_3, n_4, n_5, n_6, n_7, n_8, n_9, n_10, n_11, n_12, n_16, n_19, n_20, n_24, n_25, n_32, n_40, n_48, n_50, n_60, n_64, n_80, n_96, n_114, n_684, n_1000, n_9330, n_16806, n_1000000, n_5764800, ↓n_m, m_ltI, m_leI, m_lt', m_le', m_eq, m_eq', m_add, m_sub, mm_lt, mm_le, mm_eq, q_sub, nI_add, q_mul, nI_clamp, bz_0, bz_1, q_bzb, b_0, b_1, b_ft, b_tf, ne_eq, not_true_eq_false, not_false_eq_true, decide_true, decide_false, Bool.and_self, Bool.false_and, Bool.and_false, Bool.and_true, Bool.true_and, Bool.not_true, Bool.not_false, ↓reduceIte]
        · have h2 : y < sh b := by omega
          simp (disch := first | omega | rfl | assumption) only [bX3_arrive_0, bX3_arrive_34, bX3_arrive_35, bX3_arrive_64, bX3_arrive_66, rX3_arrive, ck.1 11030 5 rfl, ck.1 11030 2 rfl, e1, h1000, hwb, hcb, q_cl, q_ps, q_pn, bI_t, bI_f, gI_same, gI_ne, gR_pI, gJ_pI, gV_pI, gN_pI, gC_pI, gS_pI, gI_pJ, gR_pJ, gV_pJ, gN_pJ, gJ_same, gJ_ne, gI_pR, gJ_pR, gV_pR, gN_pR, gR_same, gR_ne, zin_t, zin_f, x_ltt, x_ltf, x_let, x_lef, x_eqt, x_eqf, n_0, n_1, n_2, n_3, n_4, n_5, n_6, n_7, n_8, n_9, n_10, n_11, n_12, n_16, n_19, n_20, n_24, n_25, n_32, n_40, n_48, n_50, n_60, n_64, n_80, n_96, n_114, n_684, n_1000, n_9330, n_16806, n_1000000, n_5764800, ↓n_m, m_ltI, m_leI, m_lt', m_le', m_eq, m_eq', m_add, m_sub, mm_lt, mm_le, mm_eq, q_sub, nI_add, q_mul, nI_clamp, bz_0, bz_1, q_bzb, b_0, b_1, b_ft, b_tf, ne_eq, not_true_eq_false, not_false_eq_true, decide_true, decide_false, Bool.and_self, Bool.false_and, Bool.and_false, Bool.and_true, Bool.true_and, Bool.not_true, Bool.not_false, ↓reduceIte]
    · rw [comI_inf hf] at hcb
      refine Or.inr (Or.inr ⟨ho, hf, ?_⟩)
      unfold opn at ho
      rw [Bool.or_eq_true, decide_eq_true_eq, beq_iff_eq] at ho
      by_cases h1000 : sh b = 1000
      · simp (disch := first | omega | rfl | assumption) only [bX3_arrive_0, bX3_arrive_34, bX3_arrive_35, bX3_arrive_64, bX3_arrive_66, rX3_arrive, ck.1 11030 5 rfl, ck.1 11030 2 rfl, e1, h1000, hwb, hcb, q_cl, q_ps, q_pn, bI_t, bI_f, gI_same, gI_ne, gR_pI, gJ_pI, gV_pI, gN_pI, gC_pI, gS_pI, gI_pJ, gR_pJ, gV_pJ, gN_pJ, gJ_same, gJ_ne, gI_pR, gJ_pR, gV_pR, gN_pR, gR_same, gR_ne, zin_t, zin_f, x_ltt, x_ltf, x_let, x_lef, x_eqt, x_eqf, n_0, n_1, n_2, n_3, n_4, n_5, n_6, n_7, n_8, n_9, n_10, n_11, n_12, n_16, n_19, n_20, n_24, n_25, n_32, n_40, n_48, n_50, n_60, n_64, n_80, n_96, n_114, n_684, n_1000, n_9330, n_16806, n_1000000, n_5764800, ↓n_m, m_ltI, m_leI, m_lt', m_le', m_eq, m_eq', m_add, m_sub, mm_lt, mm_le, mm_eq, q_sub, nI_add, q_mul, nI_clamp, bz_0, bz_1, q_bzb, b_0, b_1, b_ft, b_tf, ne_eq, not_true_eq_false, not_false_eq_true, decide_true, decide_false, Bool.and_self, Bool.false_and, Bool.and_false, Bool.and_true, Bool.true_and, Bool.not_true, Bool.not_false, ↓reduceIte]
      · have h2 : y < sh b := by omega
        simp (disch := first | omega | rfl | assumption) only [bX3_arrive_0, bX3_arrive_34, bX3_arrive_35, bX3_arrive_64, bX3_arrive_66, rX3_arrive, ck.1 11030 5 rfl, ck.1 11030 2 rfl, e1, h1000, hwb, hcb, q_cl, q_ps, q_pn, bI_t, bI_f, gI_same, gI_ne, gR_pI, gJ_pI, gV_pI, gN_pI, gC_pI, gS_pI, gI_pJ, gR_pJ, gV_pJ, gN_pJ, gJ_same, gJ_ne, gI_pR, gJ_pR, gV_pR, gN_pR, gR_same, gR_ne, zin_t, zin_f, x_ltt, x_ltf, x_let, x_lef, x_eqt, x_eqf, n_0, n_1, n_2, n_3, n_4, n_5, n_6, n_7, n_8, n_9, n_10, n_11, n_12, n_16, n_19, n_20, n_24, n_25, n_32, n_40, n_48, n_50, n_60, n_64, n_80, n_96, n_114, n_684, n_1000, n_9330, n_16806, n_1000000, n_5764800, ↓n_m, m_ltI, m_leI, m_lt', m_le', m_eq, m_eq', m_add, m_sub, mm_lt, mm_le, mm_eq, q_sub, nI_add, q_mul, nI_clamp, bz_0, bz_1, q_bzb, b_0, b_1, b_ft, b_tf, ne_eq, not_true_eq_false, not_false_eq_true, decide_true, decide_false, Bool.and_self, Bool.false_and, Bool.and_false, Bool.and_true, Bool.true_and, Bool.not_true, Bool.not_false, ↓reduceIte]
  · refine Or.inr (Or.inl ⟨fun z => ho z.1, ?_⟩)
    unfold opn at ho
    rw [Bool.or_eq_true, decide_eq_true_eq, beq_iff_eq] at ho
    have h1000 : ¬ sh b = 1000 := fun z => ho (Or.inl z)
    have h2 : ¬ y < sh b := fun z => ho (Or.inr z)
    simp (disch := first | omega | rfl | assumption) only [bX3_arrive_0, bX3_arrive_34, bX3_arrive_35, bX3_arrive_64, bX3_arrive_66, rX3_arrive, ck.1 11030 5 rfl, ck.1 11030 2 rfl, e1, h1000, hwb, q_cl, q_ps, q_pn, bI_t, bI_f, gI_same, gI_ne, gR_pI, gJ_pI, gV_pI, gN_pI, gC_pI, gS_pI, gI_pJ, gR_pJ, gV_pJ, gN_pJ, gJ_same, gJ_ne, gI_pR, gJ_pR, gV_pR, gN_pR, gR_same, gR_ne, zin_t, zin_f, x_ltt, x_ltf, x_let, x_lef, x_eqt, x_eqf, n_0, n_1, n_2, n_3, n_4, n_5, n_6, n_7, n_8, n_9, n_10, n_11, n_12, n_16, n_19, n_20, n_24, n_25, n_32, n_40, n_48, n_50, n_60, n_64, n_80, n_96, n_114, n_684, n_1000, n_9330, n_16806, n_1000000, n_5764800, ↓n_m, m_ltI, m_leI, m_lt', m_le', m_eq, m_eq', m_add, m_sub, mm_lt, mm_le, mm_eq, q_sub, nI_add, q_mul, nI_clamp, bz_0, bz_1, q_bzb, b_0, b_1, b_ft, b_tf, ne_eq, not_true_eq_false, not_false_eq_true, decide_true, decide_false, Bool.and_self, Bool.false_and, Bool.and_false, Bool.and_true, Bool.true_and, Bool.not_true, Bool.not_false, ↓reduceIte]
/-- roads and what is shut, in the class -/
def cRd (h : z_H) (rd sh : Nat → Nat) : Prop := cOK h ∧ (∀ k, k < 64 → rd k < 10 ∧ gI h 64231 0 k = nI (rd k)) ∧ (∀ a, a < 8 → rd (9 * a) = 0) ∧ ∀ p, p < 8 → sh p ≤ 1000 ∧ gI h 8241 0 p = nI (sh p)
theorem cRd_fr {S : List Nat} {h h' : z_H} (f : frX S h h') (n7 : 7 ∉ S) (n14 : 14 ∉ S) {rd sh : Nat → Nat} (m : cRd h rd sh) : cRd h' rd sh := ⟨frX_cOK n14 f m.1, fun k hk => ⟨(m.2.1 k hk).1, (f.1 _ _ _ (by exact n7)).trans (m.2.1 k hk).2⟩, m.2.2.1, fun p hp => ⟨(m.2.2.2 p hp).1, (f.1 _ _ _ (by exact n7)).trans (m.2.2.2 p hp).2⟩⟩
theorem pArr_g (w : Nat) : ∀ p i k, pArr w p i k → grp p i k ∈ [9] := by
  rintro p i k ⟨rfl, -⟩
  exact (by decide : (9 : Nat) ∈ [9])
theorem arB_self (rd sh : Nat → Nat) {a : Nat} (h0 : rd (9 * a) = 0) : ∀ n c, arB rd sh a n c a = c a := by
  intro n
  induction n with
  | zero => intro c; rfl
  | succ n ih =>
    intro c
    show arE rd sh a n (arB rd sh a n c) a = c a
    rcases arE_cases rd sh a n (arB rd sh a n c) with ⟨h1, h2, h3, h4, e⟩ | ⟨_, e⟩
    · rw [e]
      show (if a = n then _ else arB rd sh a n c a) = c a
      by_cases q : a = n
      · subst q
        rw [show 8 * a + a = 9 * a by omega, h0] at h2
        omega
      · rw [if_neg q]; exact ih c
    · rw [e]; exact ih c
theorem arB_never (rd sh : Nat → Nat) {a : Nat} : ∀ n c, ¬ c a < 1000000 → arB rd sh a n c = c := by
  intro n
  induction n with
  | zero => intro c _; rfl
  | succ n ih =>
    intro c h
    show arE rd sh a n (arB rd sh a n c) = c
    rw [ih c h]
    rcases arE_cases rd sh a n c with ⟨h1, _⟩ | ⟨_, e⟩
    · exact absurd h1 h
    · exact e
theorem c_trav_in (d : Nat) {rd sh : Nat → Nat} {w a M : Nat} {c0 : Nat → Nat} (hw : w < 8) (ha : a < 8) (hM2 : M + 100 < 1000000) (hM : bd c0 M) : ∀ (r b : Nat) (fl : Bool) (u6 : z_V) (h : z_H), b + r = 8 → cRd h rd sh → cW h w (arB rd sh a b c0) →
    ∃ h' fl' u4 u5 u6', EX (d + 1) 43 26 [z_R 11030 0, z_I (nI w), z_I (bI fl), z_I (nI a), z_I (comI (c0 a)), z_I (nI b), u6] [] h = EX (d + 1) 43 81 [z_R 11030 0, z_I (nI w), z_I (bI fl'), z_I (nI a), z_I u4, z_I u5, u6'] [] h' ∧ cW h' w (arB rd sh a 8 c0) ∧ (fl' = false → fl = false ∧ arB rd sh a 8 c0 = arB rd sh a b c0) ∧ fr (pArr w) h h' := by
  intro r
  induction r with
  | zero =>
    intro b fl u6 h hb m hc
    have : b = 8 := by omega
    subst this
    refine ⟨h, fl, comI (c0 a), nI 8, u6, ?_, hc, fun z => ⟨z, rfl⟩, fr_rfl _ _⟩
    rw [bX3_travel_26]
    simp (disch := first | omega | rfl | assumption) only [q_cl, q_ps, q_pn, bI_t, bI_f, gI_same, gI_ne, gR_pI, gJ_pI, gV_pI, gN_pI, gC_pI, gS_pI, gI_pJ, gR_pJ, gV_pJ, gN_pJ, gJ_same, gJ_ne, gI_pR, gJ_pR, gV_pR, gN_pR, gR_same, gR_ne, zin_t, zin_f, x_ltt, x_ltf, x_let, x_lef, x_eqt, x_eqf, n_0, n_1, n_2, n_3, n_4, n_5, n_6, n_7, n_8, n_9, n_10, n_11, n_12, n_16, n_19, n_20, n_24, n_25, n_32, n_40, n_48, n_50, n_60, n_64, n_80, n_96, n_114, n_684, n_1000, n_9330, n_16806, n_1000000, n_5764800, ↓n_m, m_ltI, m_leI, m_lt', m_le', m_eq, m_eq', m_add, m_sub, mm_lt, mm_le, mm_eq, q_sub, nI_add, q_mul, nI_clamp, bz_0, bz_1, q_bzb, b_0, b_1, b_ft, b_tf, ne_eq, not_true_eq_false, not_false_eq_true, decide_true, decide_false, Bool.and_self, Bool.false_and, Bool.and_false, Bool.and_true, Bool.true_and, Bool.not_true, Bool.not_false, ↓reduceIte]
  | succ r ih =>
    intro b fl u6 h hb m hc
    obtain ⟨m1, m2, m3, m4⟩ := m
    by_cases hf : c0 a < 1000000
    · have hr := m2 (8 * a + b) (by omega)
      have hab : a * 8 + b = 8 * a + b := by omega
      have hself := arB_self rd sh (m3 a ha) b c0
      have hMa := hM a hf
      have hMb := bd_B rd sh (a := a) (fun b hb => (m2 _ (by omega)).1) b c0 M (by omega) hM
      have eE : arB rd sh a (b + 1) c0 = arE rd sh a b (arB rd sh a b c0) := rfl
      by_cases hr0 : rd (8 * a + b) = 0
      · have eq : arB rd sh a (b + 1) c0 = arB rd sh a b c0 := by
          rw [eE]
          rcases arE_cases rd sh a b (arB rd sh a b c0) with ⟨_, h2, _⟩ | ⟨_, e⟩
          · omega
          · exact e
        obtain ⟨h', fl', u4, u5, u6', q1, q2, q3, q4⟩ := ih (b + 1) fl (z_I (nI 0)) h (by omega) ⟨m1, m2, m3, m4⟩ (by rw [eq]; exact hc)
        refine ⟨h', fl', u4, u5, u6', ?_, q2, fun z => by rw [← eq]; exact q3 z, q4⟩
        rw [comI_fin hf] at q1
        rw [bX3_travel_26, comI_fin hf]
        simp (disch := first | omega | rfl | assumption) only [m1.1 11030 4 rfl, hab, hr.2, hr0, bX3_travel_75, q_cl, q_ps, q_pn, bI_t, bI_f, gI_same, gI_ne, gR_pI, gJ_pI, gV_pI, gN_pI, gC_pI, gS_pI, gI_pJ, gR_pJ, gV_pJ, gN_pJ, gJ_same, gJ_ne, gI_pR, gJ_pR, gV_pR, gN_pR, gR_same, gR_ne, zin_t, zin_f, x_ltt, x_ltf, x_let, x_lef, x_eqt, x_eqf, n_0, n_1, n_2, n_3, n_4, n_5, n_6, n_7, n_8, n_9, n_10, n_11, n_12, n_16, n_19, n_20, n_24, n_25, n_32, n_40, n_48, n_50, n_60, n_64, n_80, n_96, n_114, n_684, n_1000, n_9330, n_16806, n_1000000, n_5764800, ↓n_m, m_ltI, m_leI, m_lt', m_le', m_eq, m_eq', m_add, m_sub, mm_lt, mm_le, mm_eq, q_sub, nI_add, q_mul, nI_clamp, bz_0, bz_1, q_bzb, b_0, b_1, b_ft, b_tf, ne_eq, not_true_eq_false, not_false_eq_true, decide_true, decide_false, Bool.and_self, Bool.false_and, Bool.and_false, Bool.and_true, Bool.true_and, Bool.not_true, Bool.not_false, ↓reduceIte]
        exact q1
      · have hy : c0 a + rd (8 * a + b) < 1000000 := by omega
        have upd : ∀ (hu : opn sh b (c0 a + rd (8 * a + b)) = true ∧ c0 a + rd (8 * a + b) < arB rd sh a b c0 b), Rn (d + 1) 44 [z_R 11030 0, z_I (nI w), z_I (nI b), z_I (nI (c0 a + rd (8 * a + b)))] h = some (some (z_I (nI 1)), pI h 64221 0 (8 * w + b) (nI (c0 a + rd (8 * a + b)))) → ∃ h' fl' u4 u5 u6', EX (d + 1) 43 26 [z_R 11030 0, z_I (nI w), z_I (bI fl), z_I (nI a), z_I (comI (c0 a)), z_I (nI b), u6] [] h = EX (d + 1) 43 81 [z_R 11030 0, z_I (nI w), z_I (bI fl'), z_I (nI a), z_I u4, z_I u5, u6'] [] h' ∧ cW h' w (arB rd sh a 8 c0) ∧ (fl' = false → fl = false ∧ arB rd sh a 8 c0 = arB rd sh a b c0) ∧ fr (pArr w) h h' := by
          intro hu e
          have eq : arB rd sh a (b + 1) c0 = fun p => if p = b then c0 a + rd (8 * a + b) else arB rd sh a b c0 p := by
            rw [eE]
            unfold arE
            rw [hself, if_pos ⟨hf, by omega, hu.1, hu.2⟩]
          have f0 : fr (pArr w) h (pI h 64221 0 (8 * w + b) (nI (c0 a + rd (8 * a + b)))) := fr_pI h _ ⟨rfl, by omega, by omega⟩
          have F0 := frX_fr f0 (pArr_g w)
          obtain ⟨h', fl', u4, u5, u6', q1, q2, q3, q4⟩ := ih (b + 1) true (z_I (nI (rd (8 * a + b)))) _ (by omega) (cRd_fr F0 (by decide) (by decide) ⟨m1, m2, m3, m4⟩) (by rw [eq]; exact cW_set hc (by omega) hy)
          refine ⟨h', fl', u4, u5, u6', ?_, q2, fun z => absurd (q3 z).1 (by decide), fr_trans f0 q4⟩
          rw [comI_fin hf] at q1
          rw [bX3_travel_26, comI_fin hf]
          simp (disch := first | omega | rfl | assumption) only [m1.1 11030 4 rfl, hab, hr.2, e, bX3_travel_70, bX3_travel_75, q_cl, q_ps, q_pn, bI_t, bI_f, gI_same, gI_ne, gR_pI, gJ_pI, gV_pI, gN_pI, gC_pI, gS_pI, gI_pJ, gR_pJ, gV_pJ, gN_pJ, gJ_same, gJ_ne, gI_pR, gJ_pR, gV_pR, gN_pR, gR_same, gR_ne, zin_t, zin_f, x_ltt, x_ltf, x_let, x_lef, x_eqt, x_eqf, n_0, n_1, n_2, n_3, n_4, n_5, n_6, n_7, n_8, n_9, n_10, n_11, n_12, n_16, n_19, n_20, n_24, n_25, n_32, n_40, n_48, n_50, n_60, n_64, n_80, n_96, n_114, n_684, n_1000, n_9330, n_16806, n_1000000, n_5764800, ↓n_m, m_ltI, m_leI, m_lt', m_le', m_eq, m_eq', m_add, m_sub, mm_lt, mm_le, mm_eq, q_sub, nI_add, q_mul, nI_clamp, bz_0, bz_1, q_bzb, b_0, b_1, b_ft, b_tf, ne_eq, not_true_eq_false, not_false_eq_true, decide_true, decide_false, Bool.and_self, Bool.false_and, Bool.and_false, Bool.and_true, Bool.true_and, Bool.not_true, Bool.not_false, ↓reduceIte]
          exact q1
        rcases c_arrive d m1 hw (show b < 8 by omega) hy (m4 b (by omega)).1 (m4 b (by omega)).2 hc hMb (by omega) with ⟨h1, h2, e⟩ | ⟨hn, e⟩ | ⟨h1, h2, e⟩
        · exact upd ⟨h1, h2⟩ e
        · have eq : arB rd sh a (b + 1) c0 = arB rd sh a b c0 := by
            rw [eE]
            unfold arE
            rw [hself, if_neg (fun z => hn ⟨z.2.2.1, z.2.2.2⟩)]
          obtain ⟨h', fl', u4, u5, u6', q1, q2, q3, q4⟩ := ih (b + 1) fl (z_I (nI (rd (8 * a + b)))) h (by omega) ⟨m1, m2, m3, m4⟩ (by rw [eq]; exact hc)
          refine ⟨h', fl', u4, u5, u6', ?_, q2, fun z => by rw [← eq]; exact q3 z, q4⟩
          rw [comI_fin hf] at q1
          rw [bX3_travel_26, comI_fin hf]
          simp (disch := first | omega | rfl | assumption) only [m1.1 11030 4 rfl, hab, hr.2, e, bX3_travel_70, bX3_travel_75, q_cl, q_ps, q_pn, bI_t, bI_f, gI_same, gI_ne, gR_pI, gJ_pI, gV_pI, gN_pI, gC_pI, gS_pI, gI_pJ, gR_pJ, gV_pJ, gN_pJ, gJ_same, gJ_ne, gI_pR, gJ_pR, gV_pR, gN_pR, gR_same, gR_ne, zin_t, zin_f, x_ltt, x_ltf, x_let, x_lef, x_eqt, x_eqf, n_0, n_1, n_2, n_3, n_4, n_5, n_6, n_7, n_8, n_9, n_10, n_11, n_12, n_16, n_19, n_20, n_24, n_25, n_32, n_40, n_48, n_50, n_60, n_64, n_80, n_96, n_114, n_684, n_1000, n_9330, n_16806, n_1000000, n_5764800, ↓n_m, m_ltI, m_leI, m_lt', m_le', m_eq, m_eq', m_add, m_sub, mm_lt, mm_le, mm_eq, q_sub, nI_add, q_mul, nI_clamp, bz_0, bz_1, q_bzb, b_0, b_1, b_ft, b_tf, ne_eq, not_true_eq_false, not_false_eq_true, decide_true, decide_false, Bool.and_self, Bool.false_and, Bool.and_false, Bool.and_true, Bool.true_and, Bool.not_true, Bool.not_false, ↓reduceIte]
          exact q1
        · exact upd ⟨h1, by omega⟩ e
    · have e8 := arB_never rd sh (a := a) 8 c0 hf
      have eb := arB_never rd sh (a := a) b c0 hf
      refine ⟨h, fl, comI (c0 a), nI b, u6, ?_, by rw [e8, ← eb]; exact hc, fun z => ⟨z, by rw [e8, eb]⟩, fr_rfl _ _⟩
      rw [bX3_travel_26, comI_inf hf]
      simp (disch := first | omega | rfl | assumption) only [q_cl, q_ps, q_pn, bI_t, bI_f, gI_same, gI_ne, gR_pI, gJ_pI, gV_pI, gN_pI, gC_pI, gS_pI, gI_pJ, gR_pJ, gV_pJ, gN_pJ, gJ_same, gJ_ne, gI_pR, gJ_pR, gV_pR, gN_pR, gR_same, gR_ne, zin_t, zin_f, x_ltt, x_ltf, x_let, x_lef, x_eqt, x_eqf, n_0, n_1, n_2, n_3, n_4, n_5, n_6, n_7, n_8, n_9, n_10, n_11, n_12, n_16, n_19, n_20, n_24, n_25, n_32, n_40, n_48, n_50, n_60, n_64, n_80, n_96, n_114, n_684, n_1000, n_9330, n_16806, n_1000000, n_5764800, ↓n_m, m_ltI, m_leI, m_lt', m_le', m_eq, m_eq', m_add, m_sub, mm_lt, mm_le, mm_eq, q_sub, nI_add, q_mul, nI_clamp, bz_0, bz_1, q_bzb, b_0, b_1, b_ft, b_tf, ne_eq, not_true_eq_false, not_false_eq_true, decide_true, decide_false, Bool.and_self, Bool.false_and, Bool.and_false, Bool.and_true, Bool.true_and, Bool.not_true, Bool.not_false, ↓reduceIte]
theorem c_trav_out (d : Nat) {rd sh : Nat → Nat} {w M : Nat} {c : Nat → Nat} (hw : w < 8) (hM2 : M + 700 < 1000000) (hM : bd c M) : ∀ (r a : Nat) (fl : Bool) (u4 u5 u6 : z_V) (h : z_H), a + r = 8 → cRd h rd sh → cW h w (arR rd sh a c) →
    ∃ h' fl', EX (d + 1) 43 4 [z_R 11030 0, z_I (nI w), z_I (bI fl), z_I (nI a), u4, u5, u6] [] h = some (some (z_I (bI fl')), h') ∧ cW h' w (arR rd sh 8 c) ∧ (fl' = false → fl = false ∧ arR rd sh 8 c = arR rd sh a c) ∧ fr (pArr w) h h' := by
  intro r
  induction r with
  | zero =>
    intro a fl u4 u5 u6 h ha m hc
    have : a = 8 := by omega
    subst this
    refine ⟨h, fl, ?_, hc, fun z => ⟨z, rfl⟩, fr_rfl _ _⟩
    rw [bX3_travel_4]
    simp (disch := first | omega | rfl | assumption) only [bX3_travel_87, q_cl, q_ps, q_pn, bI_t, bI_f, gI_same, gI_ne, gR_pI, gJ_pI, gV_pI, gN_pI, gC_pI, gS_pI, gI_pJ, gR_pJ, gV_pJ, gN_pJ, gJ_same, gJ_ne, gI_pR, gJ_pR, gV_pR, gN_pR, gR_same, gR_ne, zin_t, zin_f, x_ltt, x_ltf, x_let, x_lef, x_eqt, x_eqf, n_0, n_1, n_2, n_3, n_4, n_5, n_6, n_7, n_8, n_9, n_10, n_11, n_12, n_16, n_19, n_20, n_24, n_25, n_32, n_40, n_48, n_50, n_60, n_64, n_80, n_96, n_114, n_684, n_1000, n_9330, n_16806, n_1000000, n_5764800, ↓n_m, m_ltI, m_leI, m_lt', m_le', m_eq, m_eq', m_add, m_sub, mm_lt, mm_le, mm_eq, q_sub, nI_add, q_mul, nI_clamp, bz_0, bz_1, q_bzb, b_0, b_1, b_ft, b_tf, ne_eq, not_true_eq_false, not_false_eq_true, decide_true, decide_false, Bool.and_self, Bool.false_and, Bool.and_false, Bool.and_true, Bool.true_and, Bool.not_true, Bool.not_false, ↓reduceIte]
  | succ r ih =>
    intro a fl u4 u5 u6 h ha m hc
    have hMa := bd_R rd sh (fun k hk => (m.2.1 k hk).1) a c M (by omega) hM
    obtain ⟨h1, fl1, v4, v5, v6, p1, p2, p3, p4⟩ := c_trav_in d hw (show a < 8 by omega) (by omega) hMa 8 0 fl u6 h (by omega) m hc
    obtain ⟨h', fl', q1, q2, q3, q4⟩ := ih (a + 1) fl1 (z_I v4) (z_I v5) v6 h1 (by omega) (cRd_fr (frX_fr p4 (pArr_g w)) (by decide) (by decide) m) p2
    refine ⟨h', fl', ?_, q2, fun z => ?_, fr_trans p4 q4⟩
    · have hwa : w * 8 + a = 8 * w + a := by omega
      rw [bX3_travel_4]
      simp (disch := first | omega | rfl | assumption) only [m.1.1 11030 2 rfl, hwa, hc a (by omega), q_cl, q_ps, q_pn, bI_t, bI_f, gI_same, gI_ne, gR_pI, gJ_pI, gV_pI, gN_pI, gC_pI, gS_pI, gI_pJ, gR_pJ, gV_pJ, gN_pJ, gJ_same, gJ_ne, gI_pR, gJ_pR, gV_pR, gN_pR, gR_same, gR_ne, zin_t, zin_f, x_ltt, x_ltf, x_let, x_lef, x_eqt, x_eqf, n_0, n_1, n_2, n_3, n_4, n_5, n_6, n_7, n_8, n_9, n_10, n_11, n_12, n_16, n_19, n_20, n_24, n_25, n_32, n_40, n_48, n_50, n_60, n_64, n_80, n_96, n_114, n_684, n_1000, n_9330, n_16806, n_1000000, n_5764800, ↓n_m, m_ltI, m_leI, m_lt', m_le', m_eq, m_eq', m_add, m_sub, mm_lt, mm_le, mm_eq, q_sub, nI_add, q_mul, nI_clamp, bz_0, bz_1, q_bzb, b_0, b_1, b_ft, b_tf, ne_eq, not_true_eq_false, not_false_eq_true, decide_true, decide_false, Bool.and_self, Bool.false_and, Bool.and_false, Bool.and_true, Bool.true_and, Bool.not_true, Bool.not_false, ↓reduceIte]
      rw [p1, bX3_travel_81]
      simp (disch := first | omega | rfl | assumption) only [q_cl, q_ps, q_pn, bI_t, bI_f, gI_same, gI_ne, gR_pI, gJ_pI, gV_pI, gN_pI, gC_pI, gS_pI, gI_pJ, gR_pJ, gV_pJ, gN_pJ, gJ_same, gJ_ne, gI_pR, gJ_pR, gV_pR, gN_pR, gR_same, gR_ne, zin_t, zin_f, x_ltt, x_ltf, x_let, x_lef, x_eqt, x_eqf, n_0, n_1, n_2, n_3, n_4, n_5, n_6, n_7, n_8, n_9, n_10, n_11, n_12, n_16, n_19, n_20, n_24, n_25, n_32, n_40, n_48, n_50, n_60, n_64, n_80, n_96, n_114, n_684, n_1000, n_9330, n_16806, n_1000000, n_5764800, ↓n_m, m_ltI, m_leI, m_lt', m_le', m_eq, m_eq', m_add, m_sub, mm_lt, mm_le, mm_eq, q_sub, nI_add, q_mul, nI_clamp, bz_0, bz_1, q_bzb, b_0, b_1, b_ft, b_tf, ne_eq, not_true_eq_false, not_false_eq_true, decide_true, decide_false, Bool.and_self, Bool.false_and, Bool.and_false, Bool.and_true, Bool.true_and, Bool.not_true, Bool.not_false, ↓reduceIte]
      exact q1
    · obtain ⟨z1, z2⟩ := q3 z
      obtain ⟨z3, z4⟩ := p3 z1
      refine ⟨z3, ?_⟩
      rw [z2]
      exact z4
theorem c_travel (d : Nat) {rd sh : Nat → Nat} {w M : Nat} {c : Nat → Nat} (hw : w < 8) (hM2 : M + 700 < 1000000) (hM : bd c M) {h : z_H} (m : cRd h rd sh) (hc : cW h w c) :
    ∃ h' fl, Rn (d + 2) 43 [z_R 11030 0, z_I (nI w)] h = some (some (z_I (bI fl)), h') ∧ cW h' w (arR rd sh 8 c) ∧ (fl = false → arR rd sh 8 c = c) ∧ fr (pArr w) h h' := by
  obtain ⟨h', fl, q1, q2, q3, q4⟩ := c_trav_out d hw hM2 hM 8 0 false z_U z_U z_U h (by omega) m hc
  refine ⟨h', fl, ?_, q2, fun z => (q3 z).2, q4⟩
  rw [rX3_travel, bX3_travel_0]
  exact q1
theorem c_spr_in (d : Nat) {rd sh : Nat → Nat} {w : Nat} {I : Nat → Nat} (hw : w < 8) (hI : ∀ p, I p ≤ 1000000) (hb : bd I 1000) : ∀ (r i : Nat) (fl : Bool) (h : z_H), i + r = 8 → 1 ≤ i → cRd h rd sh → cW h w (arN rd sh (i - 1) I) → (fl = false → arR rd sh 8 (arN rd sh (i - 1) I) = arN rd sh (i - 1) I) →
    ∃ h' u2 u3, EX (d + 2) 42 53 [z_R 11030 0, z_I (nI w), z_I (bI fl), z_I (nI i)] [] h = EX (d + 2) 42 75 [z_R 11030 0, z_I (nI w), z_I u2, z_I u3] [] h' ∧ cW h' w (arN rd sh 8 I) ∧ fr (pArr w) h h' := by
  intro r
  induction r with
  | zero =>
    intro i fl h hi h1 m hc _
    have : i = 8 := by omega
    subst this
    refine ⟨h, bI fl, nI 8, ?_, by rw [ar7 rd sh I hI]; exact hc, fr_rfl _ _⟩
    rw [bX3_spread_53]
    simp (disch := first | omega | rfl | assumption) only [q_cl, q_ps, q_pn, bI_t, bI_f, gI_same, gI_ne, gR_pI, gJ_pI, gV_pI, gN_pI, gC_pI, gS_pI, gI_pJ, gR_pJ, gV_pJ, gN_pJ, gJ_same, gJ_ne, gI_pR, gJ_pR, gV_pR, gN_pR, gR_same, gR_ne, zin_t, zin_f, x_ltt, x_ltf, x_let, x_lef, x_eqt, x_eqf, n_0, n_1, n_2, n_3, n_4, n_5, n_6, n_7, n_8, n_9, n_10, n_11, n_12, n_16, n_19, n_20, n_24, n_25, n_32, n_40, n_48, n_50, n_60, n_64, n_80, n_96, n_114, n_684, n_1000, n_9330, n_16806, n_1000000, n_5764800, ↓n_m, m_ltI, m_leI, m_lt', m_le', m_eq, m_eq', m_add, m_sub, mm_lt, mm_le, mm_eq, q_sub, nI_add, q_mul, nI_clamp, bz_0, bz_1, q_bzb, b_0, b_1, b_ft, b_tf, ne_eq, not_true_eq_false, not_false_eq_true, decide_true, decide_false, Bool.and_self, Bool.false_and, Bool.and_false, Bool.and_true, Bool.true_and, Bool.not_true, Bool.not_false, ↓reduceIte]
  | succ r ih =>
    intro i fl h hi h1 m hc hfix
    cases fl with
    | false =>
      have hs := arN_stay rd sh (hfix rfl) (9 - i)
      rw [show i - 1 + (9 - i) = 8 by omega] at hs
      refine ⟨h, bI false, nI i, ?_, by rw [hs]; exact hc, fr_rfl _ _⟩
      rw [bX3_spread_53]
      simp (disch := first | omega | rfl | assumption) only [q_cl, q_ps, q_pn, bI_t, bI_f, gI_same, gI_ne, gR_pI, gJ_pI, gV_pI, gN_pI, gC_pI, gS_pI, gI_pJ, gR_pJ, gV_pJ, gN_pJ, gJ_same, gJ_ne, gI_pR, gJ_pR, gV_pR, gN_pR, gR_same, gR_ne, zin_t, zin_f, x_ltt, x_ltf, x_let, x_lef, x_eqt, x_eqf, n_0, n_1, n_2, n_3, n_4, n_5, n_6, n_7, n_8, n_9, n_10, n_11, n_12, n_16, n_19, n_20, n_24, n_25, n_32, n_40, n_48, n_50, n_60, n_64, n_80, n_96, n_114, n_684, n_1000, n_9330, n_16806, n_1000000, n_5764800, ↓n_m, m_ltI, m_leI, m_lt', m_le', m_eq, m_eq', m_add, m_sub, mm_lt, mm_le, mm_eq, q_sub, nI_add, q_mul, nI_clamp, bz_0, bz_1, q_bzb, b_0, b_1, b_ft, b_tf, ne_eq, not_true_eq_false, not_false_eq_true, decide_true, decide_false, Bool.and_self, Bool.false_and, Bool.and_false, Bool.and_true, Bool.true_and, Bool.not_true, Bool.not_false, ↓reduceIte]
    | true =>
      have hM := bd_N rd sh (fun k hk => (m.2.1 k hk).1) hb (i - 1)
      obtain ⟨h1', fl', p1, p2, p3, p4⟩ := c_travel d hw (show 1000 + 576 * (i - 1) + 700 < 1000000 by omega) hM m hc
      have e : arR rd sh 8 (arN rd sh (i - 1) I) = arN rd sh (i + 1 - 1) I := by rw [show i + 1 - 1 = i - 1 + 1 by omega]; rfl
      rw [e] at p2 p3
      obtain ⟨h', u2, u3, q1, q2, q3⟩ := ih (i + 1) fl' h1' (by omega) (by omega) (cRd_fr (frX_fr p4 (pArr_g w)) (by decide) (by decide) m) p2 (fun z => by
        have z2 := p3 z
        have e2 : arR rd sh 8 (arN rd sh (i + 1 - 1) I) = arR rd sh 8 (arN rd sh (i - 1) I) := by rw [z2]
        rw [e2, e])
      refine ⟨h', u2, u3, ?_, q2, fr_trans p4 q3⟩
      rw [bX3_spread_53]
      simp (disch := first | omega | rfl | assumption) only [p1, bX3_spread_68, q_cl, q_ps, q_pn, bI_t, bI_f, gI_same, gI_ne, gR_pI, gJ_pI, gV_pI, gN_pI, gC_pI, gS_pI, gI_pJ, gR_pJ, gV_pJ, gN_pJ, gJ_same, gJ_ne, gI_pR, gJ_pR, gV_pR, gN_pR, gR_same, gR_ne, zin_t, zin_f, x_ltt, x_ltf, x_let, x_lef, x_eqt, x_eqf, n_0, n_1, n_2, n_3, n_4, n_5, n_6, n_7, n_8, n_9, n_10, n_11, n_12, n_16, n_19, n_20, n_24, n_25, n_32, n_40, n_48, n_50, n_60, n_64, n_80, n_96, n_114, n_684, n_1000, n_9330, n_16806, n_1000000, n_5764800, ↓n_m, m_ltI, m_leI, m_lt', m_le', m_eq, m_eq', m_add, m_sub, mm_lt, mm_le, mm_eq, q_sub, nI_add, q_mul, nI_clamp, bz_0, bz_1, q_bzb, b_0, b_1, b_ft, b_tf, ne_eq, not_true_eq_false, not_false_eq_true, decide_true, decide_false, Bool.and_self, Bool.false_and, Bool.and_false, Bool.and_true, Bool.true_and, Bool.not_true, Bool.not_false, ↓reduceIte]
      exact q1
theorem c_spr_out (d : Nat) {rd sh : Nat → Nat} {n : Nat} {wp wy : Nat → Nat} (hn : n ≤ 8) : ∀ (r w : Nat) (u2 u3 : z_V) (h : z_H), w + r = n → cRd h rd sh → gI h 11030 0 0 = nI n → (∀ k, k < n → wp k < 8 ∧ wy k < 1000 ∧ gI h 8261 0 k = nI (wp k) ∧ gI h 8271 0 k = nI (wy k)) → (∀ k, w ≤ k → k < n → ∀ p, p < 8 → gI h 64221 0 (8 * k + p) = mI) →
    ∃ h', EX (d + 2) 42 23 [z_R 11030 0, z_I (nI w), u2, u3] [] h = some (none, h') ∧ (∀ k, w ≤ k → k < n → ∀ p, p < 8 → gI h' 64221 0 (8 * k + p) = comI (arr rd sh (wp k) (wy k) p)) ∧ fr (fun p _ k => p = 64221 ∧ 8 * w ≤ k) h h' := by
  intro r
  induction r with
  | zero =>
    intro w u2 u3 h hw m e1 hwv hz
    refine ⟨h, ?_, fun k h1 h2 => by omega, fr_rfl _ _⟩
    rw [bX3_spread_23]
    simp (disch := first | omega | rfl | assumption) only [e1, bX3_spread_81, q_cl, q_ps, q_pn, bI_t, bI_f, gI_same, gI_ne, gR_pI, gJ_pI, gV_pI, gN_pI, gC_pI, gS_pI, gI_pJ, gR_pJ, gV_pJ, gN_pJ, gJ_same, gJ_ne, gI_pR, gJ_pR, gV_pR, gN_pR, gR_same, gR_ne, zin_t, zin_f, x_ltt, x_ltf, x_let, x_lef, x_eqt, x_eqf, n_0, n_1, n_2, n_3, n_4, n_5, n_6, n_7, n_8, n_9, n_10, n_11, n_12, n_16, n_19, n_20, n_24, n_25, n_32, n_40, n_48, n_50, n_60, n_64, n_80, n_96, n_114, n_684, n_1000, n_9330, n_16806, n_1000000, n_5764800, ↓n_m, m_ltI, m_leI, m_lt', m_le', m_eq, m_eq', m_add, m_sub, mm_lt, mm_le, mm_eq, q_sub, nI_add, q_mul, nI_clamp, bz_0, bz_1, q_bzb, b_0, b_1, b_ft, b_tf, ne_eq, not_true_eq_false, not_false_eq_true, decide_true, decide_false, Bool.and_self, Bool.false_and, Bool.and_false, Bool.and_true, Bool.true_and, Bool.not_true, Bool.not_false, ↓reduceIte]
  | succ r ih =>
    intro w u2 u3 h hw m e1 hwv hz
    obtain ⟨v1, v2, v3, v4⟩ := hwv w (by omega)
    have hz1 : cW h w (fun _ => 1000000) := fun p hp => by rw [hz w (Nat.le_refl _) (by omega) p hp]; rfl
    have hw8 : w < 8 := by omega
    have hb0 : bd (fun _ => 1000000) 0 := fun p z => by
      have z2 : (1000000 : Nat) < 1000000 := z
      omega
    have start : ∃ h1 x, Rn (d + 2) 44 [z_R 11030 0, z_I (nI w), z_I (nI (wp w)), z_I (nI (wy w))] h = some (some (z_I x), h1) ∧ cW h1 w (arI sh (wp w) (wy w)) ∧ fr (pArr w) h h1 := by
      have hupd : opn sh (wp w) (wy w) = true → cW (pI h 64221 0 (8 * w + wp w) (nI (wy w))) w (arI sh (wp w) (wy w)) := by
        intro ho
        have := cW_set hz1 v1 (show wy w < 1000000 by omega)
        have e : (fun p => if p = wp w then wy w else 1000000) = arI sh (wp w) (wy w) := by
          funext p
          unfold arI
          by_cases q : p = wp w
          · rw [if_pos q, if_pos ⟨q, ho⟩]
          · rw [if_neg q, if_neg (fun z => q z.1)]
        rw [e] at this
        exact this
      rcases c_arrive (d + 1) m.1 hw8 v1 (show wy w < 1000000 by omega) (m.2.2.2 _ v1).1 (m.2.2.2 _ v1).2 hz1 hb0 (by omega) with ⟨h1, h2, e⟩ | ⟨hn, e⟩ | ⟨h1, h2, e⟩
      · exact ⟨_, _, e, hupd h1, fr_pI h _ ⟨rfl, by omega, by omega⟩⟩
      · refine ⟨h, _, e, ?_, fr_rfl _ _⟩
        have e2 : (fun _ => 1000000) = arI sh (wp w) (wy w) := by
          funext p
          unfold arI
          rw [if_neg (fun z => hn ⟨z.2, by show wy w < 1000000; omega⟩)]
        rw [← e2]
        exact hz1
      · exact ⟨_, _, e, hupd h1, fr_pI h _ ⟨rfl, by omega, by omega⟩⟩
    obtain ⟨h1, x, s1, s2, s3⟩ := start
    have m1 := cRd_fr (frX_fr s3 (pArr_g w)) (by decide) (by decide) m
    obtain ⟨h2, x2, x3, p1, p2, p3⟩ := c_spr_in d hw8 (arI_le v2) (bd_I v2) 7 1 true h1 (by omega) (by omega) m1 s2 (fun z => by cases z)
    have fT := fr_trans s3 p3
    have m2 := cRd_fr (frX_fr fT (pArr_g w)) (by decide) (by decide) m
    have kI : ∀ p i k, (p ≠ 64221 ∨ 8 * w + 8 ≤ k) → gI h2 p i k = gI h p i k := fun p i k z => fT.2 p i k (fun q => by have q2 : p = 64221 ∧ 8 * w ≤ k ∧ k < 8 * w + 8 := q; omega)
    obtain ⟨h', q1, q2, q3⟩ := ih (w + 1) (z_I x2) (z_I x3) h2 (by omega) m2 (by simp (disch := first | omega | rfl | assumption) only [kI, e1, q_cl, q_ps, q_pn, bI_t, bI_f, gI_same, gI_ne, gR_pI, gJ_pI, gV_pI, gN_pI, gC_pI, gS_pI, gI_pJ, gR_pJ, gV_pJ, gN_pJ, gJ_same, gJ_ne, gI_pR, gJ_pR, gV_pR, gN_pR, gR_same, gR_ne, zin_t, zin_f, x_ltt, x_ltf, x_let, x_lef, x_eqt, x_eqf, n_0, n_1, n_2, n_3, n_4, n_5, n_6, n_7, n_8, n_9, n_10, n_11, n_12, n_16, n_19, n_20, n_24, n_25, n_32, n_40, n_48, n_50, n_60, n_64, n_80, n_96, n_114, n_684, n_1000, n_9330, n_16806, n_1000000, n_5764800, ↓n_m, m_ltI, m_leI, m_lt', m_le', m_eq, m_eq', m_add, m_sub, mm_lt, mm_le, mm_eq, q_sub, nI_add, q_mul, nI_clamp, bz_0, bz_1, q_bzb, b_0, b_1, b_ft, b_tf, ne_eq, not_true_eq_false, not_false_eq_true, decide_true, decide_false, Bool.and_self, Bool.false_and, Bool.and_false, Bool.and_true, Bool.true_and, Bool.not_true, Bool.not_false, ↓reduceIte]) (fun k hk => by
      obtain ⟨t1, t2, t3, t4⟩ := hwv k hk
      exact ⟨t1, t2, by simp (disch := first | omega | rfl | assumption) only [kI, t3, q_cl, q_ps, q_pn, bI_t, bI_f, gI_same, gI_ne, gR_pI, gJ_pI, gV_pI, gN_pI, gC_pI, gS_pI, gI_pJ, gR_pJ, gV_pJ, gN_pJ, gJ_same, gJ_ne, gI_pR, gJ_pR, gV_pR, gN_pR, gR_same, gR_ne, zin_t, zin_f, x_ltt, x_ltf, x_let, x_lef, x_eqt, x_eqf, n_0, n_1, n_2, n_3, n_4, n_5, n_6, n_7, n_8, n_9, n_10, n_11, n_12, n_16, n_19, n_20, n_24, n_25, n_32, n_40, n_48, n_50, n_60, n_64, n_80, n_96, n_114, n_684, n_1000, n_9330, n_16806, n_1000000, n_5764800, ↓n_m, m_ltI, m_leI, m_lt', m_le', m_eq, m_eq', m_add, m_sub, mm_lt, mm_le, mm_eq, q_sub, nI_add, q_mul, nI_clamp, bz_0, bz_1, q_bzb, b_0, b_1, b_ft, b_tf, ne_eq, not_true_eq_false, not_false_eq_true, decide_true, decide_false, Bool.and_self, Bool.false_and, Bool.and_false, Bool.and_true, Bool.true_and, Bool.not_true, Bool.not_false, ↓reduceIte], by simp (disch := first | omega | rfl | assumption) only [kI, t4, q_cl, q_ps, q_pn, bI_t, bI_f, gI_same, gI_ne, gR_pI, gJ_pI, gV_pI, gN_pI, gC_pI, gS_pI, gI_pJ, gR_pJ, gV_pJ, gN_pJ, gJ_same, gJ_ne, gI_pR, gJ_pR, gV_pR, gN_pR, gR_same, gR_ne, zin_t, zin_f, x_ltt, x_ltf, x_let, x_lef, x_eqt, x_eqf, n_0, n_1, n_2, n_3, n_4, n_5, n_6, n_7, n_8, n_9, n_10, n_11, n_12, n_16, n_19, n_20, n_24, n_25, n_32, n_40, n_48, n_50, n_60, n_64, n_80, n_96, n_114, n_684, n_1000, n_9330, n_16806, n_1000000, n_5764800, ↓n_m, m_ltI, m_leI, m_lt', m_le', m_eq, m_eq', m_add, m_sub, mm_lt, mm_le, mm_eq, q_sub, nI_add, q_mul, nI_clamp, bz_0, bz_1, q_bzb, b_0, b_1, b_ft, b_tf, ne_eq, not_true_eq_false, not_false_eq_true, decide_true, decide_false, Bool.and_self, Bool.false_and, Bool.and_false, Bool.and_true, Bool.true_and, Bool.not_true, Bool.not_false, ↓reduceIte]⟩) (fun k h1 h2 p hp => by rw [kI _ _ _ (by omega)]; exact hz k (by omega) h2 p hp)
    refine ⟨h', ?_, fun k h1 h2 p hp => ?_, fr_trans (fr_mono fT (fun p i k z => ⟨z.1, z.2.1⟩)) (fr_mono q3 (fun p i k z => ⟨z.1, by have := z.2; omega⟩))⟩
    · rw [bX3_spread_23]
      simp (disch := first | omega | rfl | assumption) only [e1, m.1.1 11030 7 rfl, m.1.1 11030 8 rfl, v3, v4, s1, bX3_spread_48, q_cl, q_ps, q_pn, bI_t, bI_f, gI_same, gI_ne, gR_pI, gJ_pI, gV_pI, gN_pI, gC_pI, gS_pI, gI_pJ, gR_pJ, gV_pJ, gN_pJ, gJ_same, gJ_ne, gI_pR, gJ_pR, gV_pR, gN_pR, gR_same, gR_ne, zin_t, zin_f, x_ltt, x_ltf, x_let, x_lef, x_eqt, x_eqf, n_0, n_1, n_2, n_3, n_4, n_5, n_6, n_7, n_8, n_9, n_10, n_11, n_12, n_16, n_19, n_20, n_24, n_25, n_32, n_40, n_48, n_50, n_60, n_64, n_80, n_96, n_114, n_684, n_1000, n_9330, n_16806, n_1000000, n_5764800, ↓n_m, m_ltI, m_leI, m_lt', m_le', m_eq, m_eq', m_add, m_sub, mm_lt, mm_le, mm_eq, q_sub, nI_add, q_mul, nI_clamp, bz_0, bz_1, q_bzb, b_0, b_1, b_ft, b_tf, ne_eq, not_true_eq_false, not_false_eq_true, decide_true, decide_false, Bool.and_self, Bool.false_and, Bool.and_false, Bool.and_true, Bool.true_and, Bool.not_true, Bool.not_false, ↓reduceIte]
      have p1' : EX (d + 2) 42 53 [z_R 11030 0, z_I (nI w), z_I (nI 1), z_I (nI 1)] [] h1 = EX (d + 2) 42 75 [z_R 11030 0, z_I (nI w), z_I x2, z_I x3] [] h2 := p1
      rw [p1', bX3_spread_75]
      simp (disch := first | omega | rfl | assumption) only [q_cl, q_ps, q_pn, bI_t, bI_f, gI_same, gI_ne, gR_pI, gJ_pI, gV_pI, gN_pI, gC_pI, gS_pI, gI_pJ, gR_pJ, gV_pJ, gN_pJ, gJ_same, gJ_ne, gI_pR, gJ_pR, gV_pR, gN_pR, gR_same, gR_ne, zin_t, zin_f, x_ltt, x_ltf, x_let, x_lef, x_eqt, x_eqf, n_0, n_1, n_2, n_3, n_4, n_5, n_6, n_7, n_8, n_9, n_10, n_11, n_12, n_16, n_19, n_20, n_24, n_25, n_32, n_40, n_48, n_50, n_60, n_64, n_80, n_96, n_114, n_684, n_1000, n_9330, n_16806, n_1000000, n_5764800, ↓n_m, m_ltI, m_leI, m_lt', m_le', m_eq, m_eq', m_add, m_sub, mm_lt, mm_le, mm_eq, q_sub, nI_add, q_mul, nI_clamp, bz_0, bz_1, q_bzb, b_0, b_1, b_ft, b_tf, ne_eq, not_true_eq_false, not_false_eq_true, decide_true, decide_false, Bool.and_self, Bool.false_and, Bool.and_false, Bool.and_true, Bool.true_and, Bool.not_true, Bool.not_false, ↓reduceIte]
      exact q1
    · by_cases e : k = w
      · subst e
        rw [q3.2 _ _ _ (fun z => by have := z.2; omega)]
        exact p2 p hp
      · exact q2 k (by omega) h2 p hp
theorem c_spread (d : Nat) {h : z_H} {N : Nat} {xs : Nat → Int32} {G : Gh} {e : Int32} (hG : InvG h N xs G e) {rd sh : Nat → Nat} {n : Nat} {wl wp wy : Nat → Nat} (hL : iLdG h (gnL G) rd sh n wl wp wy) :
    ∃ h', Rn (d + 3) 42 [z_R 11030 0] h = some (none, h') ∧ InvG h' N xs G e ∧ iLdG h' (gnL G) rd sh n wl wp wy ∧ (∀ k, k < n → ∀ p, p < 8 → gI h' 64221 0 (8 * k + p) = comI (arr rd sh (wp k) (wy k) p)) ∧ frX [9] h h' := by
  have c := I_c hG
  have hL' := hL
  obtain ⟨l1, l2, l3, l4, l5, l6, l7, l8⟩ := hL
  rcases l8 with z | ⟨z1, z2⟩
  · have z' : gI h 11030 0 3 = nI 1 := z
    obtain ⟨h1, e1, e2, e3⟩ := c_fill_d (d + 1) mI (pI h 11030 0 3 (nI 0))
    have F1 : frX [9] h h1 := frX_trans (b := (pI h 11030 0 3 (nI 0))) (frX_pI2 9 rfl (by decide) _ _) (frX_fr e3 (fun p i k q => by cases q; exact (by decide : (9 : Nat) ∈ [9])))
    have k1 : ∀ p i k, p ≠ 64221 → gI h1 p i k = gI (pI h 11030 0 3 (nI 0)) p i k := fun p i k q => e3.2 p i k q
    have m1 : cRd h1 rd sh := cRd_fr F1 (by decide) (by decide) ⟨c, fun k hk => ⟨(l1 k hk).1, (l1 k hk).2.1⟩, l2, fun p hp => ⟨(l3 p hp).1, (l3 p hp).2.1⟩⟩
    obtain ⟨h2, q1, q2, q3⟩ := c_spr_out d (wp := wp) (wy := wy) l4 n 0 z_U z_U h1 (by omega) m1 (by simp (disch := first | omega | rfl | assumption) only [k1, l5, q_cl, q_ps, q_pn, bI_t, bI_f, gI_same, gI_ne, gR_pI, gJ_pI, gV_pI, gN_pI, gC_pI, gS_pI, gI_pJ, gR_pJ, gV_pJ, gN_pJ, gJ_same, gJ_ne, gI_pR, gJ_pR, gV_pR, gN_pR, gR_same, gR_ne, zin_t, zin_f, x_ltt, x_ltf, x_let, x_lef, x_eqt, x_eqf, n_0, n_1, n_2, n_3, n_4, n_5, n_6, n_7, n_8, n_9, n_10, n_11, n_12, n_16, n_19, n_20, n_24, n_25, n_32, n_40, n_48, n_50, n_60, n_64, n_80, n_96, n_114, n_684, n_1000, n_9330, n_16806, n_1000000, n_5764800, ↓n_m, m_ltI, m_leI, m_lt', m_le', m_eq, m_eq', m_add, m_sub, mm_lt, mm_le, mm_eq, q_sub, nI_add, q_mul, nI_clamp, bz_0, bz_1, q_bzb, b_0, b_1, b_ft, b_tf, ne_eq, not_true_eq_false, not_false_eq_true, decide_true, decide_false, Bool.and_self, Bool.false_and, Bool.and_false, Bool.and_true, Bool.true_and, Bool.not_true, Bool.not_false, ↓reduceIte]) (fun k hk => by
      obtain ⟨t1, t2, t3, t4, t5, t6, -⟩ := l7 k hk
      exact ⟨t2, t3, by simp (disch := first | omega | rfl | assumption) only [k1, t5, q_cl, q_ps, q_pn, bI_t, bI_f, gI_same, gI_ne, gR_pI, gJ_pI, gV_pI, gN_pI, gC_pI, gS_pI, gI_pJ, gR_pJ, gV_pJ, gN_pJ, gJ_same, gJ_ne, gI_pR, gJ_pR, gV_pR, gN_pR, gR_same, gR_ne, zin_t, zin_f, x_ltt, x_ltf, x_let, x_lef, x_eqt, x_eqf, n_0, n_1, n_2, n_3, n_4, n_5, n_6, n_7, n_8, n_9, n_10, n_11, n_12, n_16, n_19, n_20, n_24, n_25, n_32, n_40, n_48, n_50, n_60, n_64, n_80, n_96, n_114, n_684, n_1000, n_9330, n_16806, n_1000000, n_5764800, ↓n_m, m_ltI, m_leI, m_lt', m_le', m_eq, m_eq', m_add, m_sub, mm_lt, mm_le, mm_eq, q_sub, nI_add, q_mul, nI_clamp, bz_0, bz_1, q_bzb, b_0, b_1, b_ft, b_tf, ne_eq, not_true_eq_false, not_false_eq_true, decide_true, decide_false, Bool.and_self, Bool.false_and, Bool.and_false, Bool.and_true, Bool.true_and, Bool.not_true, Bool.not_false, ↓reduceIte], by simp (disch := first | omega | rfl | assumption) only [k1, t6, q_cl, q_ps, q_pn, bI_t, bI_f, gI_same, gI_ne, gR_pI, gJ_pI, gV_pI, gN_pI, gC_pI, gS_pI, gI_pJ, gR_pJ, gV_pJ, gN_pJ, gJ_same, gJ_ne, gI_pR, gJ_pR, gV_pR, gN_pR, gR_same, gR_ne, zin_t, zin_f, x_ltt, x_ltf, x_let, x_lef, x_eqt, x_eqf, n_0, n_1, n_2, n_3, n_4, n_5, n_6, n_7, n_8, n_9, n_10, n_11, n_12, n_16, n_19, n_20, n_24, n_25, n_32, n_40, n_48, n_50, n_60, n_64, n_80, n_96, n_114, n_684, n_1000, n_9330, n_16806, n_1000000, n_5764800, ↓n_m, m_ltI, m_leI, m_lt', m_le', m_eq, m_eq', m_add, m_sub, mm_lt, mm_le, mm_eq, q_sub, nI_add, q_mul, nI_clamp, bz_0, bz_1, q_bzb, b_0, b_1, b_ft, b_tf, ne_eq, not_true_eq_false, not_false_eq_true, decide_true, decide_false, Bool.and_self, Bool.false_and, Bool.and_false, Bool.and_true, Bool.true_and, Bool.not_true, Bool.not_false, ↓reduceIte]⟩) (fun k _ hk p hp => e2 _ (by omega))
    have F2 : frX [9] h1 h2 := frX_fr q3 (fun p i k q => by obtain ⟨rfl, -⟩ := q; exact (by decide : (9 : Nat) ∈ [9]))
    have F := frX_trans F1 F2
    have k2 : ∀ p i k, p ≠ 64221 → gI h2 p i k = gI h1 p i k := fun p i k q => q3.2 p i k (fun z => q z.1)
    have hL2 : iLdG h2 (gnL G) rd sh n wl wp wy := by
      refine ⟨fun k hk => ⟨(l1 k hk).1, by simp (disch := first | omega | rfl | assumption) only [k2, k1, (l1 k hk).2.1, q_cl, q_ps, q_pn, bI_t, bI_f, gI_same, gI_ne, gR_pI, gJ_pI, gV_pI, gN_pI, gC_pI, gS_pI, gI_pJ, gR_pJ, gV_pJ, gN_pJ, gJ_same, gJ_ne, gI_pR, gJ_pR, gV_pR, gN_pR, gR_same, gR_ne, zin_t, zin_f, x_ltt, x_ltf, x_let, x_lef, x_eqt, x_eqf, n_0, n_1, n_2, n_3, n_4, n_5, n_6, n_7, n_8, n_9, n_10, n_11, n_12, n_16, n_19, n_20, n_24, n_25, n_32, n_40, n_48, n_50, n_60, n_64, n_80, n_96, n_114, n_684, n_1000, n_9330, n_16806, n_1000000, n_5764800, ↓n_m, m_ltI, m_leI, m_lt', m_le', m_eq, m_eq', m_add, m_sub, mm_lt, mm_le, mm_eq, q_sub, nI_add, q_mul, nI_clamp, bz_0, bz_1, q_bzb, b_0, b_1, b_ft, b_tf, ne_eq, not_true_eq_false, not_false_eq_true, decide_true, decide_false, Bool.and_self, Bool.false_and, Bool.and_false, Bool.and_true, Bool.true_and, Bool.not_true, Bool.not_false, ↓reduceIte], by simp (disch := first | omega | rfl | assumption) only [k2, k1, (l1 k hk).2.2, q_cl, q_ps, q_pn, bI_t, bI_f, gI_same, gI_ne, gR_pI, gJ_pI, gV_pI, gN_pI, gC_pI, gS_pI, gI_pJ, gR_pJ, gV_pJ, gN_pJ, gJ_same, gJ_ne, gI_pR, gJ_pR, gV_pR, gN_pR, gR_same, gR_ne, zin_t, zin_f, x_ltt, x_ltf, x_let, x_lef, x_eqt, x_eqf, n_0, n_1, n_2, n_3, n_4, n_5, n_6, n_7, n_8, n_9, n_10, n_11, n_12, n_16, n_19, n_20, n_24, n_25, n_32, n_40, n_48, n_50, n_60, n_64, n_80, n_96, n_114, n_684, n_1000, n_9330, n_16806, n_1000000, n_5764800, ↓n_m, m_ltI, m_leI, m_lt', m_le', m_eq, m_eq', m_add, m_sub, mm_lt, mm_le, mm_eq, q_sub, nI_add, q_mul, nI_clamp, bz_0, bz_1, q_bzb, b_0, b_1, b_ft, b_tf, ne_eq, not_true_eq_false, not_false_eq_true, decide_true, decide_false, Bool.and_self, Bool.false_and, Bool.and_false, Bool.and_true, Bool.true_and, Bool.not_true, Bool.not_false, ↓reduceIte]⟩, l2, fun p hp => ⟨(l3 p hp).1, by simp (disch := first | omega | rfl | assumption) only [k2, k1, (l3 p hp).2.1, q_cl, q_ps, q_pn, bI_t, bI_f, gI_same, gI_ne, gR_pI, gJ_pI, gV_pI, gN_pI, gC_pI, gS_pI, gI_pJ, gR_pJ, gV_pJ, gN_pJ, gJ_same, gJ_ne, gI_pR, gJ_pR, gV_pR, gN_pR, gR_same, gR_ne, zin_t, zin_f, x_ltt, x_ltf, x_let, x_lef, x_eqt, x_eqf, n_0, n_1, n_2, n_3, n_4, n_5, n_6, n_7, n_8, n_9, n_10, n_11, n_12, n_16, n_19, n_20, n_24, n_25, n_32, n_40, n_48, n_50, n_60, n_64, n_80, n_96, n_114, n_684, n_1000, n_9330, n_16806, n_1000000, n_5764800, ↓n_m, m_ltI, m_leI, m_lt', m_le', m_eq, m_eq', m_add, m_sub, mm_lt, mm_le, mm_eq, q_sub, nI_add, q_mul, nI_clamp, bz_0, bz_1, q_bzb, b_0, b_1, b_ft, b_tf, ne_eq, not_true_eq_false, not_false_eq_true, decide_true, decide_false, Bool.and_self, Bool.false_and, Bool.and_false, Bool.and_true, Bool.true_and, Bool.not_true, Bool.not_false, ↓reduceIte], by simp (disch := first | omega | rfl | assumption) only [k2, k1, (l3 p hp).2.2, q_cl, q_ps, q_pn, bI_t, bI_f, gI_same, gI_ne, gR_pI, gJ_pI, gV_pI, gN_pI, gC_pI, gS_pI, gI_pJ, gR_pJ, gV_pJ, gN_pJ, gJ_same, gJ_ne, gI_pR, gJ_pR, gV_pR, gN_pR, gR_same, gR_ne, zin_t, zin_f, x_ltt, x_ltf, x_let, x_lef, x_eqt, x_eqf, n_0, n_1, n_2, n_3, n_4, n_5, n_6, n_7, n_8, n_9, n_10, n_11, n_12, n_16, n_19, n_20, n_24, n_25, n_32, n_40, n_48, n_50, n_60, n_64, n_80, n_96, n_114, n_684, n_1000, n_9330, n_16806, n_1000000, n_5764800, ↓n_m, m_ltI, m_leI, m_lt', m_le', m_eq, m_eq', m_add, m_sub, mm_lt, mm_le, mm_eq, q_sub, nI_add, q_mul, nI_clamp, bz_0, bz_1, q_bzb, b_0, b_1, b_ft, b_tf, ne_eq, not_true_eq_false, not_false_eq_true, decide_true, decide_false, Bool.and_self, Bool.false_and, Bool.and_false, Bool.and_true, Bool.true_and, Bool.not_true, Bool.not_false, ↓reduceIte]⟩, l4, by simp (disch := first | omega | rfl | assumption) only [k2, k1, l5, q_cl, q_ps, q_pn, bI_t, bI_f, gI_same, gI_ne, gR_pI, gJ_pI, gV_pI, gN_pI, gC_pI, gS_pI, gI_pJ, gR_pJ, gV_pJ, gN_pJ, gJ_same, gJ_ne, gI_pR, gJ_pR, gV_pR, gN_pR, gR_same, gR_ne, zin_t, zin_f, x_ltt, x_ltf, x_let, x_lef, x_eqt, x_eqf, n_0, n_1, n_2, n_3, n_4, n_5, n_6, n_7, n_8, n_9, n_10, n_11, n_12, n_16, n_19, n_20, n_24, n_25, n_32, n_40, n_48, n_50, n_60, n_64, n_80, n_96, n_114, n_684, n_1000, n_9330, n_16806, n_1000000, n_5764800, ↓n_m, m_ltI, m_leI, m_lt', m_le', m_eq, m_eq', m_add, m_sub, mm_lt, mm_le, mm_eq, q_sub, nI_add, q_mul, nI_clamp, bz_0, bz_1, q_bzb, b_0, b_1, b_ft, b_tf, ne_eq, not_true_eq_false, not_false_eq_true, decide_true, decide_false, Bool.and_self, Bool.false_and, Bool.and_false, Bool.and_true, Bool.true_and, Bool.not_true, Bool.not_false, ↓reduceIte], by simp (disch := first | omega | rfl | assumption) only [k2, k1, l6, q_cl, q_ps, q_pn, bI_t, bI_f, gI_same, gI_ne, gR_pI, gJ_pI, gV_pI, gN_pI, gC_pI, gS_pI, gI_pJ, gR_pJ, gV_pJ, gN_pJ, gJ_same, gJ_ne, gI_pR, gJ_pR, gV_pR, gN_pR, gR_same, gR_ne, zin_t, zin_f, x_ltt, x_ltf, x_let, x_lef, x_eqt, x_eqf, n_0, n_1, n_2, n_3, n_4, n_5, n_6, n_7, n_8, n_9, n_10, n_11, n_12, n_16, n_19, n_20, n_24, n_25, n_32, n_40, n_48, n_50, n_60, n_64, n_80, n_96, n_114, n_684, n_1000, n_9330, n_16806, n_1000000, n_5764800, ↓n_m, m_ltI, m_leI, m_lt', m_le', m_eq, m_eq', m_add, m_sub, mm_lt, mm_le, mm_eq, q_sub, nI_add, q_mul, nI_clamp, bz_0, bz_1, q_bzb, b_0, b_1, b_ft, b_tf, ne_eq, not_true_eq_false, not_false_eq_true, decide_true, decide_false, Bool.and_self, Bool.false_and, Bool.and_false, Bool.and_true, Bool.true_and, Bool.not_true, Bool.not_false, ↓reduceIte], fun k hk => ?_, Or.inr ⟨by simp (disch := first | omega | rfl | assumption) only [k2, k1, q_cl, q_ps, q_pn, bI_t, bI_f, gI_same, gI_ne, gR_pI, gJ_pI, gV_pI, gN_pI, gC_pI, gS_pI, gI_pJ, gR_pJ, gV_pJ, gN_pJ, gJ_same, gJ_ne, gI_pR, gJ_pR, gV_pR, gN_pR, gR_same, gR_ne, zin_t, zin_f, x_ltt, x_ltf, x_let, x_lef, x_eqt, x_eqf, n_0, n_1, n_2, n_3, n_4, n_5, n_6, n_7, n_8, n_9, n_10, n_11, n_12, n_16, n_19, n_20, n_24, n_25, n_32, n_40, n_48, n_50, n_60, n_64, n_80, n_96, n_114, n_684, n_1000, n_9330, n_16806, n_1000000, n_5764800, ↓n_m, m_ltI, m_leI, m_lt', m_le', m_eq, m_eq', m_add, m_sub, mm_lt, mm_le, mm_eq, q_sub, nI_add, q_mul, nI_clamp, bz_0, bz_1, q_bzb, b_0, b_1, b_ft, b_tf, ne_eq, not_true_eq_false, not_false_eq_true, decide_true, decide_false, Bool.and_self, Bool.false_and, Bool.and_false, Bool.and_true, Bool.true_and, Bool.not_true, Bool.not_false, ↓reduceIte], fun k hk p hp => q2 k (Nat.zero_le _) hk p hp⟩⟩
      obtain ⟨t1, t2, t3, t4, t5, t6, t7, t8, t9⟩ := l7 k hk
      exact ⟨t1, t2, t3, (F.2.1 _ _ _ (by exact (by decide : (8 : Nat) ∉ [9]))).trans t4, by simp (disch := first | omega | rfl | assumption) only [k2, k1, t5, q_cl, q_ps, q_pn, bI_t, bI_f, gI_same, gI_ne, gR_pI, gJ_pI, gV_pI, gN_pI, gC_pI, gS_pI, gI_pJ, gR_pJ, gV_pJ, gN_pJ, gJ_same, gJ_ne, gI_pR, gJ_pR, gV_pR, gN_pR, gR_same, gR_ne, zin_t, zin_f, x_ltt, x_ltf, x_let, x_lef, x_eqt, x_eqf, n_0, n_1, n_2, n_3, n_4, n_5, n_6, n_7, n_8, n_9, n_10, n_11, n_12, n_16, n_19, n_20, n_24, n_25, n_32, n_40, n_48, n_50, n_60, n_64, n_80, n_96, n_114, n_684, n_1000, n_9330, n_16806, n_1000000, n_5764800, ↓n_m, m_ltI, m_leI, m_lt', m_le', m_eq, m_eq', m_add, m_sub, mm_lt, mm_le, mm_eq, q_sub, nI_add, q_mul, nI_clamp, bz_0, bz_1, q_bzb, b_0, b_1, b_ft, b_tf, ne_eq, not_true_eq_false, not_false_eq_true, decide_true, decide_false, Bool.and_self, Bool.false_and, Bool.and_false, Bool.and_true, Bool.true_and, Bool.not_true, Bool.not_false, ↓reduceIte], by simp (disch := first | omega | rfl | assumption) only [k2, k1, t6, q_cl, q_ps, q_pn, bI_t, bI_f, gI_same, gI_ne, gR_pI, gJ_pI, gV_pI, gN_pI, gC_pI, gS_pI, gI_pJ, gR_pJ, gV_pJ, gN_pJ, gJ_same, gJ_ne, gI_pR, gJ_pR, gV_pR, gN_pR, gR_same, gR_ne, zin_t, zin_f, x_ltt, x_ltf, x_let, x_lef, x_eqt, x_eqf, n_0, n_1, n_2, n_3, n_4, n_5, n_6, n_7, n_8, n_9, n_10, n_11, n_12, n_16, n_19, n_20, n_24, n_25, n_32, n_40, n_48, n_50, n_60, n_64, n_80, n_96, n_114, n_684, n_1000, n_9330, n_16806, n_1000000, n_5764800, ↓n_m, m_ltI, m_leI, m_lt', m_le', m_eq, m_eq', m_add, m_sub, mm_lt, mm_le, mm_eq, q_sub, nI_add, q_mul, nI_clamp, bz_0, bz_1, q_bzb, b_0, b_1, b_ft, b_tf, ne_eq, not_true_eq_false, not_false_eq_true, decide_true, decide_false, Bool.and_self, Bool.false_and, Bool.and_false, Bool.and_true, Bool.true_and, Bool.not_true, Bool.not_false, ↓reduceIte], by simp (disch := first | omega | rfl | assumption) only [k2, k1, t7, q_cl, q_ps, q_pn, bI_t, bI_f, gI_same, gI_ne, gR_pI, gJ_pI, gV_pI, gN_pI, gC_pI, gS_pI, gI_pJ, gR_pJ, gV_pJ, gN_pJ, gJ_same, gJ_ne, gI_pR, gJ_pR, gV_pR, gN_pR, gR_same, gR_ne, zin_t, zin_f, x_ltt, x_ltf, x_let, x_lef, x_eqt, x_eqf, n_0, n_1, n_2, n_3, n_4, n_5, n_6, n_7, n_8, n_9, n_10, n_11, n_12, n_16, n_19, n_20, n_24, n_25, n_32, n_40, n_48, n_50, n_60, n_64, n_80, n_96, n_114, n_684, n_1000, n_9330, n_16806, n_1000000, n_5764800, ↓n_m, m_ltI, m_leI, m_lt', m_le', m_eq, m_eq', m_add, m_sub, mm_lt, mm_le, mm_eq, q_sub, nI_add, q_mul, nI_clamp, bz_0, bz_1, q_bzb, b_0, b_1, b_ft, b_tf, ne_eq, not_true_eq_false, not_false_eq_true, decide_true, decide_false, Bool.and_self, Bool.false_and, Bool.and_false, Bool.and_true, Bool.true_and, Bool.not_true, Bool.not_false, ↓reduceIte], by simp (disch := first | omega | rfl | assumption) only [k2, k1, t8, q_cl, q_ps, q_pn, bI_t, bI_f, gI_same, gI_ne, gR_pI, gJ_pI, gV_pI, gN_pI, gC_pI, gS_pI, gI_pJ, gR_pJ, gV_pJ, gN_pJ, gJ_same, gJ_ne, gI_pR, gJ_pR, gV_pR, gN_pR, gR_same, gR_ne, zin_t, zin_f, x_ltt, x_ltf, x_let, x_lef, x_eqt, x_eqf, n_0, n_1, n_2, n_3, n_4, n_5, n_6, n_7, n_8, n_9, n_10, n_11, n_12, n_16, n_19, n_20, n_24, n_25, n_32, n_40, n_48, n_50, n_60, n_64, n_80, n_96, n_114, n_684, n_1000, n_9330, n_16806, n_1000000, n_5764800, ↓n_m, m_ltI, m_leI, m_lt', m_le', m_eq, m_eq', m_add, m_sub, mm_lt, mm_le, mm_eq, q_sub, nI_add, q_mul, nI_clamp, bz_0, bz_1, q_bzb, b_0, b_1, b_ft, b_tf, ne_eq, not_true_eq_false, not_false_eq_true, decide_true, decide_false, Bool.and_self, Bool.false_and, Bool.and_false, Bool.and_true, Bool.true_and, Bool.not_true, Bool.not_false, ↓reduceIte], by simp (disch := first | omega | rfl | assumption) only [k2, k1, t9, q_cl, q_ps, q_pn, bI_t, bI_f, gI_same, gI_ne, gR_pI, gJ_pI, gV_pI, gN_pI, gC_pI, gS_pI, gI_pJ, gR_pJ, gV_pJ, gN_pJ, gJ_same, gJ_ne, gI_pR, gJ_pR, gV_pR, gN_pR, gR_same, gR_ne, zin_t, zin_f, x_ltt, x_ltf, x_let, x_lef, x_eqt, x_eqf, n_0, n_1, n_2, n_3, n_4, n_5, n_6, n_7, n_8, n_9, n_10, n_11, n_12, n_16, n_19, n_20, n_24, n_25, n_32, n_40, n_48, n_50, n_60, n_64, n_80, n_96, n_114, n_684, n_1000, n_9330, n_16806, n_1000000, n_5764800, ↓n_m, m_ltI, m_leI, m_lt', m_le', m_eq, m_eq', m_add, m_sub, mm_lt, mm_le, mm_eq, q_sub, nI_add, q_mul, nI_clamp, bz_0, bz_1, q_bzb, b_0, b_1, b_ft, b_tf, ne_eq, not_true_eq_false, not_false_eq_true, decide_true, decide_false, Bool.and_self, Bool.false_and, Bool.and_false, Bool.and_true, Bool.true_and, Bool.not_true, Bool.not_false, ↓reduceIte]⟩
    refine ⟨h2, ?_, Inv_land hG (frX_mono (by decide) F) ⟨rd, sh, n, wl, wp, wy, hL2⟩, hL2, fun k hk p hp => q2 k (Nat.zero_le _) hk p hp, F⟩
    rw [rX3_spread, bX3_spread_0]
    simp (disch := first | omega | rfl | assumption) only [z', bX3_spread_8, c.1 11030 2 rfl, e1, bX3_spread_21, q_cl, q_ps, q_pn, bI_t, bI_f, gI_same, gI_ne, gR_pI, gJ_pI, gV_pI, gN_pI, gC_pI, gS_pI, gI_pJ, gR_pJ, gV_pJ, gN_pJ, gJ_same, gJ_ne, gI_pR, gJ_pR, gV_pR, gN_pR, gR_same, gR_ne, zin_t, zin_f, x_ltt, x_ltf, x_let, x_lef, x_eqt, x_eqf, n_0, n_1, n_2, n_3, n_4, n_5, n_6, n_7, n_8, n_9, n_10, n_11, n_12, n_16, n_19, n_20, n_24, n_25, n_32, n_40, n_48, n_50, n_60, n_64, n_80, n_96, n_114, n_684, n_1000, n_9330, n_16806, n_1000000, n_5764800, ↓n_m, m_ltI, m_leI, m_lt', m_le', m_eq, m_eq', m_add, m_sub, mm_lt, mm_le, mm_eq, q_sub, nI_add, q_mul, nI_clamp, bz_0, bz_1, q_bzb, b_0, b_1, b_ft, b_tf, ne_eq, not_true_eq_false, not_false_eq_true, decide_true, decide_false, Bool.and_self, Bool.false_and, Bool.and_false, Bool.and_true, Bool.true_and, Bool.not_true, Bool.not_false, ↓reduceIte]
    exact q1
  · refine ⟨h, ?_, hG, hL', z2, frX_rfl _ _⟩
    rw [rX3_spread, bX3_spread_0, if_neg (by rw [z1]; decide)]
