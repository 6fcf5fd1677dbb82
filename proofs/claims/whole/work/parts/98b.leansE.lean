/-! ===== leans: matches that sway ===== -/
/-- what is known of all matches, and a stem without the law, in the class -/
def cWa (h : z_H) (G : Gh) (nM : Nat) (K : Nat → Nat → Option (List Nat)) : Prop := nM ≤ 10 ∧ ∀ m, m < nM → ∀ t, t < 8 → okO (K m t) ∧ gI h 80171 0 (8 * m + t) = rowO (K m t)
theorem c_sw_step (d : Nat) {G : Gh} {nM j s m t : Nat} {K : Nat → Nat → Option (List Nat)} {h : z_H} (ct : cT h G) (hf : frh h G) (hK : cWa h G nM K) (hw : ∀ u, u < gnT G → gI h 8161 0 u = nI (rowN (wrt G (j + 1) u (stW s)))) (hs : s < 9330) (hm : m < nM) (ht : t < gnT G) (x2 x3 x4 : Int32) (is wo : Bool) (u9 : z_V) (hor : (is || wo) = true) :
    ∃ v9, EX (d + 1) 32 30 [z_R 9010 0, z_I (nI s), z_I x2, z_I x3, z_I x4, z_I (nI m), z_I (bI is), z_I (bI wo), z_I (nI t), u9] [] h = EX (d + 1) 32 30 [z_R 9010 0, z_I (nI s), z_I x2, z_I x3, z_I x4, z_I (nI m), z_I (bI (is && (decide (K m t = none) || decide (K m t = some (wrt G 0 t (stW s)))))), z_I (bI (wo && (decide (K m t = none) || decide (K m t = some (wrt G (j + 1) t (stW s)))))), z_I (nI (t + 1)), z_I v9] [] h := by
  have hsW : isW (stW s) := st_isW (by omega)
  obtain ⟨okg, c, v1, w1, w5, a1, t6⟩ := ct
  obtain ⟨b1, -⟩ := t6 t ht
  have a3 := okg.2.2.2.1
  have h10 := hK.1
  obtain ⟨f1, f2⟩ := hf.2 t ht
  have ok0 := frm_ok okg 0 t (stW s) ht hsW
  have okw0 := wrt_ok okg 0 ht hsW
  have okw1 := wrt_ok okg (j + 1) ht hsW
  obtain ⟨ko, ke⟩ := hK.2 m hm t (by omega)
  have hmt : m * 8 + t = 8 * m + t := by omega
  have ew := c_writtenAt d f1 hs (f2 s hs) ok0 okw0
  have em := hw t ht
  have r0 := rowN_lt' okw0
  have r1 := rowN_lt' okw1
  have to49 : EX (d + 1) 32 30 [z_R 9010 0, z_I (nI s), z_I x2, z_I x3, z_I x4, z_I (nI m), z_I (bI is), z_I (bI wo), z_I (nI t), u9] [] h = EX (d + 1) 32 49 [z_R 9010 0, z_I (nI s), z_I x2, z_I x3, z_I x4, z_I (nI m), z_I (bI is), z_I (bI wo), z_I (nI t), u9] [] h := by
    rw [bX1_swayedIn_30]
    cases is with
    | true => simp (disch := first | omega | rfl | assumption) only [a1, q_cl, q_ps, q_pn, bI_t, bI_f, gI_same, gI_ne, gR_pI, gJ_pI, gV_pI, gN_pI, gC_pI, gS_pI, gI_pJ, gR_pJ, gV_pJ, gN_pJ, gJ_same, gJ_ne, gI_pR, gJ_pR, gV_pR, gN_pR, gR_same, gR_ne, zin_t, zin_f, x_ltt, x_ltf, x_let, x_lef, x_eqt, x_eqf, n_0, n_1, n_2, n_3, n_4, n_5, n_6, n_7, n_8, n_9, n_10, n_11, n_12, n_16, n_19, n_20, n_24, n_25, n_32, n_40, n_48, n_50, n_60, n_64, n_80, n_96, n_114, n_684, n_1000, n_9330, n_16806, n_1000000, n_5764800, ↓n_m, m_ltI, m_leI, m_lt', m_le', m_eq, m_eq', m_add, m_sub, mm_lt, mm_le, mm_eq, q_sub, nI_add, q_mul, nI_clamp, bz_0, bz_1, q_bzb, b_0, b_1, b_ft, b_tf, ne_eq, not_true_eq_false, not_false_eq_true, decide_true, decide_false, Bool.and_self, Bool.false_and, Bool.and_false, Bool.and_true, Bool.true_and, Bool.not_true, Bool.not_false, ↓reduceIte]
    | false =>
      rw [Bool.false_or] at hor
      simp (disch := first | omega | rfl | assumption) only [a1, hor, q_cl, q_ps, q_pn, bI_t, bI_f, gI_same, gI_ne, gR_pI, gJ_pI, gV_pI, gN_pI, gC_pI, gS_pI, gI_pJ, gR_pJ, gV_pJ, gN_pJ, gJ_same, gJ_ne, gI_pR, gJ_pR, gV_pR, gN_pR, gR_same, gR_ne, zin_t, zin_f, x_ltt, x_ltf, x_let, x_lef, x_eqt, x_eqf, n_0, n_1, n_2, n_3, n_4, n_5, n_6, n_7, n_8, n_9, n_10, n_11, n_12, n_16, n_19, n_20, n_24, n_25, n_32, n_40, n_48, n_50, n_60, n_64, n_80, n_96, n_114, n_684, n_1000, n_9330, n_16806, n_1000000, n_5764800, ↓n_m, m_ltI, m_leI, m_lt', m_le', m_eq, m_eq', m_add, m_sub, mm_lt, mm_le, mm_eq, q_sub, nI_add, q_mul, nI_clamp, bz_0, bz_1, q_bzb, b_0, b_1, b_ft, b_tf, ne_eq, not_true_eq_false, not_false_eq_true, decide_true, decide_false, Bool.and_self, Bool.false_and, Bool.and_false, Bool.and_true, Bool.true_and, Bool.not_true, Bool.not_false, ↓reduceIte]
  have to96 : EX (d + 1) 32 49 [z_R 9010 0, z_I (nI s), z_I x2, z_I x3, z_I x4, z_I (nI m), z_I (bI is), z_I (bI wo), z_I (nI t), u9] [] h = EX (d + 1) 32 96 [z_R 9010 0, z_I (nI s), z_I x2, z_I x3, z_I x4, z_I (nI m), z_I (bI is), z_I (bI wo), z_I (nI t), z_I (rowO (K m t))] [z_I (bI (is && (decide (K m t = none) || decide (K m t = some (wrt G 0 t (stW s))))))] h := by
    rw [bX1_swayedIn_49]
    cases is with
    | false => simp (disch := first | omega | rfl | assumption) only [c.1 9010 8 rfl, hmt, ke, bX1_swayedIn_95, q_cl, q_ps, q_pn, bI_t, bI_f, gI_same, gI_ne, gR_pI, gJ_pI, gV_pI, gN_pI, gC_pI, gS_pI, gI_pJ, gR_pJ, gV_pJ, gN_pJ, gJ_same, gJ_ne, gI_pR, gJ_pR, gV_pR, gN_pR, gR_same, gR_ne, zin_t, zin_f, x_ltt, x_ltf, x_let, x_lef, x_eqt, x_eqf, n_0, n_1, n_2, n_3, n_4, n_5, n_6, n_7, n_8, n_9, n_10, n_11, n_12, n_16, n_19, n_20, n_24, n_25, n_32, n_40, n_48, n_50, n_60, n_64, n_80, n_96, n_114, n_684, n_1000, n_9330, n_16806, n_1000000, n_5764800, ↓n_m, m_ltI, m_leI, m_lt', m_le', m_eq, m_eq', m_add, m_sub, mm_lt, mm_le, mm_eq, q_sub, nI_add, q_mul, nI_clamp, bz_0, bz_1, q_bzb, b_0, b_1, b_ft, b_tf, ne_eq, not_true_eq_false, not_false_eq_true, decide_true, decide_false, Bool.and_self, Bool.false_and, Bool.and_false, Bool.and_true, Bool.true_and, Bool.not_true, Bool.not_false, ↓reduceIte]
    | true =>
      rcases row_eq ko okw0 with ⟨o1, o2⟩ | ⟨v, o1, o2, o3, o4⟩
      · rw [o2] at ke ⊢
        rw [decide_eq_true o1, Bool.true_or]
        simp (disch := first | omega | rfl | assumption) only [c.1 9010 8 rfl, hmt, ke, bX1_swayedIn_91, q_cl, q_ps, q_pn, bI_t, bI_f, gI_same, gI_ne, gR_pI, gJ_pI, gV_pI, gN_pI, gC_pI, gS_pI, gI_pJ, gR_pJ, gV_pJ, gN_pJ, gJ_same, gJ_ne, gI_pR, gJ_pR, gV_pR, gN_pR, gR_same, gR_ne, zin_t, zin_f, x_ltt, x_ltf, x_let, x_lef, x_eqt, x_eqf, n_0, n_1, n_2, n_3, n_4, n_5, n_6, n_7, n_8, n_9, n_10, n_11, n_12, n_16, n_19, n_20, n_24, n_25, n_32, n_40, n_48, n_50, n_60, n_64, n_80, n_96, n_114, n_684, n_1000, n_9330, n_16806, n_1000000, n_5764800, ↓n_m, m_ltI, m_leI, m_lt', m_le', m_eq, m_eq', m_add, m_sub, mm_lt, mm_le, mm_eq, q_sub, nI_add, q_mul, nI_clamp, bz_0, bz_1, q_bzb, b_0, b_1, b_ft, b_tf, ne_eq, not_true_eq_false, not_false_eq_true, decide_true, decide_false, Bool.and_self, Bool.false_and, Bool.and_false, Bool.and_true, Bool.true_and, Bool.not_true, Bool.not_false, ↓reduceIte]
      · have hn : ¬ K m t = none := fun z => by rw [o1] at z; cases z
        rw [o2] at ke ⊢
        rw [decide_eq_false hn, Bool.false_or]
        by_cases hq : rowN v = rowN (wrt G 0 t (stW s))
        · rw [decide_eq_true (o4.mp hq)]
          simp (disch := first | omega | rfl | assumption) only [c.1 9010 8 rfl, hmt, ke, c.1 9010 0 rfl, b1, ew, bX1_swayedIn_88, bX1_swayedIn_91, q_cl, q_ps, q_pn, bI_t, bI_f, gI_same, gI_ne, gR_pI, gJ_pI, gV_pI, gN_pI, gC_pI, gS_pI, gI_pJ, gR_pJ, gV_pJ, gN_pJ, gJ_same, gJ_ne, gI_pR, gJ_pR, gV_pR, gN_pR, gR_same, gR_ne, zin_t, zin_f, x_ltt, x_ltf, x_let, x_lef, x_eqt, x_eqf, n_0, n_1, n_2, n_3, n_4, n_5, n_6, n_7, n_8, n_9, n_10, n_11, n_12, n_16, n_19, n_20, n_24, n_25, n_32, n_40, n_48, n_50, n_60, n_64, n_80, n_96, n_114, n_684, n_1000, n_9330, n_16806, n_1000000, n_5764800, ↓n_m, m_ltI, m_leI, m_lt', m_le', m_eq, m_eq', m_add, m_sub, mm_lt, mm_le, mm_eq, q_sub, nI_add, q_mul, nI_clamp, bz_0, bz_1, q_bzb, b_0, b_1, b_ft, b_tf, ne_eq, not_true_eq_false, not_false_eq_true, decide_true, decide_false, Bool.and_self, Bool.false_and, Bool.and_false, Bool.and_true, Bool.true_and, Bool.not_true, Bool.not_false, ↓reduceIte]
        · rw [decide_eq_false (fun z => hq (o4.mpr z))]
          simp (disch := first | omega | rfl | assumption) only [c.1 9010 8 rfl, hmt, ke, c.1 9010 0 rfl, b1, ew, bX1_swayedIn_88, bX1_swayedIn_95, q_cl, q_ps, q_pn, bI_t, bI_f, gI_same, gI_ne, gR_pI, gJ_pI, gV_pI, gN_pI, gC_pI, gS_pI, gI_pJ, gR_pJ, gV_pJ, gN_pJ, gJ_same, gJ_ne, gI_pR, gJ_pR, gV_pR, gN_pR, gR_same, gR_ne, zin_t, zin_f, x_ltt, x_ltf, x_let, x_lef, x_eqt, x_eqf, n_0, n_1, n_2, n_3, n_4, n_5, n_6, n_7, n_8, n_9, n_10, n_11, n_12, n_16, n_19, n_20, n_24, n_25, n_32, n_40, n_48, n_50, n_60, n_64, n_80, n_96, n_114, n_684, n_1000, n_9330, n_16806, n_1000000, n_5764800, ↓n_m, m_ltI, m_leI, m_lt', m_le', m_eq, m_eq', m_add, m_sub, mm_lt, mm_le, mm_eq, q_sub, nI_add, q_mul, nI_clamp, bz_0, bz_1, q_bzb, b_0, b_1, b_ft, b_tf, ne_eq, not_true_eq_false, not_false_eq_true, decide_true, decide_false, Bool.and_self, Bool.false_and, Bool.and_false, Bool.and_true, Bool.true_and, Bool.not_true, Bool.not_false, ↓reduceIte]
  refine ⟨rowO (K m t), ?_⟩
  rw [to49, to96]
  generalize (is && (decide (K m t = none) || decide (K m t = some (wrt G 0 t (stW s))))) = is'
  rw [bX1_swayedIn_96]
  cases wo with
  | false => simp (disch := first | omega | rfl | assumption) only [bX1_swayedIn_125, bX1_swayedIn_126, q_cl, q_ps, q_pn, bI_t, bI_f, gI_same, gI_ne, gR_pI, gJ_pI, gV_pI, gN_pI, gC_pI, gS_pI, gI_pJ, gR_pJ, gV_pJ, gN_pJ, gJ_same, gJ_ne, gI_pR, gJ_pR, gV_pR, gN_pR, gR_same, gR_ne, zin_t, zin_f, x_ltt, x_ltf, x_let, x_lef, x_eqt, x_eqf, n_0, n_1, n_2, n_3, n_4, n_5, n_6, n_7, n_8, n_9, n_10, n_11, n_12, n_16, n_19, n_20, n_24, n_25, n_32, n_40, n_48, n_50, n_60, n_64, n_80, n_96, n_114, n_684, n_1000, n_9330, n_16806, n_1000000, n_5764800, ↓n_m, m_ltI, m_leI, m_lt', m_le', m_eq, m_eq', m_add, m_sub, mm_lt, mm_le, mm_eq, q_sub, nI_add, q_mul, nI_clamp, bz_0, bz_1, q_bzb, b_0, b_1, b_ft, b_tf, ne_eq, not_true_eq_false, not_false_eq_true, decide_true, decide_false, Bool.and_self, Bool.false_and, Bool.and_false, Bool.and_true, Bool.true_and, Bool.not_true, Bool.not_false, ↓reduceIte]
  | true =>
    rcases row_eq ko okw1 with ⟨o1, o2⟩ | ⟨v, o1, o2, o3, o4⟩
    · rw [o2]
      rw [decide_eq_true o1, Bool.true_or]
      simp (disch := first | omega | rfl | assumption) only [bX1_swayedIn_121, bX1_swayedIn_126, q_cl, q_ps, q_pn, bI_t, bI_f, gI_same, gI_ne, gR_pI, gJ_pI, gV_pI, gN_pI, gC_pI, gS_pI, gI_pJ, gR_pJ, gV_pJ, gN_pJ, gJ_same, gJ_ne, gI_pR, gJ_pR, gV_pR, gN_pR, gR_same, gR_ne, zin_t, zin_f, x_ltt, x_ltf, x_let, x_lef, x_eqt, x_eqf, n_0, n_1, n_2, n_3, n_4, n_5, n_6, n_7, n_8, n_9, n_10, n_11, n_12, n_16, n_19, n_20, n_24, n_25, n_32, n_40, n_48, n_50, n_60, n_64, n_80, n_96, n_114, n_684, n_1000, n_9330, n_16806, n_1000000, n_5764800, ↓n_m, m_ltI, m_leI, m_lt', m_le', m_eq, m_eq', m_add, m_sub, mm_lt, mm_le, mm_eq, q_sub, nI_add, q_mul, nI_clamp, bz_0, bz_1, q_bzb, b_0, b_1, b_ft, b_tf, ne_eq, not_true_eq_false, not_false_eq_true, decide_true, decide_false, Bool.and_self, Bool.false_and, Bool.and_false, Bool.and_true, Bool.true_and, Bool.not_true, Bool.not_false, ↓reduceIte]
    · have hn : ¬ K m t = none := fun z => by rw [o1] at z; cases z
      rw [o2]
      rw [decide_eq_false hn, Bool.false_or]
      by_cases hq : rowN v = rowN (wrt G (j + 1) t (stW s))
      · rw [decide_eq_true (o4.mp hq)]
        simp (disch := first | omega | rfl | assumption) only [c.1 9010 7 rfl, em, bX1_swayedIn_121, bX1_swayedIn_126, q_cl, q_ps, q_pn, bI_t, bI_f, gI_same, gI_ne, gR_pI, gJ_pI, gV_pI, gN_pI, gC_pI, gS_pI, gI_pJ, gR_pJ, gV_pJ, gN_pJ, gJ_same, gJ_ne, gI_pR, gJ_pR, gV_pR, gN_pR, gR_same, gR_ne, zin_t, zin_f, x_ltt, x_ltf, x_let, x_lef, x_eqt, x_eqf, n_0, n_1, n_2, n_3, n_4, n_5, n_6, n_7, n_8, n_9, n_10, n_11, n_12, n_16, n_19, n_20, n_24, n_25, n_32, n_40, n_48, n_50, n_60, n_64, n_80, n_96, n_114, n_684, n_1000, n_9330, n_16806, n_1000000, n_5764800, ↓n_m, m_ltI, m_leI, m_lt', m_le', m_eq, m_eq', m_add, m_sub, mm_lt, mm_le, mm_eq, q_sub, nI_add, q_mul, nI_clamp, bz_0, bz_1, q_bzb, b_0, b_1, b_ft, b_tf, ne_eq, not_true_eq_false, not_false_eq_true, decide_true, decide_false, Bool.and_self, Bool.false_and, Bool.and_false, Bool.and_true, Bool.true_and, Bool.not_true, Bool.not_false, ↓reduceIte]
      · rw [decide_eq_false (fun z => hq (o4.mpr z))]
        simp (disch := first | omega | rfl | assumption) only [c.1 9010 7 rfl, em, bX1_swayedIn_125, bX1_swayedIn_126, q_cl, q_ps, q_pn, bI_t, bI_f, gI_same, gI_ne, gR_pI, gJ_pI, gV_pI, gN_pI, gC_pI, gS_pI, gI_pJ, gR_pJ, gV_pJ, gN_pJ, gJ_same, gJ_ne, gI_pR, gJ_pR, gV_pR, gN_pR, gR_same, gR_ne, zin_t, zin_f, x_ltt, x_ltf, x_let, x_lef, x_eqt, x_eqf, n_0, n_1, n_2, n_3, n_4, n_5, n_6, n_7, n_8, n_9, n_10, n_11, n_12, n_16, n_19, n_20, n_24, n_25, n_32, n_40, n_48, n_50, n_60, n_64, n_80, n_96, n_114, n_684, n_1000, n_9330, n_16806, n_1000000, n_5764800, ↓n_m, m_ltI, m_leI, m_lt', m_le', m_eq, m_eq', m_add, m_sub, mm_lt, mm_le, mm_eq, q_sub, nI_add, q_mul, nI_clamp, bz_0, bz_1, q_bzb, b_0, b_1, b_ft, b_tf, ne_eq, not_true_eq_false, not_false_eq_true, decide_true, decide_false, Bool.and_self, Bool.false_and, Bool.and_false, Bool.and_true, Bool.true_and, Bool.not_true, Bool.not_false, ↓reduceIte]
theorem mo_stay {G : Gh} {mu : Nat} {want : Nat → Option (List Nat)} {s t : Nat} (h : moB G mu want s t = false) : ∀ r, moB G mu want s (t + r) = false := by
  intro r
  induction r with
  | zero => exact h
  | succ r ih => show (moB G mu want s (t + r) && _) = false; rw [ih, Bool.false_and]
theorem c_sw_in (d : Nat) {G : Gh} {nM j s m : Nat} {K : Nat → Nat → Option (List Nat)} {h : z_H} (ct : cT h G) (hf : frh h G) (hK : cWa h G nM K) (hw : ∀ u, u < gnT G → gI h 8161 0 u = nI (rowN (wrt G (j + 1) u (stW s)))) (hs : s < 9330) (hm : m < nM) (x2 x3 x4 : Int32) : ∀ (r t : Nat) (u9 : z_V), t + r = gnT G →
    ∃ x8 v9, EX (d + 1) 32 30 [z_R 9010 0, z_I (nI s), z_I x2, z_I x3, z_I x4, z_I (nI m), z_I (bI (moB G 0 (K m) s t)), z_I (bI (moB G (j + 1) (K m) s t)), z_I (nI t), u9] [] h = EX (d + 1) 32 134 [z_R 9010 0, z_I (nI s), z_I x2, z_I x3, z_I x4, z_I (nI m), z_I (bI (moB G 0 (K m) s (gnT G))), z_I (bI (moB G (j + 1) (K m) s (gnT G))), z_I x8, v9] [] h := by
  have a1 := ct.2.2.2.2.2.1
  have a3 := ct.1.2.2.2.1
  intro r
  induction r with
  | zero =>
    intro t u9 ht
    have : t = gnT G := by omega
    subst this
    refine ⟨nI (gnT G), u9, ?_⟩
    rw [bX1_swayedIn_30]
    simp (disch := first | omega | rfl | assumption) only [a1, q_cl, q_ps, q_pn, bI_t, bI_f, gI_same, gI_ne, gR_pI, gJ_pI, gV_pI, gN_pI, gC_pI, gS_pI, gI_pJ, gR_pJ, gV_pJ, gN_pJ, gJ_same, gJ_ne, gI_pR, gJ_pR, gV_pR, gN_pR, gR_same, gR_ne, zin_t, zin_f, x_ltt, x_ltf, x_let, x_lef, x_eqt, x_eqf, n_0, n_1, n_2, n_3, n_4, n_5, n_6, n_7, n_8, n_9, n_10, n_11, n_12, n_16, n_19, n_20, n_24, n_25, n_32, n_40, n_48, n_50, n_60, n_64, n_80, n_96, n_114, n_684, n_1000, n_9330, n_16806, n_1000000, n_5764800, ↓n_m, m_ltI, m_leI, m_lt', m_le', m_eq, m_eq', m_add, m_sub, mm_lt, mm_le, mm_eq, q_sub, nI_add, q_mul, nI_clamp, bz_0, bz_1, q_bzb, b_0, b_1, b_ft, b_tf, ne_eq, not_true_eq_false, not_false_eq_true, decide_true, decide_false, Bool.and_self, Bool.false_and, Bool.and_false, Bool.and_true, Bool.true_and, Bool.not_true, Bool.not_false, ↓reduceIte]
  | succ r ih =>
    intro t u9 ht
    cases hor : (moB G 0 (K m) s t || moB G (j + 1) (K m) s t) with
    | true =>
      obtain ⟨v9, e1⟩ := c_sw_step d ct hf hK hw hs hm (show t < gnT G by omega) x2 x3 x4 _ _ u9 hor
      obtain ⟨x8, w9, q⟩ := ih (t + 1) (z_I v9) (by omega)
      exact ⟨x8, w9, e1.trans q⟩
    | false =>
      rw [Bool.or_eq_false_iff] at hor
      have z1 := mo_stay hor.1 (gnT G - t)
      have z2 := mo_stay hor.2 (gnT G - t)
      rw [show t + (gnT G - t) = gnT G by omega] at z1 z2
      refine ⟨nI t, u9, ?_⟩
      rw [hor.1, hor.2, z1, z2, bX1_swayedIn_30]
      simp (disch := first | omega | rfl | assumption) only [a1, q_cl, q_ps, q_pn, bI_t, bI_f, gI_same, gI_ne, gR_pI, gJ_pI, gV_pI, gN_pI, gC_pI, gS_pI, gI_pJ, gR_pJ, gV_pJ, gN_pJ, gJ_same, gJ_ne, gI_pR, gJ_pR, gV_pR, gN_pR, gR_same, gR_ne, zin_t, zin_f, x_ltt, x_ltf, x_let, x_lef, x_eqt, x_eqf, n_0, n_1, n_2, n_3, n_4, n_5, n_6, n_7, n_8, n_9, n_10, n_11, n_12, n_16, n_19, n_20, n_24, n_25, n_32, n_40, n_48, n_50, n_60, n_64, n_80, n_96, n_114, n_684, n_1000, n_9330, n_16806, n_1000000, n_5764800, ↓n_m, m_ltI, m_leI, m_lt', m_le', m_eq, m_eq', m_add, m_sub, mm_lt, mm_le, mm_eq, q_sub, nI_add, q_mul, nI_clamp, bz_0, bz_1, q_bzb, b_0, b_1, b_ft, b_tf, ne_eq, not_true_eq_false, not_false_eq_true, decide_true, decide_false, Bool.and_self, Bool.false_and, Bool.and_false, Bool.and_true, Bool.true_and, Bool.not_true, Bool.not_false, ↓reduceIte]
theorem c_sw_out (d : Nat) {G : Gh} {nM j s O : Nat} {K : Nat → Nat → Option (List Nat)} {h : z_H} (ct : cT h G) (hf : frh h G) (hK : cWa h G nM K) (hw : ∀ u, u < gnT G → gI h 8161 0 u = nI (rowN (wrt G (j + 1) u (stW s)))) (hs : s < 9330) (hO : O < 1024) : ∀ (r m S : Nat) (u6 u7 u8 u9 : z_V), m + r = nM → tbs S nM (fun k => decide (k < m) && (O.testBit k && lnD G (j + 1) K s k)) →
    ∃ S', tbs S' nM (fun k => O.testBit k && lnD G (j + 1) K s k) ∧ EX (d + 1) 32 6 [z_R 9010 0, z_I (nI s), z_I (nI O), z_I (nI nM), z_I (nI S), z_I (nI m), u6, u7, u8, u9] [] h = some (some (z_I (nI S')), h) := by
  have h10 := hK.1
  intro r
  induction r with
  | zero =>
    intro m S u6 u7 u8 u9 hm hS
    have : m = nM := by omega
    subst this
    refine ⟨S, tbs_congr hS (fun k hk => by rw [decide_eq_true hk, Bool.true_and]), ?_⟩
    rw [bX1_swayedIn_6]
    simp (disch := first | omega | rfl | assumption) only [bX1_swayedIn_156, q_cl, q_ps, q_pn, bI_t, bI_f, gI_same, gI_ne, gR_pI, gJ_pI, gV_pI, gN_pI, gC_pI, gS_pI, gI_pJ, gR_pJ, gV_pJ, gN_pJ, gJ_same, gJ_ne, gI_pR, gJ_pR, gV_pR, gN_pR, gR_same, gR_ne, zin_t, zin_f, x_ltt, x_ltf, x_let, x_lef, x_eqt, x_eqf, n_0, n_1, n_2, n_3, n_4, n_5, n_6, n_7, n_8, n_9, n_10, n_11, n_12, n_16, n_19, n_20, n_24, n_25, n_32, n_40, n_48, n_50, n_60, n_64, n_80, n_96, n_114, n_684, n_1000, n_9330, n_16806, n_1000000, n_5764800, ↓n_m, m_ltI, m_leI, m_lt', m_le', m_eq, m_eq', m_add, m_sub, mm_lt, mm_le, mm_eq, q_sub, nI_add, q_mul, nI_clamp, bz_0, bz_1, q_bzb, b_0, b_1, b_ft, b_tf, ne_eq, not_true_eq_false, not_false_eq_true, decide_true, decide_false, Bool.and_self, Bool.false_and, Bool.and_false, Bool.and_true, Bool.true_and, Bool.not_true, Bool.not_false, ↓reduceIte]
  | succ r ih =>
    intro m S u6 u7 u8 u9 hm hS
    have hmn : m < nM := by omega
    have hbit : z_ush (nI O) (nI m) &&& nI 1 = bI (O.testBit m) := q_bit (by omega) (by omega)
    have hsh : nI 1 <<< (nI m &&& 31) = nI (2 ^ m) := by rw [q_shl 1 (by omega), Nat.one_mul]
    have hno : (O.testBit m && lnD G (j + 1) K s m) = false → tbs S nM (fun k => decide (k < m + 1) && (O.testBit k && lnD G (j + 1) K s k)) := fun z => tbs_congr hS (fun k hk => by
      by_cases e : m = k
      · subst e; rw [z, Bool.and_false, Bool.and_false]
      · congr 1
        exact decide_eq_decide.mpr (by omega))
    rw [bX1_swayedIn_6]
    cases hb : O.testBit m with
    | false =>
      obtain ⟨S', q1, q2⟩ := ih (m + 1) S u6 u7 u8 u9 (by omega) (hno (by rw [hb, Bool.false_and]))
      refine ⟨S', q1, ?_⟩
      simp (disch := first | omega | rfl | assumption) only [hbit, hb, bX1_swayedIn_150, q_cl, q_ps, q_pn, bI_t, bI_f, gI_same, gI_ne, gR_pI, gJ_pI, gV_pI, gN_pI, gC_pI, gS_pI, gI_pJ, gR_pJ, gV_pJ, gN_pJ, gJ_same, gJ_ne, gI_pR, gJ_pR, gV_pR, gN_pR, gR_same, gR_ne, zin_t, zin_f, x_ltt, x_ltf, x_let, x_lef, x_eqt, x_eqf, n_0, n_1, n_2, n_3, n_4, n_5, n_6, n_7, n_8, n_9, n_10, n_11, n_12, n_16, n_19, n_20, n_24, n_25, n_32, n_40, n_48, n_50, n_60, n_64, n_80, n_96, n_114, n_684, n_1000, n_9330, n_16806, n_1000000, n_5764800, ↓n_m, m_ltI, m_leI, m_lt', m_le', m_eq, m_eq', m_add, m_sub, mm_lt, mm_le, mm_eq, q_sub, nI_add, q_mul, nI_clamp, bz_0, bz_1, q_bzb, b_0, b_1, b_ft, b_tf, ne_eq, not_true_eq_false, not_false_eq_true, decide_true, decide_false, Bool.and_self, Bool.false_and, Bool.and_false, Bool.and_true, Bool.true_and, Bool.not_true, Bool.not_false, ↓reduceIte]
      exact q2
    | true =>
      obtain ⟨x8, v9, q0⟩ := c_sw_in d ct hf hK hw hs hmn (nI O) (nI nM) (nI S) (gnT G) 0 u9 (by omega)
      have q0' : EX (d + 1) 32 30 [z_R 9010 0, z_I (nI s), z_I (nI O), z_I (nI nM), z_I (nI S), z_I (nI m), z_I (nI 1), z_I (nI 1), z_I (nI 0), u9] [] h = _ := q0
      simp (disch := first | omega | rfl | assumption) only [hbit, hb, q_cl, q_ps, q_pn, bI_t, bI_f, gI_same, gI_ne, gR_pI, gJ_pI, gV_pI, gN_pI, gC_pI, gS_pI, gI_pJ, gR_pJ, gV_pJ, gN_pJ, gJ_same, gJ_ne, gI_pR, gJ_pR, gV_pR, gN_pR, gR_same, gR_ne, zin_t, zin_f, x_ltt, x_ltf, x_let, x_lef, x_eqt, x_eqf, n_0, n_1, n_2, n_3, n_4, n_5, n_6, n_7, n_8, n_9, n_10, n_11, n_12, n_16, n_19, n_20, n_24, n_25, n_32, n_40, n_48, n_50, n_60, n_64, n_80, n_96, n_114, n_684, n_1000, n_9330, n_16806, n_1000000, n_5764800, ↓n_m, m_ltI, m_leI, m_lt', m_le', m_eq, m_eq', m_add, m_sub, mm_lt, mm_le, mm_eq, q_sub, nI_add, q_mul, nI_clamp, bz_0, bz_1, q_bzb, b_0, b_1, b_ft, b_tf, ne_eq, not_true_eq_false, not_false_eq_true, decide_true, decide_false, Bool.and_self, Bool.false_and, Bool.and_false, Bool.and_true, Bool.true_and, Bool.not_true, Bool.not_false, ↓reduceIte]
      rw [q0', bX1_swayedIn_134]
      cases hl : lnD G (j + 1) K s m with
      | false =>
        have heq : bI (moB G 0 (K m) s (gnT G)) = bI (moB G (j + 1) (K m) s (gnT G)) := by
          unfold lnD at hl
          revert hl
          cases moB G (j + 1) (K m) s (gnT G) <;> cases moB G 0 (K m) s (gnT G) <;> decide
        obtain ⟨S', q1, q2⟩ := ih (m + 1) S (z_I (bI (moB G 0 (K m) s (gnT G)))) (z_I (bI (moB G (j + 1) (K m) s (gnT G)))) (z_I x8) v9 (by omega) (hno (by rw [hl, Bool.and_false]))
        refine ⟨S', q1, ?_⟩
        rw [if_pos heq, bX1_swayedIn_150]
        simp (disch := first | omega | rfl | assumption) only [q_cl, q_ps, q_pn, bI_t, bI_f, gI_same, gI_ne, gR_pI, gJ_pI, gV_pI, gN_pI, gC_pI, gS_pI, gI_pJ, gR_pJ, gV_pJ, gN_pJ, gJ_same, gJ_ne, gI_pR, gJ_pR, gV_pR, gN_pR, gR_same, gR_ne, zin_t, zin_f, x_ltt, x_ltf, x_let, x_lef, x_eqt, x_eqf, n_0, n_1, n_2, n_3, n_4, n_5, n_6, n_7, n_8, n_9, n_10, n_11, n_12, n_16, n_19, n_20, n_24, n_25, n_32, n_40, n_48, n_50, n_60, n_64, n_80, n_96, n_114, n_684, n_1000, n_9330, n_16806, n_1000000, n_5764800, ↓n_m, m_ltI, m_leI, m_lt', m_le', m_eq, m_eq', m_add, m_sub, mm_lt, mm_le, mm_eq, q_sub, nI_add, q_mul, nI_clamp, bz_0, bz_1, q_bzb, b_0, b_1, b_ft, b_tf, ne_eq, not_true_eq_false, not_false_eq_true, decide_true, decide_false, Bool.and_self, Bool.false_and, Bool.and_false, Bool.and_true, Bool.true_and, Bool.not_true, Bool.not_false, ↓reduceIte]
        exact q2
      | true =>
        have hne : ¬ bI (moB G 0 (K m) s (gnT G)) = bI (moB G (j + 1) (K m) s (gnT G)) := by
          unfold lnD at hl
          revert hl
          cases moB G (j + 1) (K m) s (gnT G) <;> cases moB G 0 (K m) s (gnT G) <;> decide
        obtain ⟨S', q1, q2⟩ := ih (m + 1) (S ||| 2 ^ m) (z_I (bI (moB G 0 (K m) s (gnT G)))) (z_I (bI (moB G (j + 1) (K m) s (gnT G)))) (z_I x8) v9 (by omega) (tbs_congr (tbs_set hS hmn) (fun k hk => by
          by_cases e : m = k
          · subst e; rw [decide_eq_true rfl, Bool.or_true, decide_eq_true (Nat.lt_succ_self m), hb, hl]; rfl
          · rw [decide_eq_false e, Bool.or_false]
            congr 1
            exact decide_eq_decide.mpr (by omega)))
        refine ⟨S', q1, ?_⟩
        rw [if_neg hne]
        simp (disch := first | omega | rfl | assumption) only [bX1_swayedIn_150, hsh, q_or, q_cl, q_ps, q_pn, bI_t, bI_f, gI_same, gI_ne, gR_pI, gJ_pI, gV_pI, gN_pI, gC_pI, gS_pI, gI_pJ, gR_pJ, gV_pJ, gN_pJ, gJ_same, gJ_ne, gI_pR, gJ_pR, gV_pR, gN_pR, gR_same, gR_ne, zin_t, zin_f, x_ltt, x_ltf, x_let, x_lef, x_eqt, x_eqf, n_0, n_1, n_2, n_3, n_4, n_5, n_6, n_7, n_8, n_9, n_10, n_11, n_12, n_16, n_19, n_20, n_24, n_25, n_32, n_40, n_48, n_50, n_60, n_64, n_80, n_96, n_114, n_684, n_1000, n_9330, n_16806, n_1000000, n_5764800, ↓n_m, m_ltI, m_leI, m_lt', m_le', m_eq, m_eq', m_add, m_sub, mm_lt, mm_le, mm_eq, q_sub, nI_add, q_mul, nI_clamp, bz_0, bz_1, q_bzb, b_0, b_1, b_ft, b_tf, ne_eq, not_true_eq_false, not_false_eq_true, decide_true, decide_false, Bool.and_self, Bool.false_and, Bool.and_false, Bool.and_true, Bool.true_and, Bool.not_true, Bool.not_false, ↓reduceIte]
        exact q2
theorem c_swayed (d : Nat) {G : Gh} {nM j s O : Nat} {K : Nat → Nat → Option (List Nat)} {h : z_H} (ct : cT h G) (hf : frh h G) (hK : cWa h G nM K) (hw : ∀ u, u < gnT G → gI h 8161 0 u = nI (rowN (wrt G (j + 1) u (stW s)))) (hs : s < 9330) (hO : O < 1024) :
    ∃ S, tbs S nM (fun k => O.testBit k && lnD G (j + 1) K s k) ∧ Rn (d + 2) 32 [z_R 9010 0, z_I (nI s), z_I (nI O), z_I (nI nM)] h = some (some (z_I (nI S)), h) := by
  obtain ⟨S, q1, q2⟩ := c_sw_out d ct hf hK hw hs hO nM 0 0 z_U z_U z_U z_U (by omega) (tbs_0 nM (fun k hk => by simp))
  refine ⟨S, q1, ?_⟩
  rw [rX1_swayedIn, bX1_swayedIn_0]
  exact q2
theorem cntB_add {P Q R : Nat → Bool} : ∀ n, (∀ k, k < n → (if R k = true then 1 else 0) = (if P k = true then 1 else 0) + (if Q k = true then 1 else 0)) → cntB R n = cntB P n + cntB Q n := by
  intro n
  induction n with
  | zero => intro _; rfl
  | succ n ih =>
    intro h
    have h1 := h n (by omega)
    have h2 := ih (fun k hk => h k (by omega))
    show cntB R n + _ = (cntB P n + _) + (cntB Q n + _)
    rw [h1, h2]
    omega
theorem cntB_hi {P : Nat → Bool} {n : Nat} : ∀ r, (∀ k, n ≤ k → k < n + r → P k = false) → cntB P (n + r) = cntB P n := by
  intro r
  induction r with
  | zero => intro _; rfl
  | succ r ih =>
    intro h
    show cntB P (n + r) + (if P (n + r) = true then 1 else 0) = _
    rw [h (n + r) (by omega) (by omega), ih (fun k h1 h2 => h k h1 (by omega))]
    rfl
theorem cWa_fr {h h' : z_H} {G : Gh} {nM : Nat} {K : Nat → Nat → Option (List Nat)} (e : ∀ k, gI h' 80171 0 k = gI h 80171 0 k) (m : cWa h G nM K) : cWa h' G nM K := ⟨m.1, fun a ha t ht => ⟨(m.2 a ha t ht).1, (e _).trans (m.2 a ha t ht).2⟩⟩
theorem c_ln_loop (d : Nat) {G : Gh} {nM j T : Nat} {K : Nat → Nat → Option (List Nat)} {op : Nat → Bool} (hj : j < 24) (hT : tbs T 8 (fun u => decide (u < gnT G) && tch G j u)) (hop : ∀ m, m < nM → op m = false → ∀ s, s < 9330 → lnD G (j + 1) K s m = false) (x3 : Int32) : ∀ (r s O : Nat) (u8 : z_V) (h : z_H), s + r = 9330 → cT h G → frh h G → cWa h G nM K → gI h 6020 0 0 = nI nM → tbs O nM (fun m => op m && !exB (fun s => lnD G (j + 1) K s m) s) →
    ∃ h', EX (d + 5) 28 60 [z_R 9010 0, z_I (nI j), z_R 6020 0, z_I x3, z_I (nI T), z_I (nI O), z_I (nI (cntB (fun m => exB (fun s => lnD G (j + 1) K s m) s) nM)), z_I (nI s), u8] [] h = some (some (z_I (nI (cntB (fun m => exB (fun s => lnD G (j + 1) K s m) 9330) nM))), h') ∧ fr pMu h h' := by
  intro r
  induction r with
  | zero =>
    intro s O u8 h hs ct hf hK e0 hO
    have : s = 9330 := by omega
    subst this
    refine ⟨h, ?_, fr_rfl _ _⟩
    rw [bX1_countLeaning_60]
    simp (disch := first | omega | rfl | assumption) only [bX1_countLeaning_124, q_cl, q_ps, q_pn, bI_t, bI_f, gI_same, gI_ne, gR_pI, gJ_pI, gV_pI, gN_pI, gC_pI, gS_pI, gI_pJ, gR_pJ, gV_pJ, gN_pJ, gJ_same, gJ_ne, gI_pR, gJ_pR, gV_pR, gN_pR, gR_same, gR_ne, zin_t, zin_f, x_ltt, x_ltf, x_let, x_lef, x_eqt, x_eqf, n_0, n_1, n_2, n_3, n_4, n_5, n_6, n_7, n_8, n_9, n_10, n_11, n_12, n_16, n_19, n_20, n_24, n_25, n_32, n_40, n_48, n_50, n_60, n_64, n_80, n_96, n_114, n_684, n_1000, n_9330, n_16806, n_1000000, n_5764800, ↓n_m, m_ltI, m_leI, m_lt', m_le', m_eq, m_eq', m_add, m_sub, mm_lt, mm_le, mm_eq, q_sub, nI_add, q_mul, nI_clamp, bz_0, bz_1, q_bzb, b_0, b_1, b_ft, b_tf, ne_eq, not_true_eq_false, not_false_eq_true, decide_true, decide_false, Bool.and_self, Bool.false_and, Bool.and_false, Bool.and_true, Bool.true_and, Bool.not_true, Bool.not_false, ↓reduceIte]
  | succ r ih =>
    intro s O u8 h hs ct hf hK e0 hO
    have h10 := hK.1
    have hO10 := tbs_lt hO h10
    have hs9 : s < 9330 := by omega
    rw [bX1_countLeaning_60]
    by_cases o0 : O = 0
    · have hall := (tbs_zero hO).mp o0
      have hc : cntB (fun m => exB (fun s => lnD G (j + 1) K s m) 9330) nM = cntB (fun m => exB (fun s => lnD G (j + 1) K s m) s) nM := cntB_congr nM (fun m hm => by
        have z := hall m hm
        cases hx : exB (fun s => lnD G (j + 1) K s m) s with
        | true =>
          have := exB_stay hx (9330 - s)
          rwa [show s + (9330 - s) = 9330 by omega] at this
        | false =>
          rw [hx] at z
          have hm0 : op m = false := by simpa using z
          exact exB_no 9330 (fun k hk => hop m hm hm0 k hk))
      refine ⟨h, ?_, fr_rfl _ _⟩
      rw [hc]
      simp (disch := first | omega | rfl | assumption) only [o0, bX1_countLeaning_124, q_cl, q_ps, q_pn, bI_t, bI_f, gI_same, gI_ne, gR_pI, gJ_pI, gV_pI, gN_pI, gC_pI, gS_pI, gI_pJ, gR_pJ, gV_pJ, gN_pJ, gJ_same, gJ_ne, gI_pR, gJ_pR, gV_pR, gN_pR, gR_same, gR_ne, zin_t, zin_f, x_ltt, x_ltf, x_let, x_lef, x_eqt, x_eqf, n_0, n_1, n_2, n_3, n_4, n_5, n_6, n_7, n_8, n_9, n_10, n_11, n_12, n_16, n_19, n_20, n_24, n_25, n_32, n_40, n_48, n_50, n_60, n_64, n_80, n_96, n_114, n_684, n_1000, n_9330, n_16806, n_1000000, n_5764800, ↓n_m, m_ltI, m_leI, m_lt', m_le', m_eq, m_eq', m_add, m_sub, mm_lt, mm_le, mm_eq, q_sub, nI_add, q_mul, nI_clamp, bz_0, bz_1, q_bzb, b_0, b_1, b_ft, b_tf, ne_eq, not_true_eq_false, not_false_eq_true, decide_true, decide_false, Bool.and_self, Bool.false_and, Bool.and_false, Bool.and_true, Bool.true_and, Bool.not_true, Bool.not_false, ↓reduceIte]
    · obtain ⟨h1, p1, p2, p3⟩ := c_mute d hj hs9 hT ct hf
      have ct1 := cT_fr12 p3 ct
      have hf1 := frh_fr (frX_fr p3 pMu_g) hf
      have kp : ∀ p i k, p ≠ 8151 → p ≠ 8161 → gI h1 p i k = gI h p i k := fun p i k a b => p3.2 p i k (fun z => by rcases z with z | z; exact a z; exact b z)
      have hK1 := cWa_fr (fun k => kp 80171 0 k (by decide) (by decide)) hK
      have e01 : gI h1 6020 0 0 = nI nM := (kp _ _ _ (by decide) (by decide)).trans e0
      cases hot : otB G j s (gnT G) with
      | false =>
        rw [hot] at p1
        have hno : ∀ m, lnD G (j + 1) K s m = false := fun m => ln_same (fun t ht => Or.inr (by
          have z := exB_false hot t ht
          have z' : decide (wrt G (j + 1) t (stW s) ≠ wrt G 0 t (stW s)) = false := z
          exact Classical.byContradiction (fun q => of_decide_eq_false z' q)))
        have hex : ∀ m, exB (fun s => lnD G (j + 1) K s m) (s + 1) = exB (fun s => lnD G (j + 1) K s m) s := fun m => by rw [exB_succ, hno m, Bool.or_false]
        obtain ⟨h', q1, q2⟩ := ih (s + 1) O u8 h1 (by omega) ct1 hf1 hK1 e01 (tbs_congr hO (fun m hm => by rw [hex m]))
        rw [cntB_congr (q := fun m => exB (fun s => lnD G (j + 1) K s m) s) nM (fun m _ => hex m)] at q1
        refine ⟨h', ?_, fr_trans p3 q2⟩
        simp (disch := first | omega | rfl | assumption) only [p1, bX1_countLeaning_82, bX1_countLeaning_118, q_cl, q_ps, q_pn, bI_t, bI_f, gI_same, gI_ne, gR_pI, gJ_pI, gV_pI, gN_pI, gC_pI, gS_pI, gI_pJ, gR_pJ, gV_pJ, gN_pJ, gJ_same, gJ_ne, gI_pR, gJ_pR, gV_pR, gN_pR, gR_same, gR_ne, zin_t, zin_f, x_ltt, x_ltf, x_let, x_lef, x_eqt, x_eqf, n_0, n_1, n_2, n_3, n_4, n_5, n_6, n_7, n_8, n_9, n_10, n_11, n_12, n_16, n_19, n_20, n_24, n_25, n_32, n_40, n_48, n_50, n_60, n_64, n_80, n_96, n_114, n_684, n_1000, n_9330, n_16806, n_1000000, n_5764800, ↓n_m, m_ltI, m_leI, m_lt', m_le', m_eq, m_eq', m_add, m_sub, mm_lt, mm_le, mm_eq, q_sub, nI_add, q_mul, nI_clamp, bz_0, bz_1, q_bzb, b_0, b_1, b_ft, b_tf, ne_eq, not_true_eq_false, not_false_eq_true, decide_true, decide_false, Bool.and_self, Bool.false_and, Bool.and_false, Bool.and_true, Bool.true_and, Bool.not_true, Bool.not_false, ↓reduceIte]
        exact q1
      | true =>
        rw [hot] at p1
        obtain ⟨S, hS, s1⟩ := c_swayed (d + 3) ct1 hf1 hK1 p2 hs9 hO10
        have hS10 := tbs_lt hS h10
        have bc := c_bitCount (d + 4) hS10 h1
        have hSn : cntB (fun k => S.testBit k) 10 = cntB (fun k => S.testBit k) nM := by
          have := cntB_hi (P := fun k => S.testBit k) (n := nM) (10 - nM) (fun k h1 h2 => Nat.testBit_lt_two_pow (Nat.lt_of_lt_of_le hS.1 (Nat.pow_le_pow_right (by decide) h1)))
          rwa [show nM + (10 - nM) = 10 by omega] at this
        have hSk : ∀ m, m < nM → S.testBit m = (!exB (fun s => lnD G (j + 1) K s m) s && lnD G (j + 1) K s m) := fun m hm => by
          have z1 : S.testBit m = (O.testBit m && lnD G (j + 1) K s m) := hS.2 m hm
          have z2 : O.testBit m = (op m && !exB (fun s => lnD G (j + 1) K s m) s) := hO.2 m hm
          rw [z1, z2]
          cases ho : op m with
          | true => rw [Bool.true_and]
          | false => rw [hop m hm ho s hs9]; simp
        have hcnt : cntB (fun m => exB (fun s => lnD G (j + 1) K s m) (s + 1)) nM = cntB (fun m => exB (fun s => lnD G (j + 1) K s m) s) nM + cntB (fun k => S.testBit k) 10 := by
          rw [hSn]
          refine cntB_add nM (fun m hm => ?_)
          rw [hSk m hm, exB_succ]
          cases exB (fun s => lnD G (j + 1) K s m) s <;> cases lnD G (j + 1) K s m <;> rfl
        have hO' : tbs (O ^^^ (O &&& S)) nM (fun m => op m && !exB (fun s => lnD G (j + 1) K s m) (s + 1)) := by
          refine ⟨Nat.xor_lt_two_pow hO.1 (Nat.and_lt_two_pow _ hS.1), fun m hm => ?_⟩
          have z2 : O.testBit m = (op m && !exB (fun s => lnD G (j + 1) K s m) s) := hO.2 m hm
          rw [Nat.testBit_xor, Nat.testBit_and, hSk m hm, z2]
          show _ = (op m && !(exB (fun s => lnD G (j + 1) K s m) s || lnD G (j + 1) K s m))
          cases op m <;> cases exB (fun s => lnD G (j + 1) K s m) s <;> cases lnD G (j + 1) K s m <;> rfl
        obtain ⟨h', q1, q2⟩ := ih (s + 1) (O ^^^ (O &&& S)) (z_I (nI S)) h1 (by omega) ct1 hf1 hK1 e01 hO'
        rw [hcnt] at q1
        refine ⟨h', ?_, fr_trans p3 q2⟩
        simp (disch := first | omega | rfl | assumption) only [p1, bX1_countLeaning_82, e01, s1, bX1_countLeaning_97, bc, bX1_countLeaning_106, andn, q_and, q_xor, bX1_countLeaning_118, q_cl, q_ps, q_pn, bI_t, bI_f, gI_same, gI_ne, gR_pI, gJ_pI, gV_pI, gN_pI, gC_pI, gS_pI, gI_pJ, gR_pJ, gV_pJ, gN_pJ, gJ_same, gJ_ne, gI_pR, gJ_pR, gV_pR, gN_pR, gR_same, gR_ne, zin_t, zin_f, x_ltt, x_ltf, x_let, x_lef, x_eqt, x_eqf, n_0, n_1, n_2, n_3, n_4, n_5, n_6, n_7, n_8, n_9, n_10, n_11, n_12, n_16, n_19, n_20, n_24, n_25, n_32, n_40, n_48, n_50, n_60, n_64, n_80, n_96, n_114, n_684, n_1000, n_9330, n_16806, n_1000000, n_5764800, ↓n_m, m_ltI, m_leI, m_lt', m_le', m_eq, m_eq', m_add, m_sub, mm_lt, mm_le, mm_eq, q_sub, nI_add, q_mul, nI_clamp, bz_0, bz_1, q_bzb, b_0, b_1, b_ft, b_tf, ne_eq, not_true_eq_false, not_false_eq_true, decide_true, decide_false, Bool.and_self, Bool.false_and, Bool.and_false, Bool.and_true, Bool.true_and, Bool.not_true, Bool.not_false, ↓reduceIte]
        exact q1
/-- the class's answer -/
theorem c_leaning (d : Nat) {h : z_H} {N : Nat} {xs : Nat → Int32} {G : Gh} {e : Int32} (hG : InvG h N xs G e) {nM nF : Nat} {fm ft fy : Nat → Nat} {fw : Nat → Option (List Nat)} (hF : iFnG h (gnT G) nM nF fm ft fy fw) {j y : Nat} (hj : j < gnL G) (hy : y < 1000) :
    ∃ h', Rn (d + 6) 28 [z_R 9010 0, z_I (nI j), z_R 6020 0, z_I (nI y)] h = some (some (z_I (nI (cntB (fun m => exB (fun s => lnD G (j + 1) (fun m t => knF fm ft fy fw m t y nF) s m) 9330) nM))), h') ∧ InvG h' N xs G e ∧ frX [4, 12, 16] h h' := by
  have ct := cT_of hG
  have okg := ct.1
  have a3 := okg.2.2.2.1
  have a5 := okg.2.2.2.2.1
  have hL := okg.2.1
  have hj24 : j < 24 := by omega
  have hok : ∀ m t, okO (knF fm ft fy fw m t y nF) := fun m t => knF_ok nF (fun k hk => (hF.2.2.2.2.2.2.1 k hk).2.2.2.1)
  obtain ⟨T, hT, e1⟩ := c_touched (d + 3) ct hj24
  have hT8 := hT.1
  have hTk : ∀ t, t < gnT G → T.testBit t = tch G j t := fun t ht => by
    have z : T.testBit t = (decide (t < gnT G) && tch G j t) := hT.2 t (by omega)
    rw [z, decide_eq_true ht, Bool.true_and]
  rw [rX1_countLeaning, bX1_countLeaning_0]
  by_cases t0 : T = 0
  · have hall := (tbs_zero hT).mp t0
    have hc : cntB (fun m => exB (fun s => lnD G (j + 1) (fun m t => knF fm ft fy fw m t y nF) s m) 9330) nM = 0 := by
      have z0 : cntB (fun _ => false) nM = 0 := by
        have := cntB_hi (P := fun _ => false) (n := 0) nM (fun _ _ _ => rfl)
        rw [Nat.zero_add] at this
        exact this
      rw [← z0]
      refine cntB_congr nM (fun m hm => exB_no 9330 (fun s hs => ln_same (fun t ht => Or.inr ?_)))
      have z := hall t (by omega)
      have z' : (decide (t < gnT G) && tch G j t) = false := z
      rw [decide_eq_true ht, Bool.true_and] at z'
      exact wrt_mute a5 (by omega) z' _
    refine ⟨h, ?_, hG, frX_rfl _ _⟩
    rw [hc]
    simp (disch := first | omega | rfl | assumption) only [e1, bX1_countLeaning_5, t0, q_cl, q_ps, q_pn, bI_t, bI_f, gI_same, gI_ne, gR_pI, gJ_pI, gV_pI, gN_pI, gC_pI, gS_pI, gI_pJ, gR_pJ, gV_pJ, gN_pJ, gJ_same, gJ_ne, gI_pR, gJ_pR, gV_pR, gN_pR, gR_same, gR_ne, zin_t, zin_f, x_ltt, x_ltf, x_let, x_lef, x_eqt, x_eqf, n_0, n_1, n_2, n_3, n_4, n_5, n_6, n_7, n_8, n_9, n_10, n_11, n_12, n_16, n_19, n_20, n_24, n_25, n_32, n_40, n_48, n_50, n_60, n_64, n_80, n_96, n_114, n_684, n_1000, n_9330, n_16806, n_1000000, n_5764800, ↓n_m, m_ltI, m_leI, m_lt', m_le', m_eq, m_eq', m_add, m_sub, mm_lt, mm_le, mm_eq, q_sub, nI_add, q_mul, nI_clamp, bz_0, bz_1, q_bzb, b_0, b_1, b_ft, b_tf, ne_eq, not_true_eq_false, not_false_eq_true, decide_true, decide_false, Bool.and_self, Bool.false_and, Bool.and_false, Bool.and_true, Bool.true_and, Bool.not_true, Bool.not_false, ↓reduceIte]
  · obtain ⟨h1, O, g1, g2, g3, g4⟩ := c_gt_out (d + 2) (T := T) a3 hy hT8 nM 0 0 z_U h (by omega) ct.2.1 hF (tbs_0 nM (fun k hk => by simp)) (fun k hk => by omega)
    have F1 := frX_fr g4 pAw_g
    have I1 := Inv_scr F1 hG
    have hF1 := iFnG_fr F1 (by decide) hF
    have h10 := hF.1
    have hO10 := tbs_lt g2 h10
    have hop : ∀ m, m < nM → exB (fun t => !decide (knF fm ft fy fw m t y nF = none) && T.testBit t) 8 = false → ∀ s, s < 9330 → lnD G (j + 1) (fun m t => knF fm ft fy fw m t y nF) s m = false := by
      intro m hm ho s hs
      refine ln_same (fun t ht => ?_)
      have z := exB_false ho t (by omega)
      have z' : (!decide (knF fm ft fy fw m t y nF = none) && T.testBit t) = false := z
      rw [hTk t ht] at z'
      by_cases q : knF fm ft fy fw m t y nF = none
      · exact Or.inl q
      · rw [decide_eq_false q] at z'
        exact Or.inr (wrt_mute a5 (by omega) (by simpa using z') _)
    have hK1 : cWa h1 G nM (fun m t => knF fm ft fy fw m t y nF) := ⟨h10, fun m hm t ht => ⟨hok m t, g3 m hm t ht⟩⟩
    have gr : Rn (d + 5) 30 [z_R 9010 0, z_R 6020 0, z_I (nI y), z_I (nI T)] h = some (some (z_I (nI O)), h1) := by
      rw [rX1_gatherTouched, bX1_gatherTouched_0]
      exact g1
    have step : z_cl (Rn (d + 5) 29 [z_R 9010 0, z_I (nI j)] h) (fun v h' => EX (d + 5) 28 5 [z_R 9010 0, z_I (nI j), z_R 6020 0, z_I (nI y), z_U, z_U, z_U, z_U, z_U] (z_ps v []) h') = EX (d + 5) 28 27 [z_R 9010 0, z_I (nI j), z_R 6020 0, z_I (nI y), z_I (nI T), z_I (nI O), z_I (nI 0), z_U, z_U] [] h1 := by
      simp (disch := first | omega | rfl | assumption) only [e1, bX1_countLeaning_5, bX1_countLeaning_14, gr, bX1_countLeaning_22, q_cl, q_ps, q_pn, bI_t, bI_f, gI_same, gI_ne, gR_pI, gJ_pI, gV_pI, gN_pI, gC_pI, gS_pI, gI_pJ, gR_pJ, gV_pJ, gN_pJ, gJ_same, gJ_ne, gI_pR, gJ_pR, gV_pR, gN_pR, gR_same, gR_ne, zin_t, zin_f, x_ltt, x_ltf, x_let, x_lef, x_eqt, x_eqf, n_0, n_1, n_2, n_3, n_4, n_5, n_6, n_7, n_8, n_9, n_10, n_11, n_12, n_16, n_19, n_20, n_24, n_25, n_32, n_40, n_48, n_50, n_60, n_64, n_80, n_96, n_114, n_684, n_1000, n_9330, n_16806, n_1000000, n_5764800, ↓n_m, m_ltI, m_leI, m_lt', m_le', m_eq, m_eq', m_add, m_sub, mm_lt, mm_le, mm_eq, q_sub, nI_add, q_mul, nI_clamp, bz_0, bz_1, q_bzb, b_0, b_1, b_ft, b_tf, ne_eq, not_true_eq_false, not_false_eq_true, decide_true, decide_false, Bool.and_self, Bool.false_and, Bool.and_false, Bool.and_true, Bool.true_and, Bool.not_true, Bool.not_false, ↓reduceIte]
    rw [step]
    by_cases o0 : O = 0
    · have hall := (tbs_zero g2).mp o0
      have hc : cntB (fun m => exB (fun s => lnD G (j + 1) (fun m t => knF fm ft fy fw m t y nF) s m) 9330) nM = 0 := by
        have z0 : cntB (fun _ => false) nM = 0 := by
          have := cntB_hi (P := fun _ => false) (n := 0) nM (fun _ _ _ => rfl)
          rw [Nat.zero_add] at this
          exact this
        rw [← z0]
        exact cntB_congr nM (fun m hm => exB_no 9330 (fun s hs => hop m hm (hall m hm) s hs))
      refine ⟨h1, ?_, I1, frX_mono (by decide) F1⟩
      rw [hc, bX1_countLeaning_27, o0]
      by_cases n0 : gnT G = 0
      · simp (disch := first | omega | rfl | assumption) only [(I_T I1).1, n0, bX1_countLeaning_54, bX1_countLeaning_60, bX1_countLeaning_124, q_cl, q_ps, q_pn, bI_t, bI_f, gI_same, gI_ne, gR_pI, gJ_pI, gV_pI, gN_pI, gC_pI, gS_pI, gI_pJ, gR_pJ, gV_pJ, gN_pJ, gJ_same, gJ_ne, gI_pR, gJ_pR, gV_pR, gN_pR, gR_same, gR_ne, zin_t, zin_f, x_ltt, x_ltf, x_let, x_lef, x_eqt, x_eqf, n_0, n_1, n_2, n_3, n_4, n_5, n_6, n_7, n_8, n_9, n_10, n_11, n_12, n_16, n_19, n_20, n_24, n_25, n_32, n_40, n_48, n_50, n_60, n_64, n_80, n_96, n_114, n_684, n_1000, n_9330, n_16806, n_1000000, n_5764800, ↓n_m, m_ltI, m_leI, m_lt', m_le', m_eq, m_eq', m_add, m_sub, mm_lt, mm_le, mm_eq, q_sub, nI_add, q_mul, nI_clamp, bz_0, bz_1, q_bzb, b_0, b_1, b_ft, b_tf, ne_eq, not_true_eq_false, not_false_eq_true, decide_true, decide_false, Bool.and_self, Bool.false_and, Bool.and_false, Bool.and_true, Bool.true_and, Bool.not_true, Bool.not_false, ↓reduceIte]
      · simp (disch := first | omega | rfl | assumption) only [(I_T I1).1, bX1_countLeaning_54, bX1_countLeaning_60, bX1_countLeaning_124, q_cl, q_ps, q_pn, bI_t, bI_f, gI_same, gI_ne, gR_pI, gJ_pI, gV_pI, gN_pI, gC_pI, gS_pI, gI_pJ, gR_pJ, gV_pJ, gN_pJ, gJ_same, gJ_ne, gI_pR, gJ_pR, gV_pR, gN_pR, gR_same, gR_ne, zin_t, zin_f, x_ltt, x_ltf, x_let, x_lef, x_eqt, x_eqf, n_0, n_1, n_2, n_3, n_4, n_5, n_6, n_7, n_8, n_9, n_10, n_11, n_12, n_16, n_19, n_20, n_24, n_25, n_32, n_40, n_48, n_50, n_60, n_64, n_80, n_96, n_114, n_684, n_1000, n_9330, n_16806, n_1000000, n_5764800, ↓n_m, m_ltI, m_leI, m_lt', m_le', m_eq, m_eq', m_add, m_sub, mm_lt, mm_le, mm_eq, q_sub, nI_add, q_mul, nI_clamp, bz_0, bz_1, q_bzb, b_0, b_1, b_ft, b_tf, ne_eq, not_true_eq_false, not_false_eq_true, decide_true, decide_false, Bool.and_self, Bool.false_and, Bool.and_false, Bool.and_true, Bool.true_and, Bool.not_true, Bool.not_false, ↓reduceIte]
    · obtain ⟨h2, q1, I2, q3, q4, q5, q6⟩ := c_fa_loop d (N := N) (xs := xs) (G := G) (e := e) o0 hO10 (nI j) (nI y) (nI T) z_U z_U (gnT G) 0 h1 (by omega) I1 (Or.inl rfl) (fun v hv => by omega)
      have hr2 : rdy h2 := by
        rcases q3 with z | z
        · exfalso
          apply o0
          refine (tbs_zero g2).mpr (fun m hm => exB_no 8 (fun t ht => ?_))
          have z2 : T.testBit t = (decide (t < gnT G) && tch G j t) := hT.2 t ht
          rw [z2, decide_eq_false (show ¬ t < gnT G by omega)]
          simp
        · exact z
      obtain ⟨h3, r1, r2⟩ := c_ln_loop d (op := fun m => exB (fun t => !decide (knF fm ft fy fw m t y nF = none) && T.testBit t) 8) hj24 hT hop (nI y) 9330 0 O z_U h2 (by omega) (cT_of I2) (frh_of I2 hr2 q4) (cWa_fr q5 hK1) (iFnG_fr q6 (by decide) hF1).2.2.1 (tbs_congr g2 (fun m hm => by rw [show exB (fun s => lnD G (j + 1) (fun m t => knF fm ft fy fw m t y nF) s m) 0 = false from rfl]; simp))
      have z0 : cntB (fun m => exB (fun s => lnD G (j + 1) (fun m t => knF fm ft fy fw m t y nF) s m) 0) nM = 0 := by
        have := cntB_hi (P := fun m => exB (fun s => lnD G (j + 1) (fun m t => knF fm ft fy fw m t y nF) s m) 0) (n := 0) nM (fun _ _ _ => rfl)
        rw [Nat.zero_add] at this
        exact this
      rw [z0] at r1
      refine ⟨h3, ?_, Inv_scr (frX_fr r2 pMu_g) I2, frX_trans (frX_mono (by decide) F1) (frX_trans q6 (frX_mono (by decide) (frX_fr r2 pMu_g)))⟩
      rw [q1, bX1_countLeaning_54]
      exact r1
theorem op_leans {N : Nat} {xs : Nat → Int32} (d : Nat) {h : z_H} (hI : Inv h N xs) (x1 x2 : Int32) : OKc N xs (d + 60) 109 205 [z_I x1, z_I x2] h := by
  obtain ⟨G, hG⟩ := hI
  have m := I_m hG
  have c := I_c hG
  obtain ⟨w1, w2, w3, w4, -⟩ := I_L hG
  have nl : gnL G < 2 ^ 31 := by omega
  cases g1 : z_in x1 (gnL G) with
  | false => exact OK_ref2 hG (-1000001) (by simp (disch := first | omega | rfl | assumption) only [bX10_leans_0, bX10_leans_5, bX10_leans_13, bX10_leans_16, bX10_leans_22, bX10_leans_23, bX10_leans_36, rX10_leans, c_noLaw (h := h) _ nl w1, g1, c_finding, q_cl, q_ps, q_pn, bI_t, bI_f, gI_same, gI_ne, gR_pI, gJ_pI, gV_pI, gN_pI, gC_pI, gS_pI, gI_pJ, gR_pJ, gV_pJ, gN_pJ, gJ_same, gJ_ne, gI_pR, gJ_pR, gV_pR, gN_pR, gR_same, gR_ne, zin_t, zin_f, x_ltt, x_ltf, x_let, x_lef, x_eqt, x_eqf, n_0, n_1, n_2, n_3, n_4, n_5, n_6, n_7, n_8, n_9, n_10, n_11, n_12, n_16, n_19, n_20, n_24, n_25, n_32, n_40, n_48, n_50, n_60, n_64, n_80, n_96, n_114, n_684, n_1000, n_9330, n_16806, n_1000000, n_5764800, ↓n_m, m_ltI, m_leI, m_lt', m_le', m_eq, m_eq', m_add, m_sub, mm_lt, mm_le, mm_eq, q_sub, nI_add, q_mul, nI_clamp, bz_0, bz_1, q_bzb, b_0, b_1, b_ft, b_tf, ne_eq, not_true_eq_false, not_false_eq_true, decide_true, decide_false, Bool.and_self, Bool.false_and, Bool.and_false, Bool.and_true, Bool.true_and, Bool.not_true, Bool.not_false, ↓reduceIte]) (by simp (disch := first | omega | rfl | assumption) only [rX11_leans, bX11_leans_0, bX11_leans_5, bX11_leans_15, bX11_leans_21, m_isLaw (h := (pI h 10090 0 9 (gI h 10090 0 9 + nI 1))) _ nl (by simp (disch := first | omega | rfl | assumption) only [w2, q_cl, q_ps, q_pn, bI_t, bI_f, gI_same, gI_ne, gR_pI, gJ_pI, gV_pI, gN_pI, gC_pI, gS_pI, gI_pJ, gR_pJ, gV_pJ, gN_pJ, gJ_same, gJ_ne, gI_pR, gJ_pR, gV_pR, gN_pR, gR_same, gR_ne, zin_t, zin_f, x_ltt, x_ltf, x_let, x_lef, x_eqt, x_eqf, n_0, n_1, n_2, n_3, n_4, n_5, n_6, n_7, n_8, n_9, n_10, n_11, n_12, n_16, n_19, n_20, n_24, n_25, n_32, n_40, n_48, n_50, n_60, n_64, n_80, n_96, n_114, n_684, n_1000, n_9330, n_16806, n_1000000, n_5764800, ↓n_m, m_ltI, m_leI, m_lt', m_le', m_eq, m_eq', m_add, m_sub, mm_lt, mm_le, mm_eq, q_sub, nI_add, q_mul, nI_clamp, bz_0, bz_1, q_bzb, b_0, b_1, b_ft, b_tf, ne_eq, not_true_eq_false, not_false_eq_true, decide_true, decide_false, Bool.and_self, Bool.false_and, Bool.and_false, Bool.and_true, Bool.true_and, Bool.not_true, Bool.not_false, ↓reduceIte]), g1, m_finding, q_cl, q_ps, q_pn, bI_t, bI_f, gI_same, gI_ne, gR_pI, gJ_pI, gV_pI, gN_pI, gC_pI, gS_pI, gI_pJ, gR_pJ, gV_pJ, gN_pJ, gJ_same, gJ_ne, gI_pR, gJ_pR, gV_pR, gN_pR, gR_same, gR_ne, zin_t, zin_f, x_ltt, x_ltf, x_let, x_lef, x_eqt, x_eqf, n_0, n_1, n_2, n_3, n_4, n_5, n_6, n_7, n_8, n_9, n_10, n_11, n_12, n_16, n_19, n_20, n_24, n_25, n_32, n_40, n_48, n_50, n_60, n_64, n_80, n_96, n_114, n_684, n_1000, n_9330, n_16806, n_1000000, n_5764800, ↓n_m, m_ltI, m_leI, m_lt', m_le', m_eq, m_eq', m_add, m_sub, mm_lt, mm_le, mm_eq, q_sub, nI_add, q_mul, nI_clamp, bz_0, bz_1, q_bzb, b_0, b_1, b_ft, b_tf, ne_eq, not_true_eq_false, not_false_eq_true, decide_true, decide_false, Bool.and_self, Bool.false_and, Bool.and_false, Bool.and_true, Bool.true_and, Bool.not_true, Bool.not_false, ↓reduceIte])
  | true =>
    cases g2 : z_in x2 1000 with
    | false => exact OK_ref2 hG (-1000001) (by simp (disch := first | omega | rfl | assumption) only [bX10_leans_0, bX10_leans_5, bX10_leans_13, bX10_leans_16, bX10_leans_22, bX10_leans_23, bX10_leans_36, rX10_leans, c_noLaw (h := h) _ nl w1, g1, c_noYear, g2, c_finding, q_cl, q_ps, q_pn, bI_t, bI_f, gI_same, gI_ne, gR_pI, gJ_pI, gV_pI, gN_pI, gC_pI, gS_pI, gI_pJ, gR_pJ, gV_pJ, gN_pJ, gJ_same, gJ_ne, gI_pR, gJ_pR, gV_pR, gN_pR, gR_same, gR_ne, zin_t, zin_f, x_ltt, x_ltf, x_let, x_lef, x_eqt, x_eqf, n_0, n_1, n_2, n_3, n_4, n_5, n_6, n_7, n_8, n_9, n_10, n_11, n_12, n_16, n_19, n_20, n_24, n_25, n_32, n_40, n_48, n_50, n_60, n_64, n_80, n_96, n_114, n_684, n_1000, n_9330, n_16806, n_1000000, n_5764800, ↓n_m, m_ltI, m_leI, m_lt', m_le', m_eq, m_eq', m_add, m_sub, mm_lt, mm_le, mm_eq, q_sub, nI_add, q_mul, nI_clamp, bz_0, bz_1, q_bzb, b_0, b_1, b_ft, b_tf, ne_eq, not_true_eq_false, not_false_eq_true, decide_true, decide_false, Bool.and_self, Bool.false_and, Bool.and_false, Bool.and_true, Bool.true_and, Bool.not_true, Bool.not_false, ↓reduceIte]) (by simp (disch := first | omega | rfl | assumption) only [rX11_leans, bX11_leans_0, bX11_leans_5, bX11_leans_12, bX11_leans_15, bX11_leans_21, m_isLaw (h := (pI h 10090 0 9 (gI h 10090 0 9 + nI 1))) _ nl (by simp (disch := first | omega | rfl | assumption) only [w2, q_cl, q_ps, q_pn, bI_t, bI_f, gI_same, gI_ne, gR_pI, gJ_pI, gV_pI, gN_pI, gC_pI, gS_pI, gI_pJ, gR_pJ, gV_pJ, gN_pJ, gJ_same, gJ_ne, gI_pR, gJ_pR, gV_pR, gN_pR, gR_same, gR_ne, zin_t, zin_f, x_ltt, x_ltf, x_let, x_lef, x_eqt, x_eqf, n_0, n_1, n_2, n_3, n_4, n_5, n_6, n_7, n_8, n_9, n_10, n_11, n_12, n_16, n_19, n_20, n_24, n_25, n_32, n_40, n_48, n_50, n_60, n_64, n_80, n_96, n_114, n_684, n_1000, n_9330, n_16806, n_1000000, n_5764800, ↓n_m, m_ltI, m_leI, m_lt', m_le', m_eq, m_eq', m_add, m_sub, mm_lt, mm_le, mm_eq, q_sub, nI_add, q_mul, nI_clamp, bz_0, bz_1, q_bzb, b_0, b_1, b_ft, b_tf, ne_eq, not_true_eq_false, not_false_eq_true, decide_true, decide_false, Bool.and_self, Bool.false_and, Bool.and_false, Bool.and_true, Bool.true_and, Bool.not_true, Bool.not_false, ↓reduceIte]), g1, m_isYear, g2, m_finding, q_cl, q_ps, q_pn, bI_t, bI_f, gI_same, gI_ne, gR_pI, gJ_pI, gV_pI, gN_pI, gC_pI, gS_pI, gI_pJ, gR_pJ, gV_pJ, gN_pJ, gJ_same, gJ_ne, gI_pR, gJ_pR, gV_pR, gN_pR, gR_same, gR_ne, zin_t, zin_f, x_ltt, x_ltf, x_let, x_lef, x_eqt, x_eqf, n_0, n_1, n_2, n_3, n_4, n_5, n_6, n_7, n_8, n_9, n_10, n_11, n_12, n_16, n_19, n_20, n_24, n_25, n_32, n_40, n_48, n_50, n_60, n_64, n_80, n_96, n_114, n_684, n_1000, n_9330, n_16806, n_1000000, n_5764800, ↓n_m, m_ltI, m_leI, m_lt', m_le', m_eq, m_eq', m_add, m_sub, mm_lt, mm_le, mm_eq, q_sub, nI_add, q_mul, nI_clamp, bz_0, bz_1, q_bzb, b_0, b_1, b_ft, b_tf, ne_eq, not_true_eq_false, not_false_eq_true, decide_true, decide_false, Bool.and_self, Bool.false_and, Bool.and_false, Bool.and_true, Bool.true_and, Bool.not_true, Bool.not_false, ↓reduceIte])
    | true =>
      obtain ⟨j, hj, -, rfl⟩ := zin_of g1
      obtain ⟨y, hy, -, rfl⟩ := zin_of g2
      obtain ⟨nM, nF, fm, ft, fy, fw, hF⟩ := I_fn hG
      obtain ⟨h1, e1, I1, F1⟩ := c_leaning (d + 53) hG hF hj hy
      obtain ⟨h2, e2, F2⟩ := m_leans d I1 (iFnG_fr F1 (by decide) hF) hj hy
      refine ⟨_, h1, h2, ?_, e2, G, Inv_scr F2 I1⟩
      simp (disch := first | omega | rfl | assumption) only [bX10_leans_0, bX10_leans_5, bX10_leans_13, bX10_leans_16, bX10_leans_22, bX10_leans_23, bX10_leans_36, rX10_leans, c_noLaw (h := h) _ nl w1, g1, c_noYear, g2, c.1 10090 2 rfl, c.1 10090 3 rfl, e1, q_cl, q_ps, q_pn, bI_t, bI_f, gI_same, gI_ne, gR_pI, gJ_pI, gV_pI, gN_pI, gC_pI, gS_pI, gI_pJ, gR_pJ, gV_pJ, gN_pJ, gJ_same, gJ_ne, gI_pR, gJ_pR, gV_pR, gN_pR, gR_same, gR_ne, zin_t, zin_f, x_ltt, x_ltf, x_let, x_lef, x_eqt, x_eqf, n_0, n_1, n_2, n_3, n_4, n_5, n_6, n_7, n_8, n_9, n_10, n_11, n_12, n_16, n_19, n_20, n_24, n_25, n_32, n_40, n_48, n_50, n_60, n_64, n_80, n_96, n_114, n_684, n_1000, n_9330, n_16806, n_1000000, n_5764800, ↓n_m, m_ltI, m_leI, m_lt', m_le', m_eq, m_eq', m_add, m_sub, mm_lt, mm_le, mm_eq, q_sub, nI_add, q_mul, nI_clamp, bz_0, bz_1, q_bzb, b_0, b_1, b_ft, b_tf, ne_eq, not_true_eq_false, not_false_eq_true, decide_true, decide_false, Bool.and_self, Bool.false_and, Bool.and_false, Bool.and_true, Bool.true_and, Bool.not_true, Bool.not_false, ↓reduceIte]
