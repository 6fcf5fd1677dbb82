/-! ===== leans: stems without a law ===== -/
theorem c_fa_loop (d : Nat) {N : Nat} {xs : Nat → Int32} {G : Gh} {e : Int32} {O : Nat} (hO : O ≠ 0) (hO2 : O < 1024) (x1 x3 x4 : Int32) (u7 u8 : z_V) : ∀ (r t : Nat) (h : z_H), t + r = gnT G → InvG h N xs G e → (t = 0 ∨ rdy h) → (∀ v, v < t → gI h 7080 v 6 = 0) →
    ∃ h', EX (d + 5) 28 27 [z_R 9010 0, z_I x1, z_R 6020 0, z_I x3, z_I x4, z_I (nI O), z_I (nI t), u7, u8] [] h = EX (d + 5) 28 54 [z_R 9010 0, z_I x1, z_R 6020 0, z_I x3, z_I x4, z_I (nI O), z_I (nI (gnT G)), u7, u8] [] h' ∧ InvG h' N xs G e ∧ (gnT G = 0 ∨ rdy h') ∧ (∀ v, v < gnT G → gI h' 7080 v 6 = 0) ∧ (∀ k, gI h' 80171 0 k = gI h 80171 0 k) ∧ frX [4, 12, 16] h h' := by
  intro r
  induction r with
  | zero =>
    intro t h ht hI hr hv
    have a1 := (I_T hI).1
    have a3 := (I_T hI).2.2.1
    have : t = gnT G := by omega
    subst this
    refine ⟨h, ?_, hI, hr, hv, fun _ => rfl, frX_rfl _ _⟩
    rw [bX1_countLeaning_27]
    simp (disch := first | omega | rfl | assumption) only [a1, q_cl, q_ps, q_pn, bI_t, bI_f, gI_same, gI_ne, gR_pI, gJ_pI, gV_pI, gN_pI, gC_pI, gS_pI, gI_pJ, gR_pJ, gV_pJ, gN_pJ, gJ_same, gJ_ne, gI_pR, gJ_pR, gV_pR, gN_pR, gR_same, gR_ne, zin_t, zin_f, x_ltt, x_ltf, x_let, x_lef, x_eqt, x_eqf, n_0, n_1, n_2, n_3, n_4, n_5, n_6, n_7, n_8, n_9, n_10, n_11, n_12, n_16, n_19, n_20, n_24, n_25, n_32, n_40, n_48, n_50, n_60, n_64, n_80, n_96, n_114, n_684, n_1000, n_9330, n_16806, n_1000000, n_5764800, ↓n_m, m_ltI, m_leI, m_lt', m_le', m_eq, m_eq', m_add, m_sub, mm_lt, mm_le, mm_eq, q_sub, nI_add, q_mul, nI_clamp, bz_0, bz_1, q_bzb, b_0, b_1, b_ft, b_tf, ne_eq, not_true_eq_false, not_false_eq_true, decide_true, decide_false, Bool.and_self, Bool.false_and, Bool.and_false, Bool.and_true, Bool.true_and, Bool.not_true, Bool.not_false, ↓reduceIte]
  | succ r ih =>
    intro t h ht hI hr hv
    have a1 := (I_T hI).1
    have a3 := (I_T hI).2.2.1
    have htn : t < gnT G := by omega
    obtain ⟨hp, e0, Ip, rp, Fp, kp⟩ := c_prepare (d + 2) hI
    obtain ⟨h1, e1, I1, r1, fr1, old1, k1, F1⟩ := c_freshened d htn e0 Ip rp
    have hc : okCh G := (cT_of hI).1.2.2.2.2.1
    obtain ⟨h', q1, q2, q3, q4, q5, q6⟩ := ih (t + 1) h1 (by omega) I1 (Or.inr r1) (fun v hv' => by
      by_cases z : v = t
      · subst z; exact fr1 v (by omega) (ch_self hc v)
      · exact old1 v ((kp _ _ _ (by decide) (by decide)).trans (hv v (by omega))))
    refine ⟨h', ?_, q2, q3, q4, fun k => (q5 k).trans ((k1 _ _ _ (by decide) (by decide)).trans (kp _ _ _ (by decide) (by decide))), frX_trans (frX_mono (by decide) Fp) (frX_trans (frX_mono (by decide) F1) q6)⟩
    have e1' : Rn (d + 5) 18 [z_R 9010 0, z_I (nI t)] h = some (some (z_R 7080 t), h1) := e1
    rw [bX1_countLeaning_27]
    simp (disch := first | omega | rfl | assumption) only [a1, e1', bX1_countLeaning_47, q_cl, q_ps, q_pn, bI_t, bI_f, gI_same, gI_ne, gR_pI, gJ_pI, gV_pI, gN_pI, gC_pI, gS_pI, gI_pJ, gR_pJ, gV_pJ, gN_pJ, gJ_same, gJ_ne, gI_pR, gJ_pR, gV_pR, gN_pR, gR_same, gR_ne, zin_t, zin_f, x_ltt, x_ltf, x_let, x_lef, x_eqt, x_eqf, n_0, n_1, n_2, n_3, n_4, n_5, n_6, n_7, n_8, n_9, n_10, n_11, n_12, n_16, n_19, n_20, n_24, n_25, n_32, n_40, n_48, n_50, n_60, n_64, n_80, n_96, n_114, n_684, n_1000, n_9330, n_16806, n_1000000, n_5764800, ↓n_m, m_ltI, m_leI, m_lt', m_le', m_eq, m_eq', m_add, m_sub, mm_lt, mm_le, mm_eq, q_sub, nI_add, q_mul, nI_clamp, bz_0, bz_1, q_bzb, b_0, b_1, b_ft, b_tf, ne_eq, not_true_eq_false, not_false_eq_true, decide_true, decide_false, Bool.and_self, Bool.false_and, Bool.and_false, Bool.and_true, Bool.true_and, Bool.not_true, Bool.not_false, ↓reduceIte]
    exact q1
abbrev pMu : Nat → Nat → Nat → Prop := fun p _ _ => p = 8151 ∨ p = 8161
theorem pMu_g : ∀ p i k, pMu p i k → grp p i k ∈ [12] := by
  rintro p i k (rfl | rfl)
  · exact (by decide : (12 : Nat) ∈ [12])
  · exact (by decide : (12 : Nat) ∈ [12])
/-- whether a stem is written otherwise in one of n tongues without a law -/
abbrev otB (G : Gh) (j s n : Nat) : Bool := exB (fun t => decide (wrt G (j + 1) t (stW s) ≠ wrt G 0 t (stW s))) n
/-- all forms are fresh -/
def frh (h : z_H) (G : Gh) : Prop := rdy h ∧ ∀ t, t < gnT G → gR h 7080 t 5 ≠ 0 ∧ ∀ s, s < 9330 → gJ h 9330404 (gR h 7080 t 5 - 1) s = pkJ G t s
theorem frh_of {h : z_H} {N : Nat} {xs : Nat → Int32} {G : Gh} {e : Int32} (hG : InvG h N xs G e) (hr : rdy h) (hv : ∀ v, v < gnT G → gI h 7080 v 6 = 0) : frh h G := ⟨hr, fun t ht => by
  rcases (I_F hG).2.2.2.2.2.2 t ht with y | ⟨y1, y2, y3⟩
  · rw [hv t ht] at y; cases y
  · exact ⟨y2, y3⟩⟩
theorem frh_fr {h h' : z_H} (f : frX [12] h h') {G : Gh} (m : frh h G) : frh h' G := by
  refine ⟨rdy_fr f m.1, fun t ht => ?_⟩
  have e5 : gR h' 7080 t 5 = gR h 7080 t 5 := f.2.1 _ _ _ (by exact (by decide : (4 : Nat) ∉ [12]))
  rw [e5]
  exact ⟨(m.2 t ht).1, fun s hs => (f.2.2.1 _ _ _ (by exact (by decide : (4 : Nat) ∉ [12]))).trans ((m.2 t ht).2 s hs)⟩
theorem cT_fr12 {h h' : z_H} {G : Gh} (f : fr pMu h h') (m : cT h G) : cT h' G := by
  obtain ⟨a1, a2, a3, a4, a5, a6, a7⟩ := m
  have kp : ∀ p i k, p ≠ 8151 → p ≠ 8161 → gI h' p i k = gI h p i k := fun p i k a b => f.2 p i k (fun z => by rcases z with z | z; exact a z; exact b z)
  refine ⟨a1, fr_cOK f a2, (kp _ _ _ (by decide) (by decide)).trans a3, (kp _ _ _ (by decide) (by decide)).trans a4, fun j hj => ?_, (kp _ _ _ (by decide) (by decide)).trans a6, fun t ht => ?_⟩
  · obtain ⟨b1, b2, b3, b4⟩ := a5 j hj
    exact ⟨(fr_gR f _ _ _).trans b1, (kp _ _ _ (by decide) (by decide)).trans b2, (fr_gR f _ _ _).trans b3, cC_cp (fun k => kp _ _ _ (by decide) (by decide)) b4⟩
  · obtain ⟨b1, b2, b3, b4, b5, b6, b7, b8⟩ := a7 t ht
    exact ⟨(fr_gR f _ _ _).trans b1, (kp _ _ _ (by decide) (by decide)).trans b2, (kp _ _ _ (by decide) (by decide)).trans b3, (fr_gR f _ _ _).trans b4, (fr_gR f _ _ _).trans b5, (kp _ _ _ (by decide) (by decide)).trans b6, fun i x hx => (fr_gR f _ _ _).trans (b7 i x hx), fun s hs => (kp _ _ _ (by decide) (by decide)).trans (b8 s hs)⟩
theorem c_mute_step (d : Nat) {G : Gh} {T j s t : Nat} (hj : j < 24) (hs : s < 9330) (ht : t < gnT G) (hT : tbs T 8 (fun u => decide (u < gnT G) && tch G j u)) {h : z_H} (m : cT h G) (hf : frh h G) (hu : ∀ u, u < t → gI h 8151 0 u = nI (rowN (frm G (j + 1) u (stW s))) ∧ gI h 8161 0 u = nI (rowN (wrt G (j + 1) u (stW s)))) (b : Bool) (u6 u7 : z_V) :
    ∃ v7, EX (d + 4) 31 6 [z_R 9010 0, z_I (nI s), z_I (nI j), z_I (nI T), z_I (bI b), z_I (nI t), u6, u7] [] h = EX (d + 4) 31 6 [z_R 9010 0, z_I (nI s), z_I (nI j), z_I (nI T), z_I (bI (b || decide (wrt G (j + 1) t (stW s) ≠ wrt G 0 t (stW s)))), z_I (nI (t + 1)), z_R 7080 t, v7] [] (pI (pI h 8151 0 t (nI (rowN (frm G (j + 1) t (stW s))))) 8161 0 t (nI (rowN (wrt G (j + 1) t (stW s))))) := by
  have hsW : isW (stW s) := st_isW (by omega)
  have m' := m
  obtain ⟨okg, c, v1, w1, w5, a1, t6⟩ := m
  obtain ⟨b1, b2, b3, b4, b5, b6, b7, b8⟩ := t6 t ht
  have a3 := okg.2.2.2.1
  have a5 := okg.2.2.2.2.1
  obtain ⟨f1, f2⟩ := hf.2 t ht
  have ok0 := frm_ok okg 0 t (stW s) ht hsW
  have okw0 := wrt_ok okg 0 ht hsW
  have ok1 := frm_ok okg (j + 1) t (stW s) ht hsW
  have okw1 := wrt_ok okg (j + 1) ht hsW
  have hT8 := hT.1
  have hbit : z_ush (nI T) (nI t) &&& nI 1 = bI (tch G j t) := by
    have hT2 : T.testBit t = (decide (t < gnT G) && tch G j t) := hT.2 t (by omega)
    rw [q_bit (by omega) (by omega), hT2, decide_eq_true ht, Bool.true_and]
  cases hb : tch G j t with
  | false =>
    have e1 := c_formAt (d + 3) f1 hs (f2 s hs) ok0 okw0
    rw [← frm_mute a5 t (by omega) hb] at e1
    have e2 : Rn (d + 4) 80 [z_R 7080 t, z_I (nI s)] (pI h 8151 0 t (nI (rowN (frm G (j + 1) t (stW s))))) = some (some (z_I (nI (rowN (wrt G (j + 1) t (stW s))))), (pI h 8151 0 t (nI (rowN (frm G (j + 1) t (stW s)))))) := by
      rw [wrt_mute a5 (by omega) hb]
      exact c_writtenAt (d + 3) (h := (pI h 8151 0 t (nI (rowN (frm G (j + 1) t (stW s)))))) f1 hs (f2 s hs) ok0 okw0
    refine ⟨u7, ?_⟩
    rw [show decide (wrt G (j + 1) t (stW s) ≠ wrt G 0 t (stW s)) = false from decide_eq_false (fun z => z (wrt_mute a5 (by omega) hb _)), Bool.or_false, bX1_mute_6]
    simp (disch := first | omega | rfl | assumption) only [a1, c.1 9010 0 rfl, b1, hbit, hb, c.1 9010 6 rfl, e1, bX1_mute_45, c.1 9010 7 rfl, e2, bX1_mute_58, bX1_mute_157, q_cl, q_ps, q_pn, bI_t, bI_f, gI_same, gI_ne, gR_pI, gJ_pI, gV_pI, gN_pI, gC_pI, gS_pI, gI_pJ, gR_pJ, gV_pJ, gN_pJ, gJ_same, gJ_ne, gI_pR, gJ_pR, gV_pR, gN_pR, gR_same, gR_ne, zin_t, zin_f, x_ltt, x_ltf, x_let, x_lef, x_eqt, x_eqf, n_0, n_1, n_2, n_3, n_4, n_5, n_6, n_7, n_8, n_9, n_10, n_11, n_12, n_16, n_19, n_20, n_24, n_25, n_32, n_40, n_48, n_50, n_60, n_64, n_80, n_96, n_114, n_684, n_1000, n_9330, n_16806, n_1000000, n_5764800, ↓n_m, m_ltI, m_leI, m_lt', m_le', m_eq, m_eq', m_add, m_sub, mm_lt, mm_le, mm_eq, q_sub, nI_add, q_mul, nI_clamp, bz_0, bz_1, q_bzb, b_0, b_1, b_ft, b_tf, ne_eq, not_true_eq_false, not_false_eq_true, decide_true, decide_false, Bool.and_self, Bool.false_and, Bool.and_false, Bool.and_true, Bool.true_and, Bool.not_true, Bool.not_false, ↓reduceIte]
  | true =>
    have e80 : Rn (d + 4) 80 [z_R 7080 t, z_I (nI s)] (pI (pI h 8151 0 t (nI (rowN (frm G (j + 1) t (stW s))))) 8161 0 t (nI (rowN (wrt G (j + 1) t (stW s))))) = some (some (z_I (nI (rowN (wrt G 0 t (stW s))))), (pI (pI h 8151 0 t (nI (rowN (frm G (j + 1) t (stW s))))) 8161 0 t (nI (rowN (wrt G (j + 1) t (stW s)))))) := c_writtenAt (d + 3) (h := (pI (pI h 8151 0 t (nI (rowN (frm G (j + 1) t (stW s))))) 8161 0 t (nI (rowN (wrt G (j + 1) t (stW s)))))) f1 hs (f2 s hs) ok0 okw0
    have e5 : Rn (d + 4) 5 [z_I (nI (rowN (frm G (j + 1) t (stW s)))), z_R 6391 t] (pI h 8151 0 t (nI (rowN (frm G (j + 1) t (stW s))))) = some (some (z_I (nI (rowN (wrt G (j + 1) t (stW s))))), (pI h 8151 0 t (nI (rowN (frm G (j + 1) t (stW s)))))) := c_signsOf (d + 3) (h := (pI h 8151 0 t (nI (rowN (frm G (j + 1) t (stW s)))))) (okg.2.2.2.2.2 t ht).2.2 (fun s hs => by simp (disch := first | omega | rfl | assumption) only [b8 s hs, q_cl, q_ps, q_pn, bI_t, bI_f, gI_same, gI_ne, gR_pI, gJ_pI, gV_pI, gN_pI, gC_pI, gS_pI, gI_pJ, gR_pJ, gV_pJ, gN_pJ, gJ_same, gJ_ne, gI_pR, gJ_pR, gV_pR, gN_pR, gR_same, gR_ne, zin_t, zin_f, x_ltt, x_ltf, x_let, x_lef, x_eqt, x_eqf, n_0, n_1, n_2, n_3, n_4, n_5, n_6, n_7, n_8, n_9, n_10, n_11, n_12, n_16, n_19, n_20, n_24, n_25, n_32, n_40, n_48, n_50, n_60, n_64, n_80, n_96, n_114, n_684, n_1000, n_9330, n_16806, n_1000000, n_5764800, ↓n_m, m_ltI, m_leI, m_lt', m_le', m_eq, m_eq', m_add, m_sub, mm_lt, mm_le, mm_eq, q_sub, nI_add, q_mul, nI_clamp, bz_0, bz_1, q_bzb, b_0, b_1, b_ft, b_tf, ne_eq, not_true_eq_false, not_false_eq_true, decide_true, decide_false, Bool.and_self, Bool.false_and, Bool.and_false, Bool.and_true, Bool.true_and, Bool.not_true, Bool.not_false, ↓reduceIte]) ok1
    have to128 : ∃ v7, EX (d + 4) 31 6 [z_R 9010 0, z_I (nI s), z_I (nI j), z_I (nI T), z_I (bI b), z_I (nI t), u6, u7] [] h = EX (d + 4) 31 128 [z_R 9010 0, z_I (nI s), z_I (nI j), z_I (nI T), z_I (bI b), z_I (nI t), z_R 7080 t, z_I v7] [z_I (nI (rowN (wrt G (j + 1) t (stW s)))), z_I (nI t), z_R 8161 0] (pI h 8151 0 t (nI (rowN (frm G (j + 1) t (stW s))))) := by
      by_cases h0 : gab G t = 0
      · have hb0 : gI h 7080 t 0 = mI := by rw [b2, h0, mk_0]
        have ef : frm G (j + 1) t (stW s) = ownR (gvV G) (gLF G) (j + 1) ((gow G t).drop 0) (stW s) := by rw [frm_eq G (j + 1) (fun t => (a5 t).1), if_pos h0, List.drop_zero]
        have eg := c_grown d m' ht (mu := j + 1) (by omega) (k := 0) (Nat.zero_le _) hsW
        rw [← ef, show mkI (j + 1) = nI j from mkI_pos (by omega)] at eg
        have es := hf.1.2.2 s hs
        refine ⟨nI (rowN (stW s)), ?_⟩
        rw [bX1_mute_6]
        simp (disch := first | omega | rfl | assumption) only [a1, c.1 9010 0 rfl, b1, hbit, hb, bX1_mute_62, hb0, show (nI 0 ≤ mI) = False from by decide, hf.1.1, Nat.one_ne_zero, Nat.sub_self, es, bX1_mute_89, c.1 9010 6 rfl, eg, bX1_mute_106, c.1 9010 7 rfl, b5, e5, q_cl, q_ps, q_pn, bI_t, bI_f, gI_same, gI_ne, gR_pI, gJ_pI, gV_pI, gN_pI, gC_pI, gS_pI, gI_pJ, gR_pJ, gV_pJ, gN_pJ, gJ_same, gJ_ne, gI_pR, gJ_pR, gV_pR, gN_pR, gR_same, gR_ne, zin_t, zin_f, x_ltt, x_ltf, x_let, x_lef, x_eqt, x_eqf, n_0, n_1, n_2, n_3, n_4, n_5, n_6, n_7, n_8, n_9, n_10, n_11, n_12, n_16, n_19, n_20, n_24, n_25, n_32, n_40, n_48, n_50, n_60, n_64, n_80, n_96, n_114, n_684, n_1000, n_9330, n_16806, n_1000000, n_5764800, ↓n_m, m_ltI, m_leI, m_lt', m_le', m_eq, m_eq', m_add, m_sub, mm_lt, mm_le, mm_eq, q_sub, nI_add, q_mul, nI_clamp, bz_0, bz_1, q_bzb, b_0, b_1, b_ft, b_tf, ne_eq, not_true_eq_false, not_false_eq_true, decide_true, decide_false, Bool.and_self, Bool.false_and, Bool.and_false, Bool.and_true, Bool.true_and, Bool.not_true, Bool.not_false, ↓reduceIte]
      · obtain ⟨u, hu1⟩ : ∃ u, gab G t = u + 1 := ⟨gab G t - 1, by omega⟩
        have hab := (a5 t).1
        have hut : u < t := by omega
        have hb0 : gI h 7080 t 0 = nI u := by rw [b2, hu1, mkI_pos (by omega), Nat.add_sub_cancel]
        have oku := frm_ok okg (j + 1) u (stW s) (by omega) hsW
        have ef : frm G (j + 1) t (stW s) = ownR (gvV G) (gLF G) (j + 1) ((gow G t).drop 0) (frm G (j + 1) u (stW s)) := by rw [frm_eq G (j + 1) (fun t => (a5 t).1), if_neg h0, List.drop_zero, hu1, Nat.add_sub_cancel]
        have eg := c_grown d m' ht (mu := j + 1) (by omega) (k := 0) (Nat.zero_le _) oku
        rw [← ef, show mkI (j + 1) = nI j from mkI_pos (by omega)] at eg
        have es := (hu u hut).1
        refine ⟨nI (rowN (frm G (j + 1) u (stW s))), ?_⟩
        rw [bX1_mute_6]
        simp (disch := first | omega | rfl | assumption) only [a1, c.1 9010 0 rfl, b1, hbit, hb, bX1_mute_62, hb0, bX1_mute_79, c.1 9010 6 rfl, es, bX1_mute_89, eg, bX1_mute_106, c.1 9010 7 rfl, b5, e5, q_cl, q_ps, q_pn, bI_t, bI_f, gI_same, gI_ne, gR_pI, gJ_pI, gV_pI, gN_pI, gC_pI, gS_pI, gI_pJ, gR_pJ, gV_pJ, gN_pJ, gJ_same, gJ_ne, gI_pR, gJ_pR, gV_pR, gN_pR, gR_same, gR_ne, zin_t, zin_f, x_ltt, x_ltf, x_let, x_lef, x_eqt, x_eqf, n_0, n_1, n_2, n_3, n_4, n_5, n_6, n_7, n_8, n_9, n_10, n_11, n_12, n_16, n_19, n_20, n_24, n_25, n_32, n_40, n_48, n_50, n_60, n_64, n_80, n_96, n_114, n_684, n_1000, n_9330, n_16806, n_1000000, n_5764800, ↓n_m, m_ltI, m_leI, m_lt', m_le', m_eq, m_eq', m_add, m_sub, mm_lt, mm_le, mm_eq, q_sub, nI_add, q_mul, nI_clamp, bz_0, bz_1, q_bzb, b_0, b_1, b_ft, b_tf, ne_eq, not_true_eq_false, not_false_eq_true, decide_true, decide_false, Bool.and_self, Bool.false_and, Bool.and_false, Bool.and_true, Bool.true_and, Bool.not_true, Bool.not_false, ↓reduceIte]
    obtain ⟨v7, e128⟩ := to128
    refine ⟨z_I v7, ?_⟩
    rw [e128, bX1_mute_128]
    cases b with
    | true => simp (disch := first | omega | rfl | assumption) only [Bool.true_or, bX1_mute_150, bX1_mute_155, bX1_mute_157, q_cl, q_ps, q_pn, bI_t, bI_f, gI_same, gI_ne, gR_pI, gJ_pI, gV_pI, gN_pI, gC_pI, gS_pI, gI_pJ, gR_pJ, gV_pJ, gN_pJ, gJ_same, gJ_ne, gI_pR, gJ_pR, gV_pR, gN_pR, gR_same, gR_ne, zin_t, zin_f, x_ltt, x_ltf, x_let, x_lef, x_eqt, x_eqf, n_0, n_1, n_2, n_3, n_4, n_5, n_6, n_7, n_8, n_9, n_10, n_11, n_12, n_16, n_19, n_20, n_24, n_25, n_32, n_40, n_48, n_50, n_60, n_64, n_80, n_96, n_114, n_684, n_1000, n_9330, n_16806, n_1000000, n_5764800, ↓n_m, m_ltI, m_leI, m_lt', m_le', m_eq, m_eq', m_add, m_sub, mm_lt, mm_le, mm_eq, q_sub, nI_add, q_mul, nI_clamp, bz_0, bz_1, q_bzb, b_0, b_1, b_ft, b_tf, ne_eq, not_true_eq_false, not_false_eq_true, decide_true, decide_false, Bool.and_self, Bool.false_and, Bool.and_false, Bool.and_true, Bool.true_and, Bool.not_true, Bool.not_false, ↓reduceIte]
    | false =>
      have r1 := rowN_lt' okw1
      have r0 := rowN_lt' okw0
      by_cases hq : wrt G (j + 1) t (stW s) = wrt G 0 t (stW s)
      · have e3 : rowN (wrt G (j + 1) t (stW s)) = rowN (wrt G 0 t (stW s)) := by rw [hq]
        rw [show decide (wrt G (j + 1) t (stW s) ≠ wrt G 0 t (stW s)) = false from decide_eq_false (fun z => z hq)]
        simp (disch := first | omega | rfl | assumption) only [Bool.or_false, c.1 9010 7 rfl, e80, bX1_mute_147, bX1_mute_154, bX1_mute_155, bX1_mute_157, q_cl, q_ps, q_pn, bI_t, bI_f, gI_same, gI_ne, gR_pI, gJ_pI, gV_pI, gN_pI, gC_pI, gS_pI, gI_pJ, gR_pJ, gV_pJ, gN_pJ, gJ_same, gJ_ne, gI_pR, gJ_pR, gV_pR, gN_pR, gR_same, gR_ne, zin_t, zin_f, x_ltt, x_ltf, x_let, x_lef, x_eqt, x_eqf, n_0, n_1, n_2, n_3, n_4, n_5, n_6, n_7, n_8, n_9, n_10, n_11, n_12, n_16, n_19, n_20, n_24, n_25, n_32, n_40, n_48, n_50, n_60, n_64, n_80, n_96, n_114, n_684, n_1000, n_9330, n_16806, n_1000000, n_5764800, ↓n_m, m_ltI, m_leI, m_lt', m_le', m_eq, m_eq', m_add, m_sub, mm_lt, mm_le, mm_eq, q_sub, nI_add, q_mul, nI_clamp, bz_0, bz_1, q_bzb, b_0, b_1, b_ft, b_tf, ne_eq, not_true_eq_false, not_false_eq_true, decide_true, decide_false, Bool.and_self, Bool.false_and, Bool.and_false, Bool.and_true, Bool.true_and, Bool.not_true, Bool.not_false, ↓reduceIte]
      · have e3 : rowN (wrt G (j + 1) t (stW s)) ≠ rowN (wrt G 0 t (stW s)) := fun z => hq (rowN_inj _ _ okw1.2 okw0.2 z)
        rw [show decide (wrt G (j + 1) t (stW s) ≠ wrt G 0 t (stW s)) = true from decide_eq_true hq]
        simp (disch := first | omega | rfl | assumption) only [Bool.or_true, c.1 9010 7 rfl, e80, bX1_mute_147, bX1_mute_150, bX1_mute_155, bX1_mute_157, q_cl, q_ps, q_pn, bI_t, bI_f, gI_same, gI_ne, gR_pI, gJ_pI, gV_pI, gN_pI, gC_pI, gS_pI, gI_pJ, gR_pJ, gV_pJ, gN_pJ, gJ_same, gJ_ne, gI_pR, gJ_pR, gV_pR, gN_pR, gR_same, gR_ne, zin_t, zin_f, x_ltt, x_ltf, x_let, x_lef, x_eqt, x_eqf, n_0, n_1, n_2, n_3, n_4, n_5, n_6, n_7, n_8, n_9, n_10, n_11, n_12, n_16, n_19, n_20, n_24, n_25, n_32, n_40, n_48, n_50, n_60, n_64, n_80, n_96, n_114, n_684, n_1000, n_9330, n_16806, n_1000000, n_5764800, ↓n_m, m_ltI, m_leI, m_lt', m_le', m_eq, m_eq', m_add, m_sub, mm_lt, mm_le, mm_eq, q_sub, nI_add, q_mul, nI_clamp, bz_0, bz_1, q_bzb, b_0, b_1, b_ft, b_tf, ne_eq, not_true_eq_false, not_false_eq_true, decide_true, decide_false, Bool.and_self, Bool.false_and, Bool.and_false, Bool.and_true, Bool.true_and, Bool.not_true, Bool.not_false, ↓reduceIte]
theorem c_mute_loop (d : Nat) {G : Gh} {T j s : Nat} (hj : j < 24) (hs : s < 9330) (hT : tbs T 8 (fun u => decide (u < gnT G) && tch G j u)) : ∀ (r t : Nat) (u6 u7 : z_V) (h : z_H), t + r = gnT G → cT h G → frh h G → (∀ u, u < t → gI h 8151 0 u = nI (rowN (frm G (j + 1) u (stW s))) ∧ gI h 8161 0 u = nI (rowN (wrt G (j + 1) u (stW s)))) →
    ∃ h', EX (d + 4) 31 6 [z_R 9010 0, z_I (nI s), z_I (nI j), z_I (nI T), z_I (bI (otB G j s t)), z_I (nI t), u6, u7] [] h = some (some (z_I (bI (otB G j s (gnT G)))), h') ∧ (∀ u, u < gnT G → gI h' 8161 0 u = nI (rowN (wrt G (j + 1) u (stW s)))) ∧ fr pMu h h' := by
  intro r
  induction r with
  | zero =>
    intro t u6 u7 h ht m hf hu
    have a3 := m.1.2.2.2.1
    have : t = gnT G := by omega
    subst this
    refine ⟨h, ?_, fun u hu' => (hu u hu').2, fr_rfl _ _⟩
    rw [bX1_mute_6]
    simp (disch := first | omega | rfl | assumption) only [m.2.2.2.2.2.1, bX1_mute_163, q_cl, q_ps, q_pn, bI_t, bI_f, gI_same, gI_ne, gR_pI, gJ_pI, gV_pI, gN_pI, gC_pI, gS_pI, gI_pJ, gR_pJ, gV_pJ, gN_pJ, gJ_same, gJ_ne, gI_pR, gJ_pR, gV_pR, gN_pR, gR_same, gR_ne, zin_t, zin_f, x_ltt, x_ltf, x_let, x_lef, x_eqt, x_eqf, n_0, n_1, n_2, n_3, n_4, n_5, n_6, n_7, n_8, n_9, n_10, n_11, n_12, n_16, n_19, n_20, n_24, n_25, n_32, n_40, n_48, n_50, n_60, n_64, n_80, n_96, n_114, n_684, n_1000, n_9330, n_16806, n_1000000, n_5764800, ↓n_m, m_ltI, m_leI, m_lt', m_le', m_eq, m_eq', m_add, m_sub, mm_lt, mm_le, mm_eq, q_sub, nI_add, q_mul, nI_clamp, bz_0, bz_1, q_bzb, b_0, b_1, b_ft, b_tf, ne_eq, not_true_eq_false, not_false_eq_true, decide_true, decide_false, Bool.and_self, Bool.false_and, Bool.and_false, Bool.and_true, Bool.true_and, Bool.not_true, Bool.not_false, ↓reduceIte]
  | succ r ih =>
    intro t u6 u7 h ht m hf hu
    have a3 := m.1.2.2.2.1
    obtain ⟨v7, e1⟩ := c_mute_step d hj hs (show t < gnT G by omega) hT m hf hu (otB G j s t) u6 u7
    have f0 : fr pMu h (pI (pI h 8151 0 t (nI (rowN (frm G (j + 1) t (stW s))))) 8161 0 t (nI (rowN (wrt G (j + 1) t (stW s))))) := fr_trans (fr_pI h _ (Or.inl rfl)) (fr_pI _ _ (Or.inr rfl))
    obtain ⟨h', q1, q2, q3⟩ := ih (t + 1) (z_R 7080 t) v7 _ (by omega) (cT_fr12 f0 m) (frh_fr (frX_fr f0 pMu_g) hf) (fun u hu' => by
      by_cases e : u = t
      · subst e; exact ⟨by simp (disch := first | omega | rfl | assumption) only [q_cl, q_ps, q_pn, bI_t, bI_f, gI_same, gI_ne, gR_pI, gJ_pI, gV_pI, gN_pI, gC_pI, gS_pI, gI_pJ, gR_pJ, gV_pJ, gN_pJ, gJ_same, gJ_ne, gI_pR, gJ_pR, gV_pR, gN_pR, gR_same, gR_ne, zin_t, zin_f, x_ltt, x_ltf, x_let, x_lef, x_eqt, x_eqf, n_0, n_1, n_2, n_3, n_4, n_5, n_6, n_7, n_8, n_9, n_10, n_11, n_12, n_16, n_19, n_20, n_24, n_25, n_32, n_40, n_48, n_50, n_60, n_64, n_80, n_96, n_114, n_684, n_1000, n_9330, n_16806, n_1000000, n_5764800, ↓n_m, m_ltI, m_leI, m_lt', m_le', m_eq, m_eq', m_add, m_sub, mm_lt, mm_le, mm_eq, q_sub, nI_add, q_mul, nI_clamp, bz_0, bz_1, q_bzb, b_0, b_1, b_ft, b_tf, ne_eq, not_true_eq_false, not_false_eq_true, decide_true, decide_false, Bool.and_self, Bool.false_and, Bool.and_false, Bool.and_true, Bool.true_and, Bool.not_true, Bool.not_false, ↓reduceIte], by simp (disch := first | omega | rfl | assumption) only [q_cl, q_ps, q_pn, bI_t, bI_f, gI_same, gI_ne, gR_pI, gJ_pI, gV_pI, gN_pI, gC_pI, gS_pI, gI_pJ, gR_pJ, gV_pJ, gN_pJ, gJ_same, gJ_ne, gI_pR, gJ_pR, gV_pR, gN_pR, gR_same, gR_ne, zin_t, zin_f, x_ltt, x_ltf, x_let, x_lef, x_eqt, x_eqf, n_0, n_1, n_2, n_3, n_4, n_5, n_6, n_7, n_8, n_9, n_10, n_11, n_12, n_16, n_19, n_20, n_24, n_25, n_32, n_40, n_48, n_50, n_60, n_64, n_80, n_96, n_114, n_684, n_1000, n_9330, n_16806, n_1000000, n_5764800, ↓n_m, m_ltI, m_leI, m_lt', m_le', m_eq, m_eq', m_add, m_sub, mm_lt, mm_le, mm_eq, q_sub, nI_add, q_mul, nI_clamp, bz_0, bz_1, q_bzb, b_0, b_1, b_ft, b_tf, ne_eq, not_true_eq_false, not_false_eq_true, decide_true, decide_false, Bool.and_self, Bool.false_and, Bool.and_false, Bool.and_true, Bool.true_and, Bool.not_true, Bool.not_false, ↓reduceIte]⟩
      · exact ⟨by simp (disch := first | omega | rfl | assumption) only [(hu u (by omega)).1, q_cl, q_ps, q_pn, bI_t, bI_f, gI_same, gI_ne, gR_pI, gJ_pI, gV_pI, gN_pI, gC_pI, gS_pI, gI_pJ, gR_pJ, gV_pJ, gN_pJ, gJ_same, gJ_ne, gI_pR, gJ_pR, gV_pR, gN_pR, gR_same, gR_ne, zin_t, zin_f, x_ltt, x_ltf, x_let, x_lef, x_eqt, x_eqf, n_0, n_1, n_2, n_3, n_4, n_5, n_6, n_7, n_8, n_9, n_10, n_11, n_12, n_16, n_19, n_20, n_24, n_25, n_32, n_40, n_48, n_50, n_60, n_64, n_80, n_96, n_114, n_684, n_1000, n_9330, n_16806, n_1000000, n_5764800, ↓n_m, m_ltI, m_leI, m_lt', m_le', m_eq, m_eq', m_add, m_sub, mm_lt, mm_le, mm_eq, q_sub, nI_add, q_mul, nI_clamp, bz_0, bz_1, q_bzb, b_0, b_1, b_ft, b_tf, ne_eq, not_true_eq_false, not_false_eq_true, decide_true, decide_false, Bool.and_self, Bool.false_and, Bool.and_false, Bool.and_true, Bool.true_and, Bool.not_true, Bool.not_false, ↓reduceIte], by simp (disch := first | omega | rfl | assumption) only [(hu u (by omega)).2, q_cl, q_ps, q_pn, bI_t, bI_f, gI_same, gI_ne, gR_pI, gJ_pI, gV_pI, gN_pI, gC_pI, gS_pI, gI_pJ, gR_pJ, gV_pJ, gN_pJ, gJ_same, gJ_ne, gI_pR, gJ_pR, gV_pR, gN_pR, gR_same, gR_ne, zin_t, zin_f, x_ltt, x_ltf, x_let, x_lef, x_eqt, x_eqf, n_0, n_1, n_2, n_3, n_4, n_5, n_6, n_7, n_8, n_9, n_10, n_11, n_12, n_16, n_19, n_20, n_24, n_25, n_32, n_40, n_48, n_50, n_60, n_64, n_80, n_96, n_114, n_684, n_1000, n_9330, n_16806, n_1000000, n_5764800, ↓n_m, m_ltI, m_leI, m_lt', m_le', m_eq, m_eq', m_add, m_sub, mm_lt, mm_le, mm_eq, q_sub, nI_add, q_mul, nI_clamp, bz_0, bz_1, q_bzb, b_0, b_1, b_ft, b_tf, ne_eq, not_true_eq_false, not_false_eq_true, decide_true, decide_false, Bool.and_self, Bool.false_and, Bool.and_false, Bool.and_true, Bool.true_and, Bool.not_true, Bool.not_false, ↓reduceIte]⟩)
    exact ⟨h', e1.trans q1, q2, fr_trans f0 q3⟩
theorem c_mute (d : Nat) {G : Gh} {T j s : Nat} (hj : j < 24) (hs : s < 9330) (hT : tbs T 8 (fun u => decide (u < gnT G) && tch G j u)) {h : z_H} (m : cT h G) (hf : frh h G) :
    ∃ h', Rn (d + 5) 31 [z_R 9010 0, z_I (nI s), z_I (nI j), z_I (nI T)] h = some (some (z_I (bI (otB G j s (gnT G)))), h') ∧ (∀ u, u < gnT G → gI h' 8161 0 u = nI (rowN (wrt G (j + 1) u (stW s)))) ∧ fr pMu h h' := by
  obtain ⟨h', q1, q2, q3⟩ := c_mute_loop d hj hs hT (gnT G) 0 z_U z_U h (by omega) m hf (fun u hu => by omega)
  refine ⟨h', ?_, q2, q3⟩
  rw [rX1_mute, bX1_mute_0]
  exact q1
