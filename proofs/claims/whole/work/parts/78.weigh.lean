/-! ===== weighing stems, in the class ===== -/
theorem rowN_inj : ∀ (v w : List Nat), (∀ x ∈ v, 1 ≤ x ∧ x ≤ 6) → (∀ x ∈ w, 1 ≤ x ∧ x ≤ 6) → rowN v = rowN w → v = w := by
  intro v
  induction v with
  | nil =>
    intro w _ hw h
    cases w with
    | nil => rfl
    | cons x r =>
      have := hw x List.mem_cons_self
      have h2 : 0 = rowN r * 8 + x := h
      omega
  | cons a v ih =>
    intro w hv hw h
    cases w with
    | nil =>
      have := hv a List.mem_cons_self
      have h2 : rowN v * 8 + a = 0 := h
      omega
    | cons x r =>
      have h1 := hv a List.mem_cons_self
      have h3 := hw x List.mem_cons_self
      have h2 : rowN v * 8 + a = rowN r * 8 + x := h
      have e1 : a = x := by omega
      have e2 : rowN v = rowN r := by omega
      rw [e1, ih r (fun y hy => hv y (List.mem_cons_of_mem _ hy)) (fun y hy => hw y (List.mem_cons_of_mem _ hy)) e2]
def cntW (want : Nat → Option (List Nat)) : Nat → Nat
  | 0 => 0
  | n + 1 => cntW want n + (if want n = none then 0 else 1)
def fitC (G : Gh) (mu : Nat) (want : Nat → Option (List Nat)) (s : Nat) : Nat → Nat
  | 0 => 0
  | n + 1 => fitC G mu want s n + (if want n = some (wrt G mu n (stW s)) then 1 else 0)
/-- whether a stem is what is wanted everywhere -/
def moB (G : Gh) (mu : Nat) (want : Nat → Option (List Nat)) (s : Nat) : Nat → Bool
  | 0 => true
  | n + 1 => moB G mu want s n && (decide (want n = none) || decide (want n = some (wrt G mu n (stW s))))
theorem fit_le (G : Gh) (mu : Nat) (want : Nat → Option (List Nat)) (s : Nat) : ∀ n, fitC G mu want s n ≤ cntW want n ∧ cntW want n ≤ n := by
  intro n
  induction n with
  | zero => exact ⟨Nat.le_refl _, Nat.le_refl _⟩
  | succ n ih =>
    show fitC G mu want s n + (if want n = some (wrt G mu n (stW s)) then 1 else 0) ≤ cntW want n + (if want n = none then 0 else 1) ∧ cntW want n + (if want n = none then 0 else 1) ≤ n + 1
    by_cases h0 : want n = none
    · rw [if_pos h0, h0, if_neg (fun z => by cases z)]; omega
    · rw [if_neg h0]
      constructor
      · split <;> omega
      · omega
theorem fit_iff (G : Gh) (mu : Nat) (want : Nat → Option (List Nat)) (s : Nat) : ∀ n, (fitC G mu want s n = cntW want n) ↔ moB G mu want s n = true := by
  intro n
  induction n with
  | zero => exact ⟨fun _ => rfl, fun _ => rfl⟩
  | succ n ih =>
    have hle := fit_le G mu want s n
    show (fitC G mu want s n + (if want n = some (wrt G mu n (stW s)) then 1 else 0) = cntW want n + (if want n = none then 0 else 1)) ↔ (moB G mu want s n && (decide (want n = none) || decide (want n = some (wrt G mu n (stW s))))) = true
    by_cases h0 : want n = none
    · rw [if_pos h0, if_neg (fun z => by rw [h0] at z; cases z)]
      simp [h0, ih]
    · by_cases h1 : want n = some (wrt G mu n (stW s))
      · rw [if_neg h0, if_pos h1]
        simp only [h1, decide_true, Bool.or_true, Bool.and_true]
        rw [← ih]; omega
      · rw [if_neg h0, if_neg h1]
        simp only [h0, h1, decide_false, Bool.or_false, Bool.and_false]
        constructor
        · intro z; omega
        · intro z; cases z
theorem c_weigh_in (d : Nat) {G : Gh} {t j : Nat} (hG : okG G) (ht : t < gnT G) {want : Nat → Option (List Nat)} {v : List Nat} (hv : isW v) (hw : want t = some v) : ∀ (r s : Nat) (h : z_H), s + r = 9330 → gR h 9010 0 4 = 1 → (∀ i, i < 9330 → gJ h 9330404 j i = pkJ G t i) → (∀ i, i < s → gI h 9330141 0 i = nI (fitC G 0 want i (t + 1))) → (∀ i, s ≤ i → i < 9330 → gI h 9330141 0 i = nI (fitC G 0 want i t)) →
    ∃ h', EX d 21 67 [z_R 9010 0, z_I (nI t), z_R 9330404 j, z_L (Int32.toInt64 (nI (rowN v))), z_U, z_I (nI s)] [] h = EX d 21 104 [z_R 9010 0, z_I (nI t), z_R 9330404 j, z_L (Int32.toInt64 (nI (rowN v))), z_U, z_I (nI 9330)] [] h' ∧ (∀ i, i < 9330 → gI h' 9330141 0 i = nI (fitC G 0 want i (t + 1))) ∧ fr (fun p _ _ => p = 9330141) h h' := by
  intro r
  induction r with
  | zero =>
    intro s h hs e1 e2 e3 e4
    have : s = 9330 := by omega
    subst this
    refine ⟨h, ?_, e3, fr_rfl _ _⟩
    rw [bX1_weigh_67]
    simp (disch := first | omega | rfl | assumption) only [q_cl, q_ps, q_pn, bI_t, bI_f, gI_same, gI_ne, gR_pI, gJ_pI, gV_pI, gN_pI, gC_pI, gS_pI, gI_pJ, gR_pJ, gV_pJ, gN_pJ, gJ_same, gJ_ne, gI_pR, gJ_pR, gV_pR, gN_pR, gR_same, gR_ne, zin_t, zin_f, x_ltt, x_ltf, x_let, x_lef, x_eqt, x_eqf, n_0, n_1, n_2, n_3, n_4, n_5, n_6, n_7, n_8, n_9, n_10, n_11, n_12, n_16, n_19, n_20, n_24, n_25, n_32, n_40, n_48, n_50, n_60, n_64, n_80, n_96, n_114, n_684, n_1000, n_9330, n_16806, n_1000000, n_5764800, ↓n_m, m_ltI, m_leI, m_lt', m_le', m_eq, m_eq', m_add, m_sub, mm_lt, mm_le, mm_eq, q_sub, nI_add, q_mul, nI_clamp, bz_0, bz_1, q_bzb, b_0, b_1, b_ft, b_tf, ne_eq, not_true_eq_false, not_false_eq_true, decide_true, decide_false, Bool.and_self, Bool.false_and, Bool.and_false, Bool.and_true, Bool.true_and, Bool.not_true, Bool.not_false, ↓reduceIte]
  | succ r ih =>
    intro s h hs e1 e2 e3 e4
    have hsW : isW (stW s) := st_isW (by omega)
    have hfo := frm_ok hG 0 t (stW s) ht hsW
    have hwo := wrt_ok hG 0 ht hsW
    have p0 := pk_hi0 (rowN_lt' hwo) (rowN_lt' hfo)
    have pc := pk_cmp (rowN_lt' hwo) (rowN_lt' hv)
    have hJ := e2 s (by omega)
    unfold pkJ at hJ
    have hiff : (rowN (wrt G 0 t (stW s)) = rowN v) ↔ (want t = some (wrt G 0 t (stW s))) := by
      rw [hw]
      constructor
      · intro z; rw [rowN_inj _ _ hwo.2 hv.2 z]
      · intro z; rw [Option.some.inj z]
    have efit : fitC G 0 want s (t + 1) = fitC G 0 want s t + (if want t = some (wrt G 0 t (stW s)) then 1 else 0) := rfl
    by_cases hc : want t = some (wrt G 0 t (stW s))
    · rw [if_pos hc] at efit
      have hc2 := hiff.mpr hc
      have pcT : (lg_cmp (lN (rowN (wrt G 0 t (stW s)))) (Int32.toInt64 (nI (rowN v))) = nI 0) = True := pc.trans (eq_true hc2)
      obtain ⟨h', q1, q2, q3⟩ := ih (s + 1) (pI h 9330141 0 s (nI (fitC G 0 want s t + 1))) (by omega) e1 e2 (fun i hi => by
        by_cases e : i = s
        · subst e; rw [efit]; simp (disch := first | omega | rfl | assumption) only [q_cl, q_ps, q_pn, bI_t, bI_f, gI_same, gI_ne, gR_pI, gJ_pI, gV_pI, gN_pI, gC_pI, gS_pI, gI_pJ, gR_pJ, gV_pJ, gN_pJ, gJ_same, gJ_ne, gI_pR, gJ_pR, gV_pR, gN_pR, gR_same, gR_ne, zin_t, zin_f, x_ltt, x_ltf, x_let, x_lef, x_eqt, x_eqf, n_0, n_1, n_2, n_3, n_4, n_5, n_6, n_7, n_8, n_9, n_10, n_11, n_12, n_16, n_19, n_20, n_24, n_25, n_32, n_40, n_48, n_50, n_60, n_64, n_80, n_96, n_114, n_684, n_1000, n_9330, n_16806, n_1000000, n_5764800, ↓n_m, m_ltI, m_leI, m_lt', m_le', m_eq, m_eq', m_add, m_sub, mm_lt, mm_le, mm_eq, q_sub, nI_add, q_mul, nI_clamp, bz_0, bz_1, q_bzb, b_0, b_1, b_ft, b_tf, ne_eq, not_true_eq_false, not_false_eq_true, decide_true, decide_false, Bool.and_self, Bool.false_and, Bool.and_false, Bool.and_true, Bool.true_and, Bool.not_true, Bool.not_false, ↓reduceIte]
        · simp (disch := first | omega | rfl | assumption) only [e3 i (by omega), q_cl, q_ps, q_pn, bI_t, bI_f, gI_same, gI_ne, gR_pI, gJ_pI, gV_pI, gN_pI, gC_pI, gS_pI, gI_pJ, gR_pJ, gV_pJ, gN_pJ, gJ_same, gJ_ne, gI_pR, gJ_pR, gV_pR, gN_pR, gR_same, gR_ne, zin_t, zin_f, x_ltt, x_ltf, x_let, x_lef, x_eqt, x_eqf, n_0, n_1, n_2, n_3, n_4, n_5, n_6, n_7, n_8, n_9, n_10, n_11, n_12, n_16, n_19, n_20, n_24, n_25, n_32, n_40, n_48, n_50, n_60, n_64, n_80, n_96, n_114, n_684, n_1000, n_9330, n_16806, n_1000000, n_5764800, ↓n_m, m_ltI, m_leI, m_lt', m_le', m_eq, m_eq', m_add, m_sub, mm_lt, mm_le, mm_eq, q_sub, nI_add, q_mul, nI_clamp, bz_0, bz_1, q_bzb, b_0, b_1, b_ft, b_tf, ne_eq, not_true_eq_false, not_false_eq_true, decide_true, decide_false, Bool.and_self, Bool.false_and, Bool.and_false, Bool.and_true, Bool.true_and, Bool.not_true, Bool.not_false, ↓reduceIte]) (fun i h1 h2 => by simp (disch := first | omega | rfl | assumption) only [e4 i (by omega) h2, q_cl, q_ps, q_pn, bI_t, bI_f, gI_same, gI_ne, gR_pI, gJ_pI, gV_pI, gN_pI, gC_pI, gS_pI, gI_pJ, gR_pJ, gV_pJ, gN_pJ, gJ_same, gJ_ne, gI_pR, gJ_pR, gV_pR, gN_pR, gR_same, gR_ne, zin_t, zin_f, x_ltt, x_ltf, x_let, x_lef, x_eqt, x_eqf, n_0, n_1, n_2, n_3, n_4, n_5, n_6, n_7, n_8, n_9, n_10, n_11, n_12, n_16, n_19, n_20, n_24, n_25, n_32, n_40, n_48, n_50, n_60, n_64, n_80, n_96, n_114, n_684, n_1000, n_9330, n_16806, n_1000000, n_5764800, ↓n_m, m_ltI, m_leI, m_lt', m_le', m_eq, m_eq', m_add, m_sub, mm_lt, mm_le, mm_eq, q_sub, nI_add, q_mul, nI_clamp, bz_0, bz_1, q_bzb, b_0, b_1, b_ft, b_tf, ne_eq, not_true_eq_false, not_false_eq_true, decide_true, decide_false, Bool.and_self, Bool.false_and, Bool.and_false, Bool.and_true, Bool.true_and, Bool.not_true, Bool.not_false, ↓reduceIte])
      refine ⟨h', ?_, q2, fr_trans (fr_pI h _ rfl) q3⟩
      rw [bX1_weigh_67]
      simp (disch := first | omega | rfl | assumption) only [hJ, p0, pcT, e1, one_ne, Nat.sub_self, e4 s (Nat.le_refl _) (by omega), bX1_weigh_98, q_cl, q_ps, q_pn, bI_t, bI_f, gI_same, gI_ne, gR_pI, gJ_pI, gV_pI, gN_pI, gC_pI, gS_pI, gI_pJ, gR_pJ, gV_pJ, gN_pJ, gJ_same, gJ_ne, gI_pR, gJ_pR, gV_pR, gN_pR, gR_same, gR_ne, zin_t, zin_f, x_ltt, x_ltf, x_let, x_lef, x_eqt, x_eqf, n_0, n_1, n_2, n_3, n_4, n_5, n_6, n_7, n_8, n_9, n_10, n_11, n_12, n_16, n_19, n_20, n_24, n_25, n_32, n_40, n_48, n_50, n_60, n_64, n_80, n_96, n_114, n_684, n_1000, n_9330, n_16806, n_1000000, n_5764800, ↓n_m, m_ltI, m_leI, m_lt', m_le', m_eq, m_eq', m_add, m_sub, mm_lt, mm_le, mm_eq, q_sub, nI_add, q_mul, nI_clamp, bz_0, bz_1, q_bzb, b_0, b_1, b_ft, b_tf, ne_eq, not_true_eq_false, not_false_eq_true, decide_true, decide_false, Bool.and_self, Bool.false_and, Bool.and_false, Bool.and_true, Bool.true_and, Bool.not_true, Bool.not_false, ↓reduceIte]
      exact q1
    · rw [if_neg hc] at efit
      have hc2 : ¬ rowN (wrt G 0 t (stW s)) = rowN v := fun z => hc (hiff.mp z)
      obtain ⟨h', q1, q2, q3⟩ := ih (s + 1) h (by omega) e1 e2 (fun i hi => by
        by_cases e : i = s
        · subst e; rw [efit]; exact e4 i (Nat.le_refl _) (by omega)
        · exact e3 i (by omega)) (fun i h1 h2 => e4 i (by omega) h2)
      refine ⟨h', ?_, q2, q3⟩
      rw [bX1_weigh_67]
      simp (disch := first | omega | rfl | assumption) only [hJ, p0, pc, hc2, bX1_weigh_98, q_cl, q_ps, q_pn, bI_t, bI_f, gI_same, gI_ne, gR_pI, gJ_pI, gV_pI, gN_pI, gC_pI, gS_pI, gI_pJ, gR_pJ, gV_pJ, gN_pJ, gJ_same, gJ_ne, gI_pR, gJ_pR, gV_pR, gN_pR, gR_same, gR_ne, zin_t, zin_f, x_ltt, x_ltf, x_let, x_lef, x_eqt, x_eqf, n_0, n_1, n_2, n_3, n_4, n_5, n_6, n_7, n_8, n_9, n_10, n_11, n_12, n_16, n_19, n_20, n_24, n_25, n_32, n_40, n_48, n_50, n_60, n_64, n_80, n_96, n_114, n_684, n_1000, n_9330, n_16806, n_1000000, n_5764800, ↓n_m, m_ltI, m_leI, m_lt', m_le', m_eq, m_eq', m_add, m_sub, mm_lt, mm_le, mm_eq, q_sub, nI_add, q_mul, nI_clamp, bz_0, bz_1, q_bzb, b_0, b_1, b_ft, b_tf, ne_eq, not_true_eq_false, not_false_eq_true, decide_true, decide_false, Bool.and_self, Bool.false_and, Bool.and_false, Bool.and_true, Bool.true_and, Bool.not_true, Bool.not_false, ↓reduceIte]
      exact q1
theorem g_fits2 : ∀ p i k, (fun (p _ _ : Nat) => p = 9330141) p i k → grp p i k ∈ [12] := by
  intro p i k q
  have q2 : p = 9330141 := q
  subst q2
  exact (by decide : (12 : Nat) ∈ [12])
theorem rdy_fr {h h' : z_H} (f : frX [12] h h') (r : rdy h) : rdy h' := ⟨(f.2.1 _ _ _ (by decide)).trans r.1, (f.2.1 _ _ _ (by decide)).trans r.2.1, fun s hs => (f.1 _ _ _ (by exact (by decide : (4 : Nat) ∉ [12]))).trans (r.2.2 s hs)⟩
set_option maxRecDepth 100000 in
theorem c_weigh_loop (d : Nat) {N : Nat} {xs : Nat → Int32} {G : Gh} {e : Int32} {want : Nat → Option (List Nat)} (hwo : ∀ t, t < gnT G → okO (want t)) : ∀ (r t : Nat) (u2 u3 u4 u5 : z_V) (h : z_H), t + r = gnT G → InvG h N xs G e → rdy h → (∀ v, v < gnT G → gI h 8121 0 v = rowO (want v)) → gI h 9010 0 5 = nI (cntW want t) → (∀ s, s < 9330 → gI h 9330141 0 s = nI (fitC G 0 want s t)) → (∀ v, v < t → want v ≠ none → gI h 7080 v 6 = 0) →
    ∃ h', EX (d + 5) 21 19 [z_R 9010 0, z_I (nI t), u2, u3, u4, u5] [] h = some (none, h') ∧ InvG h' N xs G e ∧ rdy h' ∧ gI h' 9010 0 5 = nI (cntW want (gnT G)) ∧ (∀ s, s < 9330 → gI h' 9330141 0 s = nI (fitC G 0 want s (gnT G))) ∧ (∀ v, v < gnT G → want v ≠ none → gI h' 7080 v 6 = 0) ∧ (∀ k, gI h' 8121 0 k = gI h 8121 0 k) ∧ frX [4, 16, 12] h h' := by
  intro r
  induction r with
  | zero =>
    intro t u2 u3 u4 u5 h ht hG hr e1 e2 e3 e4
    have : t = gnT G := by omega
    subst this
    have ct := cT_of hG
    have a3 := ct.1.2.2.2.1
    refine ⟨h, ?_, hG, hr, e2, e3, e4, fun _ => rfl, frX_rfl _ _⟩
    rw [bX1_weigh_19]
    simp (disch := first | omega | rfl | assumption) only [ct.2.2.2.2.2.1, bX1_weigh_110, q_cl, q_ps, q_pn, bI_t, bI_f, gI_same, gI_ne, gR_pI, gJ_pI, gV_pI, gN_pI, gC_pI, gS_pI, gI_pJ, gR_pJ, gV_pJ, gN_pJ, gJ_same, gJ_ne, gI_pR, gJ_pR, gV_pR, gN_pR, gR_same, gR_ne, zin_t, zin_f, x_ltt, x_ltf, x_let, x_lef, x_eqt, x_eqf, n_0, n_1, n_2, n_3, n_4, n_5, n_6, n_7, n_8, n_9, n_10, n_11, n_12, n_16, n_19, n_20, n_24, n_25, n_32, n_40, n_48, n_50, n_60, n_64, n_80, n_96, n_114, n_684, n_1000, n_9330, n_16806, n_1000000, n_5764800, ↓n_m, m_ltI, m_leI, m_lt', m_le', m_eq, m_eq', m_add, m_sub, mm_lt, mm_le, mm_eq, q_sub, nI_add, q_mul, nI_clamp, bz_0, bz_1, q_bzb, b_0, b_1, b_ft, b_tf, ne_eq, not_true_eq_false, not_false_eq_true, decide_true, decide_false, Bool.and_self, Bool.false_and, Bool.and_false, Bool.and_true, Bool.true_and, Bool.not_true, Bool.not_false, ↓reduceIte]
  | succ r ih =>
    intro t u2 u3 u4 u5 h ht hG hr e1 e2 e3 e4
    have ct := cT_of hG
    have a3 := ct.1.2.2.2.1
    have htn : t < gnT G := by omega
    cases hw : want t with
    | none =>
      obtain ⟨h', p1, p2⟩ := ih (t + 1) u2 u3 u4 u5 h (by omega) hG hr e1 (by rw [e2]; show _ = nI (cntW want t + (if want t = none then 0 else 1)); rw [if_pos hw]; rfl) (fun s hs => by rw [e3 s hs]; show _ = nI (fitC G 0 want s t + (if want t = some (wrt G 0 t (stW s)) then 1 else 0)); rw [if_neg (by rw [hw]; intro z; cases z)]; rfl) (fun v h1 h2 => by
        by_cases q : v = t
        · subst q; exact absurd hw h2
        · exact e4 v (by omega) h2)
      refine ⟨h', ?_, p2⟩
      have e1t := e1 t htn
      rw [hw] at e1t
      rw [bX1_weigh_19]
      simp (disch := first | omega | rfl | assumption) only [ct.2.2.2.2.2.1, ct.2.1.1 9010 1 rfl, e1t, rowO_none, bX1_weigh_104, q_cl, q_ps, q_pn, bI_t, bI_f, gI_same, gI_ne, gR_pI, gJ_pI, gV_pI, gN_pI, gC_pI, gS_pI, gI_pJ, gR_pJ, gV_pJ, gN_pJ, gJ_same, gJ_ne, gI_pR, gJ_pR, gV_pR, gN_pR, gR_same, gR_ne, zin_t, zin_f, x_ltt, x_ltf, x_let, x_lef, x_eqt, x_eqf, n_0, n_1, n_2, n_3, n_4, n_5, n_6, n_7, n_8, n_9, n_10, n_11, n_12, n_16, n_19, n_20, n_24, n_25, n_32, n_40, n_48, n_50, n_60, n_64, n_80, n_96, n_114, n_684, n_1000, n_9330, n_16806, n_1000000, n_5764800, ↓n_m, m_ltI, m_leI, m_lt', m_le', m_eq, m_eq', m_add, m_sub, mm_lt, mm_le, mm_eq, q_sub, nI_add, q_mul, nI_clamp, bz_0, bz_1, q_bzb, b_0, b_1, b_ft, b_tf, ne_eq, not_true_eq_false, not_false_eq_true, decide_true, decide_false, Bool.and_self, Bool.false_and, Bool.and_false, Bool.and_true, Bool.true_and, Bool.not_true, Bool.not_false, ↓reduceIte]
      exact p1
    | some v =>
      have hv : isW v := hwo t htn v hw
      have hlt := rowN_lt' hv
      have e1t := e1 t htn
      rw [hw] at e1t
      have FA : frX [12] h (pI h 9010 0 5 (nI (cntW want t + 1))) := (frX_pI2 12 rfl (by decide) _ _)
      have IA := Inv_scr FA hG
      have rA := rdy_fr FA hr
      obtain ⟨h1, q1, q2, q3, q4, q5, q6, q7⟩ := c_freshened d htn (c_prep_rdy (d + 3) rA) IA rA
      have c1 := cT_of q2
      have hfr : gI h1 7080 t 6 = 0 := q4 t (by omega) (ch_self ct.1.2.2.2.2.1 t)
      have hforms : gR h1 7080 t 5 ≠ 0 ∧ ∀ s, s < 9330 → gJ h1 9330404 (gR h1 7080 t 5 - 1) s = pkJ G t s := by
        rcases (I_F q2).2.2.2.2.2.2 t htn with y | ⟨y1, y2, y3⟩
        · rw [hfr] at y; cases y
        · exact ⟨y2, y3⟩
      obtain ⟨h2, p1, p2, p3⟩ := c_weigh_in (d + 5) (j := gR h1 7080 t 5 - 1) ct.1 htn hv hw 9330 0 h1 (by omega) q3.2.1 hforms.2 (fun i hi => by omega) (fun i h1 h2 => by rw [q6 _ _ _ (by decide) (by decide)]; simp (disch := first | omega | rfl | assumption) only [e3 i h2, q_cl, q_ps, q_pn, bI_t, bI_f, gI_same, gI_ne, gR_pI, gJ_pI, gV_pI, gN_pI, gC_pI, gS_pI, gI_pJ, gR_pJ, gV_pJ, gN_pJ, gJ_same, gJ_ne, gI_pR, gJ_pR, gV_pR, gN_pR, gR_same, gR_ne, zin_t, zin_f, x_ltt, x_ltf, x_let, x_lef, x_eqt, x_eqf, n_0, n_1, n_2, n_3, n_4, n_5, n_6, n_7, n_8, n_9, n_10, n_11, n_12, n_16, n_19, n_20, n_24, n_25, n_32, n_40, n_48, n_50, n_60, n_64, n_80, n_96, n_114, n_684, n_1000, n_9330, n_16806, n_1000000, n_5764800, ↓n_m, m_ltI, m_leI, m_lt', m_le', m_eq, m_eq', m_add, m_sub, mm_lt, mm_le, mm_eq, q_sub, nI_add, q_mul, nI_clamp, bz_0, bz_1, q_bzb, b_0, b_1, b_ft, b_tf, ne_eq, not_true_eq_false, not_false_eq_true, decide_true, decide_false, Bool.and_self, Bool.false_and, Bool.and_false, Bool.and_true, Bool.true_and, Bool.not_true, Bool.not_false, ↓reduceIte])
      have F2 : frX [12] h1 h2 := frX_fr p3 g_fits2
      have I2 := Inv_scr F2 q2
      have r2 := rdy_fr F2 q3
      have k2 : ∀ p i k, p ≠ 9330141 → gI h2 p i k = gI h1 p i k := fun p i k z => p3.2 p i k z
      obtain ⟨h', s1, s2, s3, s4, s5, s6, s7, s8⟩ := ih (t + 1) (z_R 9330404 (gR h1 7080 t 5 - 1)) (z_L (Int32.toInt64 (nI (rowN v)))) z_U (z_I (nI 9330)) h2 (by omega) I2 r2 (fun u hu => by rw [k2 _ _ _ (by decide), q6 _ _ _ (by decide) (by decide)]; simp (disch := first | omega | rfl | assumption) only [e1 u hu, q_cl, q_ps, q_pn, bI_t, bI_f, gI_same, gI_ne, gR_pI, gJ_pI, gV_pI, gN_pI, gC_pI, gS_pI, gI_pJ, gR_pJ, gV_pJ, gN_pJ, gJ_same, gJ_ne, gI_pR, gJ_pR, gV_pR, gN_pR, gR_same, gR_ne, zin_t, zin_f, x_ltt, x_ltf, x_let, x_lef, x_eqt, x_eqf, n_0, n_1, n_2, n_3, n_4, n_5, n_6, n_7, n_8, n_9, n_10, n_11, n_12, n_16, n_19, n_20, n_24, n_25, n_32, n_40, n_48, n_50, n_60, n_64, n_80, n_96, n_114, n_684, n_1000, n_9330, n_16806, n_1000000, n_5764800, ↓n_m, m_ltI, m_leI, m_lt', m_le', m_eq, m_eq', m_add, m_sub, mm_lt, mm_le, mm_eq, q_sub, nI_add, q_mul, nI_clamp, bz_0, bz_1, q_bzb, b_0, b_1, b_ft, b_tf, ne_eq, not_true_eq_false, not_false_eq_true, decide_true, decide_false, Bool.and_self, Bool.false_and, Bool.and_false, Bool.and_true, Bool.true_and, Bool.not_true, Bool.not_false, ↓reduceIte]) (by rw [k2 _ _ _ (by decide), q6 _ _ _ (by decide) (by decide)]; show _ = nI (cntW want t + (if want t = none then 0 else 1)); rw [if_neg (by rw [hw]; intro z; cases z)]; simp (disch := first | omega | rfl | assumption) only [q_cl, q_ps, q_pn, bI_t, bI_f, gI_same, gI_ne, gR_pI, gJ_pI, gV_pI, gN_pI, gC_pI, gS_pI, gI_pJ, gR_pJ, gV_pJ, gN_pJ, gJ_same, gJ_ne, gI_pR, gJ_pR, gV_pR, gN_pR, gR_same, gR_ne, zin_t, zin_f, x_ltt, x_ltf, x_let, x_lef, x_eqt, x_eqf, n_0, n_1, n_2, n_3, n_4, n_5, n_6, n_7, n_8, n_9, n_10, n_11, n_12, n_16, n_19, n_20, n_24, n_25, n_32, n_40, n_48, n_50, n_60, n_64, n_80, n_96, n_114, n_684, n_1000, n_9330, n_16806, n_1000000, n_5764800, ↓n_m, m_ltI, m_leI, m_lt', m_le', m_eq, m_eq', m_add, m_sub, mm_lt, mm_le, mm_eq, q_sub, nI_add, q_mul, nI_clamp, bz_0, bz_1, q_bzb, b_0, b_1, b_ft, b_tf, ne_eq, not_true_eq_false, not_false_eq_true, decide_true, decide_false, Bool.and_self, Bool.false_and, Bool.and_false, Bool.and_true, Bool.true_and, Bool.not_true, Bool.not_false, ↓reduceIte]) p2 (fun u h1 h2 => by
        rw [k2 _ _ _ (by decide)]
        by_cases q : u = t
        · subst q; exact hfr
        · refine q5 u ?_
          simp (disch := first | omega | rfl | assumption) only [q_cl, q_ps, q_pn, bI_t, bI_f, gI_same, gI_ne, gR_pI, gJ_pI, gV_pI, gN_pI, gC_pI, gS_pI, gI_pJ, gR_pJ, gV_pJ, gN_pJ, gJ_same, gJ_ne, gI_pR, gJ_pR, gV_pR, gN_pR, gR_same, gR_ne, zin_t, zin_f, x_ltt, x_ltf, x_let, x_lef, x_eqt, x_eqf, n_0, n_1, n_2, n_3, n_4, n_5, n_6, n_7, n_8, n_9, n_10, n_11, n_12, n_16, n_19, n_20, n_24, n_25, n_32, n_40, n_48, n_50, n_60, n_64, n_80, n_96, n_114, n_684, n_1000, n_9330, n_16806, n_1000000, n_5764800, ↓n_m, m_ltI, m_leI, m_lt', m_le', m_eq, m_eq', m_add, m_sub, mm_lt, mm_le, mm_eq, q_sub, nI_add, q_mul, nI_clamp, bz_0, bz_1, q_bzb, b_0, b_1, b_ft, b_tf, ne_eq, not_true_eq_false, not_false_eq_true, decide_true, decide_false, Bool.and_self, Bool.false_and, Bool.and_false, Bool.and_true, Bool.true_and, Bool.not_true, Bool.not_false, ↓reduceIte]
          exact e4 u (by omega) h2)
      refine ⟨h', ?_, s2, s3, s4, s5, s6, fun k => ?_, frX_trans (frX_mono (by decide) FA) (frX_trans (frX_mono (by decide) q7) (frX_trans (frX_mono (by decide) F2) s8))⟩
      · rw [bX1_weigh_19]
        have e8 : gI h1 8121 0 t = nI (rowN v) := by rw [q6 _ _ _ (by decide) (by decide)]; simp (disch := first | omega | rfl | assumption) only [e1t, q_cl, q_ps, q_pn, bI_t, bI_f, gI_same, gI_ne, gR_pI, gJ_pI, gV_pI, gN_pI, gC_pI, gS_pI, gI_pJ, gR_pJ, gV_pJ, gN_pJ, gJ_same, gJ_ne, gI_pR, gJ_pR, gV_pR, gN_pR, gR_same, gR_ne, zin_t, zin_f, x_ltt, x_ltf, x_let, x_lef, x_eqt, x_eqf, n_0, n_1, n_2, n_3, n_4, n_5, n_6, n_7, n_8, n_9, n_10, n_11, n_12, n_16, n_19, n_20, n_24, n_25, n_32, n_40, n_48, n_50, n_60, n_64, n_80, n_96, n_114, n_684, n_1000, n_9330, n_16806, n_1000000, n_5764800, ↓n_m, m_ltI, m_leI, m_lt', m_le', m_eq, m_eq', m_add, m_sub, mm_lt, mm_le, mm_eq, q_sub, nI_add, q_mul, nI_clamp, bz_0, bz_1, q_bzb, b_0, b_1, b_ft, b_tf, ne_eq, not_true_eq_false, not_false_eq_true, decide_true, decide_false, Bool.and_self, Bool.false_and, Bool.and_false, Bool.and_true, Bool.true_and, Bool.not_true, Bool.not_false, ↓reduceIte]; rfl
        simp (disch := first | omega | rfl | assumption) only [ct.2.2.2.2.2.1, ct.2.1.1 9010 1 rfl, e1t, rowO_some, e2, q1, bX1_weigh_52, hforms.1, c1.2.1.1 9010 1 rfl, e8, p1, bX1_weigh_104, q_cl, q_ps, q_pn, bI_t, bI_f, gI_same, gI_ne, gR_pI, gJ_pI, gV_pI, gN_pI, gC_pI, gS_pI, gI_pJ, gR_pJ, gV_pJ, gN_pJ, gJ_same, gJ_ne, gI_pR, gJ_pR, gV_pR, gN_pR, gR_same, gR_ne, zin_t, zin_f, x_ltt, x_ltf, x_let, x_lef, x_eqt, x_eqf, n_0, n_1, n_2, n_3, n_4, n_5, n_6, n_7, n_8, n_9, n_10, n_11, n_12, n_16, n_19, n_20, n_24, n_25, n_32, n_40, n_48, n_50, n_60, n_64, n_80, n_96, n_114, n_684, n_1000, n_9330, n_16806, n_1000000, n_5764800, ↓n_m, m_ltI, m_leI, m_lt', m_le', m_eq, m_eq', m_add, m_sub, mm_lt, mm_le, mm_eq, q_sub, nI_add, q_mul, nI_clamp, bz_0, bz_1, q_bzb, b_0, b_1, b_ft, b_tf, ne_eq, not_true_eq_false, not_false_eq_true, decide_true, decide_false, Bool.and_self, Bool.false_and, Bool.and_false, Bool.and_true, Bool.true_and, Bool.not_true, Bool.not_false, ↓reduceIte]
        exact s1
      · rw [s7 k, k2 _ _ _ (by decide), q6 _ _ _ (by decide) (by decide)]
        simp (disch := first | omega | rfl | assumption) only [q_cl, q_ps, q_pn, bI_t, bI_f, gI_same, gI_ne, gR_pI, gJ_pI, gV_pI, gN_pI, gC_pI, gS_pI, gI_pJ, gR_pJ, gV_pJ, gN_pJ, gJ_same, gJ_ne, gI_pR, gJ_pR, gV_pR, gN_pR, gR_same, gR_ne, zin_t, zin_f, x_ltt, x_ltf, x_let, x_lef, x_eqt, x_eqf, n_0, n_1, n_2, n_3, n_4, n_5, n_6, n_7, n_8, n_9, n_10, n_11, n_12, n_16, n_19, n_20, n_24, n_25, n_32, n_40, n_48, n_50, n_60, n_64, n_80, n_96, n_114, n_684, n_1000, n_9330, n_16806, n_1000000, n_5764800, ↓n_m, m_ltI, m_leI, m_lt', m_le', m_eq, m_eq', m_add, m_sub, mm_lt, mm_le, mm_eq, q_sub, nI_add, q_mul, nI_clamp, bz_0, bz_1, q_bzb, b_0, b_1, b_ft, b_tf, ne_eq, not_true_eq_false, not_false_eq_true, decide_true, decide_false, Bool.and_self, Bool.false_and, Bool.and_false, Bool.and_true, Bool.true_and, Bool.not_true, Bool.not_false, ↓reduceIte]

theorem c_weigh (d : Nat) {h : z_H} {N : Nat} {xs : Nat → Int32} {G : Gh} {e : Int32} (hG : InvG h N xs G e) {want : Nat → Option (List Nat)} (hwo : ∀ t, t < gnT G → okO (want t)) (hw : ∀ v, v < gnT G → gI h 8121 0 v = rowO (want v)) :
    ∃ h', Rn (d + 6) 21 [z_R 9010 0] h = some (none, h') ∧ InvG h' N xs G e ∧ rdy h' ∧ gI h' 9010 0 5 = nI (cntW want (gnT G)) ∧ (∀ s, s < 9330 → gI h' 9330141 0 s = nI (fitC G 0 want s (gnT G))) ∧ (∀ v, v < gnT G → want v ≠ none → gI h' 7080 v 6 = 0) ∧ (∀ k, gI h' 8121 0 k = gI h 8121 0 k) ∧ frX [4, 16, 12] h h' := by
  obtain ⟨h1, e1, e2, e3, e4, e5⟩ := c_prepare (d + 3) hG
  obtain ⟨h2, f1, f2, f3⟩ := c_fill_b (d + 4) (nI 0) h1
  have F2 : frX [12] h1 h2 := frX_fr f3 g_fits2
  have I2 := Inv_scr F2 e2
  have r2 := rdy_fr F2 e3
  have F3 : frX [12] h2 (pI h2 9010 0 5 (nI 0)) := (frX_pI2 12 rfl (by decide) _ _)
  have k2 : ∀ p i k, p ≠ 9330141 → gI h2 p i k = gI h1 p i k := fun p i k z => f3.2 p i k z
  obtain ⟨h', s1, s2, s3, s4, s5, s6, s7, s8⟩ := c_weigh_loop d hwo (gnT G) 0 z_U z_U z_U z_U (pI h2 9010 0 5 (nI 0)) (by omega) (Inv_scr F3 I2) (rdy_fr F3 r2) (fun v hv => by rw [gI_ne (by omega), k2 _ _ _ (by decide), e5 _ _ _ (by decide) (by decide)]; exact hw v hv) (by simp (disch := first | omega | rfl | assumption) only [q_cl, q_ps, q_pn, bI_t, bI_f, gI_same, gI_ne, gR_pI, gJ_pI, gV_pI, gN_pI, gC_pI, gS_pI, gI_pJ, gR_pJ, gV_pJ, gN_pJ, gJ_same, gJ_ne, gI_pR, gJ_pR, gV_pR, gN_pR, gR_same, gR_ne, zin_t, zin_f, x_ltt, x_ltf, x_let, x_lef, x_eqt, x_eqf, n_0, n_1, n_2, n_3, n_4, n_5, n_6, n_7, n_8, n_9, n_10, n_11, n_12, n_16, n_19, n_20, n_24, n_25, n_32, n_40, n_48, n_50, n_60, n_64, n_80, n_96, n_114, n_684, n_1000, n_9330, n_16806, n_1000000, n_5764800, ↓n_m, m_ltI, m_leI, m_lt', m_le', m_eq, m_eq', m_add, m_sub, mm_lt, mm_le, mm_eq, q_sub, nI_add, q_mul, nI_clamp, bz_0, bz_1, q_bzb, b_0, b_1, b_ft, b_tf, ne_eq, not_true_eq_false, not_false_eq_true, decide_true, decide_false, Bool.and_self, Bool.false_and, Bool.and_false, Bool.and_true, Bool.true_and, Bool.not_true, Bool.not_false, ↓reduceIte]; rfl) (fun s hs => by rw [gI_ne (by omega)]; exact f2 s hs) (fun v hv => by omega)
  refine ⟨h', ?_, s2, s3, s4, s5, s6, fun k => ?_, frX_trans (frX_mono (by decide) e4) (frX_trans (frX_mono (by decide) F2) (frX_trans (frX_mono (by decide) F3) s8))⟩
  · rw [rX1_weigh, bX1_weigh_0]
    simp (disch := first | omega | rfl | assumption) only [e1, bX1_weigh_4, e3.2.1, one_ne, Nat.sub_self, f1, bX1_weigh_12, q_cl, q_ps, q_pn, bI_t, bI_f, gI_same, gI_ne, gR_pI, gJ_pI, gV_pI, gN_pI, gC_pI, gS_pI, gI_pJ, gR_pJ, gV_pJ, gN_pJ, gJ_same, gJ_ne, gI_pR, gJ_pR, gV_pR, gN_pR, gR_same, gR_ne, zin_t, zin_f, x_ltt, x_ltf, x_let, x_lef, x_eqt, x_eqf, n_0, n_1, n_2, n_3, n_4, n_5, n_6, n_7, n_8, n_9, n_10, n_11, n_12, n_16, n_19, n_20, n_24, n_25, n_32, n_40, n_48, n_50, n_60, n_64, n_80, n_96, n_114, n_684, n_1000, n_9330, n_16806, n_1000000, n_5764800, ↓n_m, m_ltI, m_leI, m_lt', m_le', m_eq, m_eq', m_add, m_sub, mm_lt, mm_le, mm_eq, q_sub, nI_add, q_mul, nI_clamp, bz_0, bz_1, q_bzb, b_0, b_1, b_ft, b_tf, ne_eq, not_true_eq_false, not_false_eq_true, decide_true, decide_false, Bool.and_self, Bool.false_and, Bool.and_false, Bool.and_true, Bool.true_and, Bool.not_true, Bool.not_false, ↓reduceIte]
    exact s1
  · rw [s7 k, gI_ne (by omega), k2 _ _ _ (by decide), e5 _ _ _ (by decide) (by decide)]
/-! questions to all stems -/
def cntB (p : Nat → Bool) : Nat → Nat
  | 0 => 0
  | n + 1 => cntB p n + (if p n = true then 1 else 0)
theorem cntB_congr {p q : Nat → Bool} : ∀ n, (∀ k, k < n → p k = q k) → cntB p n = cntB q n := by
  intro n
  induction n with
  | zero => intro _; rfl
  | succ n ih =>
    intro h
    show cntB p n + (if p n = true then 1 else 0) = cntB q n + (if q n = true then 1 else 0)
    rw [ih (fun k hk => h k (by omega)), h n (by omega)]
theorem cntB_le (p : Nat → Bool) : ∀ n, cntB p n ≤ n := by
  intro n
  induction n with
  | zero => exact Nat.le_refl _
  | succ n ih =>
    show cntB p n + (if p n = true then 1 else 0) ≤ n + 1
    split <;> omega
def nthF (p : Nat → Bool) : Nat → Nat → Nat → Option Nat
  | 0, _, _ => none
  | r + 1, s, l => if p s = true then (if l = 0 then some s else nthF p r (s + 1) (l - 1)) else nthF p r (s + 1) l
theorem nthF_lt {p : Nat → Bool} : ∀ r s l k, nthF p r s l = some k → s ≤ k ∧ k < s + r := by
  intro r
  induction r with
  | zero => intro s l k h; cases h
  | succ r ih =>
    intro s l k h
    have h' : (if p s = true then (if l = 0 then some s else nthF p r (s + 1) (l - 1)) else nthF p r (s + 1) l) = some k := h
    by_cases h1 : p s = true
    · rw [if_pos h1] at h'
      by_cases h2 : l = 0
      · rw [if_pos h2] at h'
        cases h'
        omega
      · rw [if_neg h2] at h'
        have := ih _ _ _ h'
        omega
    · rw [if_neg h1] at h'
      have := ih _ _ _ h'
      omega
theorem nthF_congr {p q : Nat → Bool} : ∀ r s l, (∀ k, s ≤ k → k < s + r → p k = q k) → nthF p r s l = nthF q r s l := by
  intro r
  induction r with
  | zero => intro _ _ _; rfl
  | succ r ih =>
    intro s l h
    show (if p s = true then (if l = 0 then some s else nthF p r (s + 1) (l - 1)) else nthF p r (s + 1) l) = (if q s = true then (if l = 0 then some s else nthF q r (s + 1) (l - 1)) else nthF q r (s + 1) l)
    rw [h s (by omega) (by omega), ih (s + 1) (l - 1) (fun k h1 h2 => h k (by omega) (by omega)), ih (s + 1) l (fun k h1 h2 => h k (by omega) (by omega))]
/-- weighed: what fits -/
def wgd (h : z_H) (n : Nat) (f : Nat → Nat) : Prop := rdy h ∧ n < 10 ∧ (∀ s, f s < 10) ∧ gI h 9010 0 5 = nI n ∧ ∀ s, s < 9330 → gI h 9330141 0 s = nI (f s)
theorem c_count_loop (d : Nat) {h : z_H} {n : Nat} {f : Nat → Nat} (hw : wgd h n f) : ∀ (r s : Nat), s + r = 9330 → EX d 22 4 [z_R 9010 0, z_I (nI (cntB (fun k => decide (f k = n)) s)), z_I (nI s)] [] h = some (some (z_I (nI (cntB (fun k => decide (f k = n)) 9330))), h) := by
  obtain ⟨hr, hn, hf, e1, e2⟩ := hw
  intro r
  induction r with
  | zero =>
    intro s hs
    have : s = 9330 := by omega
    subst this
    rw [bX1_countFitting_4]
    simp (disch := first | omega | rfl | assumption) only [bX1_countFitting_33, q_cl, q_ps, q_pn, bI_t, bI_f, gI_same, gI_ne, gR_pI, gJ_pI, gV_pI, gN_pI, gC_pI, gS_pI, gI_pJ, gR_pJ, gV_pJ, gN_pJ, gJ_same, gJ_ne, gI_pR, gJ_pR, gV_pR, gN_pR, gR_same, gR_ne, zin_t, zin_f, x_ltt, x_ltf, x_let, x_lef, x_eqt, x_eqf, n_0, n_1, n_2, n_3, n_4, n_5, n_6, n_7, n_8, n_9, n_10, n_11, n_12, n_16, n_19, n_20, n_24, n_25, n_32, n_40, n_48, n_50, n_60, n_64, n_80, n_96, n_114, n_684, n_1000, n_9330, n_16806, n_1000000, n_5764800, ↓n_m, m_ltI, m_leI, m_lt', m_le', m_eq, m_eq', m_add, m_sub, mm_lt, mm_le, mm_eq, q_sub, nI_add, q_mul, nI_clamp, bz_0, bz_1, q_bzb, b_0, b_1, b_ft, b_tf, ne_eq, not_true_eq_false, not_false_eq_true, decide_true, decide_false, Bool.and_self, Bool.false_and, Bool.and_false, Bool.and_true, Bool.true_and, Bool.not_true, Bool.not_false, ↓reduceIte]
  | succ r ih =>
    intro s hs
    have ih1 := ih (s + 1) (by omega)
    have hfs := hf s
    have e3 : cntB (fun k => decide (f k = n)) (s + 1) = cntB (fun k => decide (f k = n)) s + (if decide (f s = n) = true then 1 else 0) := rfl
    rw [bX1_countFitting_4]
    by_cases hq : f s = n
    · rw [if_pos (by simpa using hq)] at e3
      rw [e3] at ih1
      simp (disch := first | omega | rfl | assumption) only [hr.2.1, one_ne, Nat.sub_self, e2 s (by omega), e1, bX1_countFitting_27, q_cl, q_ps, q_pn, bI_t, bI_f, gI_same, gI_ne, gR_pI, gJ_pI, gV_pI, gN_pI, gC_pI, gS_pI, gI_pJ, gR_pJ, gV_pJ, gN_pJ, gJ_same, gJ_ne, gI_pR, gJ_pR, gV_pR, gN_pR, gR_same, gR_ne, zin_t, zin_f, x_ltt, x_ltf, x_let, x_lef, x_eqt, x_eqf, n_0, n_1, n_2, n_3, n_4, n_5, n_6, n_7, n_8, n_9, n_10, n_11, n_12, n_16, n_19, n_20, n_24, n_25, n_32, n_40, n_48, n_50, n_60, n_64, n_80, n_96, n_114, n_684, n_1000, n_9330, n_16806, n_1000000, n_5764800, ↓n_m, m_ltI, m_leI, m_lt', m_le', m_eq, m_eq', m_add, m_sub, mm_lt, mm_le, mm_eq, q_sub, nI_add, q_mul, nI_clamp, bz_0, bz_1, q_bzb, b_0, b_1, b_ft, b_tf, ne_eq, not_true_eq_false, not_false_eq_true, decide_true, decide_false, Bool.and_self, Bool.false_and, Bool.and_false, Bool.and_true, Bool.true_and, Bool.not_true, Bool.not_false, ↓reduceIte]
      exact ih1
    · rw [if_neg (by simpa using hq)] at e3
      rw [e3] at ih1
      simp (disch := first | omega | rfl | assumption) only [hr.2.1, one_ne, Nat.sub_self, e2 s (by omega), e1, bX1_countFitting_27, q_cl, q_ps, q_pn, bI_t, bI_f, gI_same, gI_ne, gR_pI, gJ_pI, gV_pI, gN_pI, gC_pI, gS_pI, gI_pJ, gR_pJ, gV_pJ, gN_pJ, gJ_same, gJ_ne, gI_pR, gJ_pR, gV_pR, gN_pR, gR_same, gR_ne, zin_t, zin_f, x_ltt, x_ltf, x_let, x_lef, x_eqt, x_eqf, n_0, n_1, n_2, n_3, n_4, n_5, n_6, n_7, n_8, n_9, n_10, n_11, n_12, n_16, n_19, n_20, n_24, n_25, n_32, n_40, n_48, n_50, n_60, n_64, n_80, n_96, n_114, n_684, n_1000, n_9330, n_16806, n_1000000, n_5764800, ↓n_m, m_ltI, m_leI, m_lt', m_le', m_eq, m_eq', m_add, m_sub, mm_lt, mm_le, mm_eq, q_sub, nI_add, q_mul, nI_clamp, bz_0, bz_1, q_bzb, b_0, b_1, b_ft, b_tf, ne_eq, not_true_eq_false, not_false_eq_true, decide_true, decide_false, Bool.and_self, Bool.false_and, Bool.and_false, Bool.and_true, Bool.true_and, Bool.not_true, Bool.not_false, ↓reduceIte]
      exact ih1
theorem c_count (d : Nat) {h : z_H} {n : Nat} {f : Nat → Nat} (hw : wgd h n f) : Rn (d + 1) 22 [z_R 9010 0] h = some (some (z_I (nI (cntB (fun k => decide (f k = n)) 9330))), h) := by
  rw [rX1_countFitting, bX1_countFitting_0]
  exact c_count_loop d hw 9330 0 (by omega)
theorem m_dec {l : Nat} (h : l ≠ 0) : nI l + mI = nI (l - 1) := by
  rw [← q_sub (a := l) (b := 1) (by omega), Int32.sub_eq_add_neg]
  rfl
theorem c_fitAt_loop (d : Nat) {h : z_H} {n : Nat} {f : Nat → Nat} (hw : wgd h n f) (x1 : Int32) : ∀ (r s l : Nat), s + r = 9330 → l < 2 ^ 31 → EX d 23 4 [z_R 9010 0, z_I x1, z_I (nI l), z_I (nI s)] [] h = some (some (z_I (match nthF (fun k => decide (f k = n)) r s l with | none => mI | some k => nI (rowN (stW k)))), h) := by
  obtain ⟨hr, hn, hf, e1, e2⟩ := hw
  intro r
  induction r with
  | zero =>
    intro s l hs hl
    have : s = 9330 := by omega
    subst this
    rw [bX1_fittingAt_4]
    simp (disch := first | omega | rfl | assumption) only [bX1_fittingAt_44, q_cl, q_ps, q_pn, bI_t, bI_f, gI_same, gI_ne, gR_pI, gJ_pI, gV_pI, gN_pI, gC_pI, gS_pI, gI_pJ, gR_pJ, gV_pJ, gN_pJ, gJ_same, gJ_ne, gI_pR, gJ_pR, gV_pR, gN_pR, gR_same, gR_ne, zin_t, zin_f, x_ltt, x_ltf, x_let, x_lef, x_eqt, x_eqf, n_0, n_1, n_2, n_3, n_4, n_5, n_6, n_7, n_8, n_9, n_10, n_11, n_12, n_16, n_19, n_20, n_24, n_25, n_32, n_40, n_48, n_50, n_60, n_64, n_80, n_96, n_114, n_684, n_1000, n_9330, n_16806, n_1000000, n_5764800, ↓n_m, m_ltI, m_leI, m_lt', m_le', m_eq, m_eq', m_add, m_sub, mm_lt, mm_le, mm_eq, q_sub, nI_add, q_mul, nI_clamp, bz_0, bz_1, q_bzb, b_0, b_1, b_ft, b_tf, ne_eq, not_true_eq_false, not_false_eq_true, decide_true, decide_false, Bool.and_self, Bool.false_and, Bool.and_false, Bool.and_true, Bool.true_and, Bool.not_true, Bool.not_false, ↓reduceIte]
    rfl
  | succ r ih =>
    intro s l hs hl
    have hfs := hf s
    have e3 : nthF (fun k => decide (f k = n)) (r + 1) s l = if decide (f s = n) = true then (if l = 0 then some s else nthF (fun k => decide (f k = n)) r (s + 1) (l - 1)) else nthF (fun k => decide (f k = n)) r (s + 1) l := rfl
    rw [bX1_fittingAt_4]
    by_cases hq : f s = n
    · rw [if_pos (by simpa using hq)] at e3
      by_cases hl0 : l = 0
      · rw [if_pos hl0] at e3
        rw [e3]
        simp (disch := first | omega | rfl | assumption) only [hr.1, hr.2.1, one_ne, Nat.sub_self, e2 s (by omega), e1, hr.2.2 s (by omega), q_cl, q_ps, q_pn, bI_t, bI_f, gI_same, gI_ne, gR_pI, gJ_pI, gV_pI, gN_pI, gC_pI, gS_pI, gI_pJ, gR_pJ, gV_pJ, gN_pJ, gJ_same, gJ_ne, gI_pR, gJ_pR, gV_pR, gN_pR, gR_same, gR_ne, zin_t, zin_f, x_ltt, x_ltf, x_let, x_lef, x_eqt, x_eqf, n_0, n_1, n_2, n_3, n_4, n_5, n_6, n_7, n_8, n_9, n_10, n_11, n_12, n_16, n_19, n_20, n_24, n_25, n_32, n_40, n_48, n_50, n_60, n_64, n_80, n_96, n_114, n_684, n_1000, n_9330, n_16806, n_1000000, n_5764800, ↓n_m, m_ltI, m_leI, m_lt', m_le', m_eq, m_eq', m_add, m_sub, mm_lt, mm_le, mm_eq, q_sub, nI_add, q_mul, nI_clamp, bz_0, bz_1, q_bzb, b_0, b_1, b_ft, b_tf, ne_eq, not_true_eq_false, not_false_eq_true, decide_true, decide_false, Bool.and_self, Bool.false_and, Bool.and_false, Bool.and_true, Bool.true_and, Bool.not_true, Bool.not_false, ↓reduceIte]
      · rw [if_neg hl0] at e3
        rw [e3, ← ih (s + 1) (l - 1) (by omega) (by omega)]
        simp (disch := first | omega | rfl | assumption) only [hr.2.1, one_ne, Nat.sub_self, e2 s (by omega), e1, bX1_fittingAt_35, m_dec hl0, bX1_fittingAt_38, q_cl, q_ps, q_pn, bI_t, bI_f, gI_same, gI_ne, gR_pI, gJ_pI, gV_pI, gN_pI, gC_pI, gS_pI, gI_pJ, gR_pJ, gV_pJ, gN_pJ, gJ_same, gJ_ne, gI_pR, gJ_pR, gV_pR, gN_pR, gR_same, gR_ne, zin_t, zin_f, x_ltt, x_ltf, x_let, x_lef, x_eqt, x_eqf, n_0, n_1, n_2, n_3, n_4, n_5, n_6, n_7, n_8, n_9, n_10, n_11, n_12, n_16, n_19, n_20, n_24, n_25, n_32, n_40, n_48, n_50, n_60, n_64, n_80, n_96, n_114, n_684, n_1000, n_9330, n_16806, n_1000000, n_5764800, ↓n_m, m_ltI, m_leI, m_lt', m_le', m_eq, m_eq', m_add, m_sub, mm_lt, mm_le, mm_eq, q_sub, nI_add, q_mul, nI_clamp, bz_0, bz_1, q_bzb, b_0, b_1, b_ft, b_tf, ne_eq, not_true_eq_false, not_false_eq_true, decide_true, decide_false, Bool.and_self, Bool.false_and, Bool.and_false, Bool.and_true, Bool.true_and, Bool.not_true, Bool.not_false, ↓reduceIte]
    · rw [if_neg (by simpa using hq)] at e3
      rw [e3, ← ih (s + 1) l (by omega) hl]
      simp (disch := first | omega | rfl | assumption) only [hr.2.1, one_ne, Nat.sub_self, e2 s (by omega), e1, bX1_fittingAt_38, q_cl, q_ps, q_pn, bI_t, bI_f, gI_same, gI_ne, gR_pI, gJ_pI, gV_pI, gN_pI, gC_pI, gS_pI, gI_pJ, gR_pJ, gV_pJ, gN_pJ, gJ_same, gJ_ne, gI_pR, gJ_pR, gV_pR, gN_pR, gR_same, gR_ne, zin_t, zin_f, x_ltt, x_ltf, x_let, x_lef, x_eqt, x_eqf, n_0, n_1, n_2, n_3, n_4, n_5, n_6, n_7, n_8, n_9, n_10, n_11, n_12, n_16, n_19, n_20, n_24, n_25, n_32, n_40, n_48, n_50, n_60, n_64, n_80, n_96, n_114, n_684, n_1000, n_9330, n_16806, n_1000000, n_5764800, ↓n_m, m_ltI, m_leI, m_lt', m_le', m_eq, m_eq', m_add, m_sub, mm_lt, mm_le, mm_eq, q_sub, nI_add, q_mul, nI_clamp, bz_0, bz_1, q_bzb, b_0, b_1, b_ft, b_tf, ne_eq, not_true_eq_false, not_false_eq_true, decide_true, decide_false, Bool.and_self, Bool.false_and, Bool.and_false, Bool.and_true, Bool.true_and, Bool.not_true, Bool.not_false, ↓reduceIte]
theorem c_fitAt (d : Nat) {h : z_H} {n : Nat} {f : Nat → Nat} (hw : wgd h n f) {l : Nat} (hl : l < 2 ^ 31) : Rn (d + 1) 23 [z_R 9010 0, z_I (nI l)] h = some (some (z_I (match nthF (fun k => decide (f k = n)) 9330 0 l with | none => mI | some k => nI (rowN (stW k)))), h) := by
  rw [rX1_fittingAt, bX1_fittingAt_0]
  exact c_fitAt_loop d hw _ 9330 0 l (by omega) hl
/-- the place of a stem's sound in a set, 6 behind its end -/
def kkS (s place : Nat) : Nat := match (stW s)[place]? with
  | none => 6
  | some x => x - 1
def sndF (p : Nat → Bool) (place : Nat) : Nat → Nat → Int32 → Int32
  | 0, _, a => a
  | r + 1, s, a => sndF p place r (s + 1) (if p s = true then a ||| nI (2 ^ kkS s place) else a)
theorem sndF_congr {p q : Nat → Bool} {place : Nat} : ∀ r s a, (∀ k, s ≤ k → k < s + r → p k = q k) → sndF p place r s a = sndF q place r s a := by
  intro r
  induction r with
  | zero => intro _ _ _; rfl
  | succ r ih =>
    intro s a h
    show sndF p place r (s + 1) (if p s = true then a ||| nI (2 ^ kkS s place) else a) = sndF q place r (s + 1) (if q s = true then a ||| nI (2 ^ kkS s place) else a)
    rw [h s (by omega) (by omega), ih _ _ (fun k h1 h2 => h k (by omega) (by omega))]
theorem rowN_dig : ∀ (w : List Nat) (i : Nat), (∀ x ∈ w, x < 8) → rowN w / 8 ^ i % 8 = w.getD i 0 := by
  intro w
  induction w with
  | nil => intro i _; simp [rowN]
  | cons x r ih =>
    intro i hw
    have hx := hw x List.mem_cons_self
    have e : rowN (x :: r) = rowN r * 8 + x := rfl
    cases i with
    | zero => rw [e]; simp; omega
    | succ i =>
      rw [e, Nat.pow_succ, Nat.mul_comm (8 ^ i) 8, ← Nat.div_div_eq_div_mul, show (rowN r * 8 + x) / 8 = rowN r by omega, ih i (fun y hy => hw y (List.mem_cons_of_mem _ hy))]
      rfl
theorem c_snd_loop (d : Nat) {h : z_H} {n : Nat} {f : Nat → Nat} (hw : wgd h n f) {place : Nat} (hp : place < 5) : ∀ (r s : Nat) (a : Int32) (u : z_V), s + r = 9330 → EX d 24 4 [z_R 9010 0, z_I (nI place), z_I a, z_I (nI s), u] [] h = some (some (z_I (sndF (fun k => decide (f k = n)) place r s a)), h) := by
  obtain ⟨hr, hn, hf, e1, e2⟩ := hw
  intro r
  induction r with
  | zero =>
    intro s a u hs
    have : s = 9330 := by omega
    subst this
    rw [bX1_soundsAt_4]
    simp (disch := first | omega | rfl | assumption) only [bX1_soundsAt_64, q_cl, q_ps, q_pn, bI_t, bI_f, gI_same, gI_ne, gR_pI, gJ_pI, gV_pI, gN_pI, gC_pI, gS_pI, gI_pJ, gR_pJ, gV_pJ, gN_pJ, gJ_same, gJ_ne, gI_pR, gJ_pR, gV_pR, gN_pR, gR_same, gR_ne, zin_t, zin_f, x_ltt, x_ltf, x_let, x_lef, x_eqt, x_eqf, n_0, n_1, n_2, n_3, n_4, n_5, n_6, n_7, n_8, n_9, n_10, n_11, n_12, n_16, n_19, n_20, n_24, n_25, n_32, n_40, n_48, n_50, n_60, n_64, n_80, n_96, n_114, n_684, n_1000, n_9330, n_16806, n_1000000, n_5764800, ↓n_m, m_ltI, m_leI, m_lt', m_le', m_eq, m_eq', m_add, m_sub, mm_lt, mm_le, mm_eq, q_sub, nI_add, q_mul, nI_clamp, bz_0, bz_1, q_bzb, b_0, b_1, b_ft, b_tf, ne_eq, not_true_eq_false, not_false_eq_true, decide_true, decide_false, Bool.and_self, Bool.false_and, Bool.and_false, Bool.and_true, Bool.true_and, Bool.not_true, Bool.not_false, ↓reduceIte]
    rfl
  | succ r ih =>
    intro s a u hs
    have hfs := hf s
    have hsW : isW (stW s) := st_isW (by omega)
    have hlt := rowN_lt' hsW
    have e3 : sndF (fun k => decide (f k = n)) place (r + 1) s a = sndF (fun k => decide (f k = n)) place r (s + 1) (if decide (f s = n) = true then a ||| nI (2 ^ kkS s place) else a) := rfl
    rw [bX1_soundsAt_4]
    by_cases hq : f s = n
    · rw [if_pos (by simpa using hq)] at e3
      have hd : z_ush (nI (rowN (stW s))) (nI (place * 3)) &&& nI 7 = nI ((stW s).getD place 0) := by
        rw [q_ush (by omega) (by omega), q_and, show (rowN (stW s) / 2 ^ (place * 3)) &&& 7 = rowN (stW s) / 2 ^ (place * 3) % 8 from Nat.and_two_pow_sub_one_eq_mod _ 3, show 2 ^ (place * 3) = 8 ^ place by rw [Nat.mul_comm, Nat.pow_mul], rowN_dig _ _ (fun x hx => by have := hsW.2 x hx; omega)]
      rw [e3]
      cases hx : (stW s)[place]? with
      | none =>
        have hd0 : (stW s).getD place 0 = 0 := by rw [List.getD_eq_getElem?_getD, hx]; rfl
        have hk : kkS s place = 6 := by unfold kkS; rw [hx]
        rw [hd0] at hd
        rw [hk]
        simp (disch := first | omega | rfl | assumption) only [hr.1, hr.2.1, one_ne, Nat.sub_self, e2 s (by omega), e1, hr.2.2 s (by omega), hd, bX1_soundsAt_56, bX1_soundsAt_58, q_cl, q_ps, q_pn, bI_t, bI_f, gI_same, gI_ne, gR_pI, gJ_pI, gV_pI, gN_pI, gC_pI, gS_pI, gI_pJ, gR_pJ, gV_pJ, gN_pJ, gJ_same, gJ_ne, gI_pR, gJ_pR, gV_pR, gN_pR, gR_same, gR_ne, zin_t, zin_f, x_ltt, x_ltf, x_let, x_lef, x_eqt, x_eqf, n_0, n_1, n_2, n_3, n_4, n_5, n_6, n_7, n_8, n_9, n_10, n_11, n_12, n_16, n_19, n_20, n_24, n_25, n_32, n_40, n_48, n_50, n_60, n_64, n_80, n_96, n_114, n_684, n_1000, n_9330, n_16806, n_1000000, n_5764800, ↓n_m, m_ltI, m_leI, m_lt', m_le', m_eq, m_eq', m_add, m_sub, mm_lt, mm_le, mm_eq, q_sub, nI_add, q_mul, nI_clamp, bz_0, bz_1, q_bzb, b_0, b_1, b_ft, b_tf, ne_eq, not_true_eq_false, not_false_eq_true, decide_true, decide_false, Bool.and_self, Bool.false_and, Bool.and_false, Bool.and_true, Bool.true_and, Bool.not_true, Bool.not_false, ↓reduceIte]
        exact ih (s + 1) _ _ (by omega)
      | some x =>
        have hx1 := hsW.2 x (List.mem_of_getElem? hx)
        have hd0 : (stW s).getD place 0 = x := by rw [List.getD_eq_getElem?_getD, hx]; rfl
        have hk : kkS s place = x - 1 := by unfold kkS; rw [hx]
        rw [hd0] at hd
        rw [hk]
        have hsh : nI 1 <<< (nI (x - 1) &&& 31) = nI (2 ^ (x - 1)) := by rw [q_shl 1 (by omega), Nat.one_mul]
        simp (disch := first | omega | rfl | assumption) only [hr.1, hr.2.1, one_ne, Nat.sub_self, e2 s (by omega), e1, hr.2.2 s (by omega), hd, bX1_soundsAt_50, hsh, bX1_soundsAt_56, bX1_soundsAt_58, q_cl, q_ps, q_pn, bI_t, bI_f, gI_same, gI_ne, gR_pI, gJ_pI, gV_pI, gN_pI, gC_pI, gS_pI, gI_pJ, gR_pJ, gV_pJ, gN_pJ, gJ_same, gJ_ne, gI_pR, gJ_pR, gV_pR, gN_pR, gR_same, gR_ne, zin_t, zin_f, x_ltt, x_ltf, x_let, x_lef, x_eqt, x_eqf, n_0, n_1, n_2, n_3, n_4, n_5, n_6, n_7, n_8, n_9, n_10, n_11, n_12, n_16, n_19, n_20, n_24, n_25, n_32, n_40, n_48, n_50, n_60, n_64, n_80, n_96, n_114, n_684, n_1000, n_9330, n_16806, n_1000000, n_5764800, ↓n_m, m_ltI, m_leI, m_lt', m_le', m_eq, m_eq', m_add, m_sub, mm_lt, mm_le, mm_eq, q_sub, nI_add, q_mul, nI_clamp, bz_0, bz_1, q_bzb, b_0, b_1, b_ft, b_tf, ne_eq, not_true_eq_false, not_false_eq_true, decide_true, decide_false, Bool.and_self, Bool.false_and, Bool.and_false, Bool.and_true, Bool.true_and, Bool.not_true, Bool.not_false, ↓reduceIte]
        exact ih (s + 1) _ _ (by omega)
    · rw [if_neg (by simpa using hq)] at e3
      rw [e3]
      simp (disch := first | omega | rfl | assumption) only [hr.2.1, one_ne, Nat.sub_self, e2 s (by omega), e1, bX1_soundsAt_58, q_cl, q_ps, q_pn, bI_t, bI_f, gI_same, gI_ne, gR_pI, gJ_pI, gV_pI, gN_pI, gC_pI, gS_pI, gI_pJ, gR_pJ, gV_pJ, gN_pJ, gJ_same, gJ_ne, gI_pR, gJ_pR, gV_pR, gN_pR, gR_same, gR_ne, zin_t, zin_f, x_ltt, x_ltf, x_let, x_lef, x_eqt, x_eqf, n_0, n_1, n_2, n_3, n_4, n_5, n_6, n_7, n_8, n_9, n_10, n_11, n_12, n_16, n_19, n_20, n_24, n_25, n_32, n_40, n_48, n_50, n_60, n_64, n_80, n_96, n_114, n_684, n_1000, n_9330, n_16806, n_1000000, n_5764800, ↓n_m, m_ltI, m_leI, m_lt', m_le', m_eq, m_eq', m_add, m_sub, mm_lt, mm_le, mm_eq, q_sub, nI_add, q_mul, nI_clamp, bz_0, bz_1, q_bzb, b_0, b_1, b_ft, b_tf, ne_eq, not_true_eq_false, not_false_eq_true, decide_true, decide_false, Bool.and_self, Bool.false_and, Bool.and_false, Bool.and_true, Bool.true_and, Bool.not_true, Bool.not_false, ↓reduceIte]
      exact ih (s + 1) _ _ (by omega)
theorem c_snd (d : Nat) {h : z_H} {n : Nat} {f : Nat → Nat} (hw : wgd h n f) {place : Nat} (hp : place < 5) : Rn (d + 1) 24 [z_R 9010 0, z_I (nI place)] h = some (some (z_I (sndF (fun k => decide (f k = n)) place 9330 0 (nI 0))), h) := by
  rw [rX1_soundsAt, bX1_soundsAt_0]
  exact c_snd_loop d hw hp 9330 0 _ _ (by omega)
def bstF (f : Nat → Nat) : Nat → Nat
  | 0 => 0
  | n + 1 => if f (bstF f n) < f n then n else bstF f n
theorem bstF_lt (f : Nat → Nat) : ∀ n, bstF f n ≤ n ∧ (0 < n → bstF f n < n) := by
  intro n
  induction n with
  | zero => exact ⟨Nat.le_refl _, fun z => absurd z (Nat.lt_irrefl _)⟩
  | succ n ih =>
    show (if f (bstF f n) < f n then n else bstF f n) ≤ n + 1 ∧ (0 < n + 1 → (if f (bstF f n) < f n then n else bstF f n) < n + 1)
    split
    · omega
    · have := ih.1
      omega
theorem bstF_congr {f g : Nat → Nat} : ∀ n, (∀ k, k < n → f k = g k) → f 0 = g 0 → bstF f n = bstF g n := by
  intro n
  induction n with
  | zero => intro _ _; rfl
  | succ n ih =>
    intro h h0
    have e := ih (fun k hk => h k (by omega)) h0
    show (if f (bstF f n) < f n then n else bstF f n) = (if g (bstF g n) < g n then n else bstF g n)
    have e2 : f (bstF g n) = g (bstF g n) := by
      by_cases hn : 0 < n
      · exact h _ (by have := (bstF_lt g n).2 hn; omega)
      · have : n = 0 := by omega
        subst this
        exact h0
    rw [e, e2, h n (by omega)]
theorem c_best_loop (d : Nat) {h : z_H} {n : Nat} {f : Nat → Nat} (hw : wgd h n f) : ∀ (r s : Nat), s + r = 9330 → 1 ≤ s → EX d 25 4 [z_R 9010 0, z_I (nI (bstF f s)), z_I (nI s)] [] h = some (some (z_I (nI (bstF f 9330))), h) := by
  obtain ⟨hr, hn, hf, e1, e2⟩ := hw
  intro r
  induction r with
  | zero =>
    intro s hs _
    have : s = 9330 := by omega
    subst this
    rw [bX1_bestFitting_4]
    simp (disch := first | omega | rfl | assumption) only [bX1_bestFitting_34, q_cl, q_ps, q_pn, bI_t, bI_f, gI_same, gI_ne, gR_pI, gJ_pI, gV_pI, gN_pI, gC_pI, gS_pI, gI_pJ, gR_pJ, gV_pJ, gN_pJ, gJ_same, gJ_ne, gI_pR, gJ_pR, gV_pR, gN_pR, gR_same, gR_ne, zin_t, zin_f, x_ltt, x_ltf, x_let, x_lef, x_eqt, x_eqf, n_0, n_1, n_2, n_3, n_4, n_5, n_6, n_7, n_8, n_9, n_10, n_11, n_12, n_16, n_19, n_20, n_24, n_25, n_32, n_40, n_48, n_50, n_60, n_64, n_80, n_96, n_114, n_684, n_1000, n_9330, n_16806, n_1000000, n_5764800, ↓n_m, m_ltI, m_leI, m_lt', m_le', m_eq, m_eq', m_add, m_sub, mm_lt, mm_le, mm_eq, q_sub, nI_add, q_mul, nI_clamp, bz_0, bz_1, q_bzb, b_0, b_1, b_ft, b_tf, ne_eq, not_true_eq_false, not_false_eq_true, decide_true, decide_false, Bool.and_self, Bool.false_and, Bool.and_false, Bool.and_true, Bool.true_and, Bool.not_true, Bool.not_false, ↓reduceIte]
  | succ r ih =>
    intro s hs h1
    have ih1 := ih (s + 1) (by omega) (by omega)
    have hfs := hf s
    have hb := (bstF_lt f s).2 (by omega)
    have hfb := hf (bstF f s)
    have e3 : bstF f (s + 1) = if f (bstF f s) < f s then s else bstF f s := rfl
    rw [bX1_bestFitting_4]
    by_cases hq : f (bstF f s) < f s
    · rw [if_pos hq] at e3
      rw [e3] at ih1
      simp (disch := first | omega | rfl | assumption) only [hr.2.1, one_ne, Nat.sub_self, e2 s (by omega), e2 (bstF f s) (by omega), bX1_bestFitting_28, q_cl, q_ps, q_pn, bI_t, bI_f, gI_same, gI_ne, gR_pI, gJ_pI, gV_pI, gN_pI, gC_pI, gS_pI, gI_pJ, gR_pJ, gV_pJ, gN_pJ, gJ_same, gJ_ne, gI_pR, gJ_pR, gV_pR, gN_pR, gR_same, gR_ne, zin_t, zin_f, x_ltt, x_ltf, x_let, x_lef, x_eqt, x_eqf, n_0, n_1, n_2, n_3, n_4, n_5, n_6, n_7, n_8, n_9, n_10, n_11, n_12, n_16, n_19, n_20, n_24, n_25, n_32, n_40, n_48, n_50, n_60, n_64, n_80, n_96, n_114, n_684, n_1000, n_9330, n_16806, n_1000000, n_5764800, ↓n_m, m_ltI, m_leI, m_lt', m_le', m_eq, m_eq', m_add, m_sub, mm_lt, mm_le, mm_eq, q_sub, nI_add, q_mul, nI_clamp, bz_0, bz_1, q_bzb, b_0, b_1, b_ft, b_tf, ne_eq, not_true_eq_false, not_false_eq_true, decide_true, decide_false, Bool.and_self, Bool.false_and, Bool.and_false, Bool.and_true, Bool.true_and, Bool.not_true, Bool.not_false, ↓reduceIte]
      exact ih1
    · rw [if_neg hq] at e3
      rw [e3] at ih1
      simp (disch := first | omega | rfl | assumption) only [hr.2.1, one_ne, Nat.sub_self, e2 s (by omega), e2 (bstF f s) (by omega), bX1_bestFitting_28, q_cl, q_ps, q_pn, bI_t, bI_f, gI_same, gI_ne, gR_pI, gJ_pI, gV_pI, gN_pI, gC_pI, gS_pI, gI_pJ, gR_pJ, gV_pJ, gN_pJ, gJ_same, gJ_ne, gI_pR, gJ_pR, gV_pR, gN_pR, gR_same, gR_ne, zin_t, zin_f, x_ltt, x_ltf, x_let, x_lef, x_eqt, x_eqf, n_0, n_1, n_2, n_3, n_4, n_5, n_6, n_7, n_8, n_9, n_10, n_11, n_12, n_16, n_19, n_20, n_24, n_25, n_32, n_40, n_48, n_50, n_60, n_64, n_80, n_96, n_114, n_684, n_1000, n_9330, n_16806, n_1000000, n_5764800, ↓n_m, m_ltI, m_leI, m_lt', m_le', m_eq, m_eq', m_add, m_sub, mm_lt, mm_le, mm_eq, q_sub, nI_add, q_mul, nI_clamp, bz_0, bz_1, q_bzb, b_0, b_1, b_ft, b_tf, ne_eq, not_true_eq_false, not_false_eq_true, decide_true, decide_false, Bool.and_self, Bool.false_and, Bool.and_false, Bool.and_true, Bool.true_and, Bool.not_true, Bool.not_false, ↓reduceIte]
      exact ih1
theorem c_best (d : Nat) {h : z_H} {n : Nat} {f : Nat → Nat} (hw : wgd h n f) : Rn (d + 1) 25 [z_R 9010 0] h = some (some (z_I (nI (bstF f 9330))), h) := by
  rw [rX1_bestFitting, bX1_bestFitting_0]
  have := c_best_loop d hw 9329 1 (by omega) (by omega)
  rw [show bstF f 1 = 0 by show (if f 0 < f 0 then 0 else 0) = 0; simp] at this
  exact this
