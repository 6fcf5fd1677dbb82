/-! ===== all stems ===== -/
theorem stF_fuel : ∀ (f g s : Nat), s < f → s < g → stF f s = stF g s := by
  intro f
  induction f with
  | zero => intro g s h; omega
  | succ f ih =>
    intro g s h1 h2
    obtain ⟨g, rfl⟩ : ∃ k, g = k + 1 := ⟨g - 1, by omega⟩
    show (if s < 6 then [] else stF f (s / 6 - 1)) ++ [s % 6 + 1] = (if s < 6 then [] else stF g (s / 6 - 1)) ++ [s % 6 + 1]
    by_cases h : s < 6
    · rw [if_pos h, if_pos h]
    · rw [if_neg h, if_neg h, ih g (s / 6 - 1) (by omega) (by omega)]
theorem stW_eq (s : Nat) : stW s = (if s < 6 then [] else stW (s / 6 - 1)) ++ [s % 6 + 1] := by
  show (if s < 6 then [] else stF s (s / 6 - 1)) ++ [s % 6 + 1] = _
  by_cases h : s < 6
  · rw [if_pos h, if_pos h]
  · rw [if_neg h, if_neg h]
    congr 1
    exact stF_fuel _ _ _ (by omega) (by omega)
theorem wN_snoc (l : List Nat) (x : Nat) : wN (l ++ [x]) = wN l * 7 + x := by
  unfold wN
  rw [List.reverse_append]
  rfl
def stN (s : Nat) : Nat := wN (stW s)
theorem stN_eq (s : Nat) : stN s = (if s < 6 then 0 else stN (s / 6 - 1)) * 7 + (s % 6 + 1) := by
  unfold stN
  rw [stW_eq, wN_snoc]
  by_cases h : s < 6
  · rw [if_pos h, if_pos h]; rfl
  · rw [if_neg h, if_neg h]
theorem st_dig : ∀ s x, x ∈ stW s → 1 ≤ x ∧ x ≤ 6 := by
  intro s
  induction s using Nat.strongRecOn with
  | ind s ih =>
    intro x hx
    rw [stW_eq] at hx
    rcases List.mem_append.mp hx with h | h
    · by_cases h6 : s < 6
      · rw [if_pos h6] at h; cases h
      · rw [if_neg h6] at h
        exact ih _ (by omega) x h
    · rcases List.mem_singleton.mp h with rfl
      omega
def sB : Nat → Nat
  | 0 => 0
  | k + 1 => 6 * sB k + 6
theorem st_len : ∀ k s, s < sB k → (stW s).length ≤ k := by
  intro k
  induction k with
  | zero => intro s h; exact absurd h (Nat.not_lt_zero _)
  | succ k ih =>
    intro s h
    have h' : s < 6 * sB k + 6 := h
    rw [stW_eq, List.length_append]
    by_cases h6 : s < 6
    · rw [if_pos h6]; simp
    · rw [if_neg h6]
      have := ih (s / 6 - 1) (by omega)
      simp only [List.length_cons, List.length_nil]
      omega
theorem st_isW {s : Nat} (h : s ≤ 9330) : isW (stW s) := ⟨Nat.le_trans (st_len 6 s (Nat.lt_of_le_of_lt h (by decide))) (by decide), st_dig s⟩
theorem st_len5 {s : Nat} (h : s < 9330) : (stW s).length ≤ 5 := st_len 5 s (Nat.lt_of_lt_of_le h (by decide))
theorem isWd_div {n : Nat} (h : isWd n = true) (h0 : 0 < n) : n % 7 ≠ 0 ∧ isWd (n / 7) = true := by
  obtain ⟨w, hw, rfl⟩ := (isWd_iff n).mp h
  have hne : w ≠ [] := by rintro rfl; exact absurd h0 (by decide)
  obtain ⟨l, x, rfl⟩ : ∃ l x, w = l ++ [x] := ⟨w.dropLast, w.getLast hne, (List.dropLast_concat_getLast hne).symm⟩
  rw [wN_snoc]
  have hx := hw.2 x (by simp)
  have hl : isW l := ⟨by have := hw.1; rw [List.length_append] at this; omega, fun y hy => hw.2 y (List.mem_append_left _ hy)⟩
  refine ⟨by omega, ?_⟩
  rw [show (wN l * 7 + x) / 7 = wN l by omega]
  exact (isWd_iff _).mpr ⟨l, hl, rfl⟩
theorem st_next : ∀ s, stN s < stN (s + 1) ∧ ∀ n, stN s < n → n < stN (s + 1) → isWd n = false := by
  intro s
  induction s using Nat.strongRecOn with
  | ind s ih =>
    by_cases h5 : s % 6 = 5
    · by_cases h6 : s < 6
      · have hs : s = 5 := by omega
        subst hs
        have e1 : stN 5 = 6 := by decide +kernel
        have e2 : stN (5 + 1) = 8 := by decide +kernel
        rw [e1, e2]
        refine ⟨by decide, fun n h1 h2 => ?_⟩
        have : n = 7 := by omega
        subst this
        decide +kernel
      · have e1 : stN s = stN (s / 6 - 1) * 7 + 6 := by rw [stN_eq, if_neg h6, h5]
        have e2 : stN (s + 1) = stN (s / 6 - 1 + 1) * 7 + 1 := by
          rw [stN_eq (s + 1), if_neg (by omega), show (s + 1) / 6 - 1 = s / 6 - 1 + 1 by omega, show (s + 1) % 6 = 0 by omega]
        obtain ⟨i1, i2⟩ := ih (s / 6 - 1) (by omega)
        refine ⟨by omega, fun n h1 h2 => ?_⟩
        cases hw : isWd n with
        | false => rfl
        | true =>
          obtain ⟨d1, d2⟩ := isWd_div hw (by omega)
          have : isWd (n / 7) = false := i2 (n / 7) (by omega) (by omega)
          rw [this] at d2
          cases d2
    · have e : stN (s + 1) = stN s + 1 := by
        rw [stN_eq (s + 1), stN_eq s, show (s + 1) / 6 = s / 6 by omega, show (s + 1) % 6 = s % 6 + 1 by omega]
        by_cases h6 : s < 6
        · rw [if_pos h6, if_pos (by omega)]; omega
        · rw [if_neg h6, if_neg (by omega)]; omega
      rw [e]
      exact ⟨by omega, fun n h1 h2 => by omega⟩
theorem stN_mono {s : Nat} : ∀ n, stN s ≤ stN (s + n) := by
  intro n
  induction n with
  | zero => exact Nat.le_refl _
  | succ n ih => exact Nat.le_trans ih (Nat.le_of_lt (st_next (s + n)).1)
theorem stN_9329 : stN 9329 = 16806 := by decide +kernel
theorem stN_9330 : stN 9330 = 19608 := by decide +kernel
theorem stN_0 : stN 0 = 1 := by decide +kernel
theorem stN_le {s : Nat} (h : s < 9330) : 1 ≤ stN s ∧ stN s ≤ 16806 := by
  have h1 := stN_mono (s := 0) s
  have h2 := stN_mono (s := s) (9329 - s)
  rw [show s + (9329 - s) = 9329 by omega, stN_9329] at h2
  rw [Nat.zero_add, stN_0] at h1
  exact ⟨h1, h2⟩
theorem m_next_loop (d : Nat) {s : Nat} (hs : s < 9330) (x0 : Int32) (h : z_H) : ∀ (r n : Nat), n + r = stN (s + 1) → stN s < n → EX (d + 2) 181 4 [z_I x0, z_I (nI n)] [] h = some (some (z_I (nI (stN (s + 1)))), h) := by
  have hb : stN (s + 1) ≤ 19608 := by
    have := stN_mono (s := s + 1) (9330 - (s + 1))
    rw [show s + 1 + (9330 - (s + 1)) = 9330 by omega, stN_9330] at this
    exact this
  intro r
  induction r with
  | zero =>
    intro n hn h1
    have hn : n = stN (s + 1) := by omega
    subst hn
    have hx : isX (nI (stN (s + 1))) = true := isX_w (st_isW (show s + 1 ≤ 9330 by omega))
    rw [bX11_nextStem_4]
    simp (disch := first | omega | rfl | assumption) only [m_isWord, hx, bX11_nextStem_8, bX11_nextStem_17, q_cl, q_ps, q_pn, bI_t, bI_f, gI_same, gI_ne, gR_pI, gJ_pI, gV_pI, gN_pI, gC_pI, gS_pI, gI_pJ, gR_pJ, gV_pJ, gN_pJ, gJ_same, gJ_ne, gI_pR, gJ_pR, gV_pR, gN_pR, gR_same, gR_ne, zin_t, zin_f, x_ltt, x_ltf, x_let, x_lef, x_eqt, x_eqf, n_0, n_1, n_2, n_3, n_4, n_5, n_6, n_7, n_8, n_9, n_10, n_11, n_12, n_16, n_19, n_20, n_24, n_25, n_32, n_40, n_48, n_50, n_60, n_64, n_80, n_96, n_114, n_684, n_1000, n_9330, n_16806, n_1000000, n_5764800, ↓n_m, m_ltI, m_leI, m_lt', m_le', m_eq, m_eq', m_add, m_sub, mm_lt, mm_le, mm_eq, q_sub, nI_add, q_mul, nI_clamp, bz_0, bz_1, q_bzb, b_0, b_1, b_ft, b_tf, ne_eq, not_true_eq_false, not_false_eq_true, decide_true, decide_false, Bool.and_self, Bool.false_and, Bool.and_false, Bool.and_true, Bool.true_and, Bool.not_true, Bool.not_false, ↓reduceIte]
  | succ r ih =>
    intro n hn h1
    have hx : isX (nI n) = false := by
      rw [isX_nI (by omega)]
      exact (st_next s).2 n h1 (by omega)
    rw [bX11_nextStem_4]
    simp (disch := first | omega | rfl | assumption) only [m_isWord, hx, bX11_nextStem_8, q_cl, q_ps, q_pn, bI_t, bI_f, gI_same, gI_ne, gR_pI, gJ_pI, gV_pI, gN_pI, gC_pI, gS_pI, gI_pJ, gR_pJ, gV_pJ, gN_pJ, gJ_same, gJ_ne, gI_pR, gJ_pR, gV_pR, gN_pR, gR_same, gR_ne, zin_t, zin_f, x_ltt, x_ltf, x_let, x_lef, x_eqt, x_eqf, n_0, n_1, n_2, n_3, n_4, n_5, n_6, n_7, n_8, n_9, n_10, n_11, n_12, n_16, n_19, n_20, n_24, n_25, n_32, n_40, n_48, n_50, n_60, n_64, n_80, n_96, n_114, n_684, n_1000, n_9330, n_16806, n_1000000, n_5764800, ↓n_m, m_ltI, m_leI, m_lt', m_le', m_eq, m_eq', m_add, m_sub, mm_lt, mm_le, mm_eq, q_sub, nI_add, q_mul, nI_clamp, bz_0, bz_1, q_bzb, b_0, b_1, b_ft, b_tf, ne_eq, not_true_eq_false, not_false_eq_true, decide_true, decide_false, Bool.and_self, Bool.false_and, Bool.and_false, Bool.and_true, Bool.true_and, Bool.not_true, Bool.not_false, ↓reduceIte]
    exact ih (n + 1) (by omega) (by omega)
theorem m_nextStem (d : Nat) {s : Nat} (hs : s < 9330) (h : z_H) : Rn (d + 3) 181 [z_I (nI (stN s))] h = some (some (z_I (nI (stN (s + 1)))), h) := by
  have h1 := (st_next s).1
  rw [rX11_nextStem, bX11_nextStem_0]
  simp (disch := first | omega | rfl | assumption) only [q_cl, q_ps, q_pn, bI_t, bI_f, gI_same, gI_ne, gR_pI, gJ_pI, gV_pI, gN_pI, gC_pI, gS_pI, gI_pJ, gR_pJ, gV_pJ, gN_pJ, gJ_same, gJ_ne, gI_pR, gJ_pR, gV_pR, gN_pR, gR_same, gR_ne, zin_t, zin_f, x_ltt, x_ltf, x_let, x_lef, x_eqt, x_eqf, n_0, n_1, n_2, n_3, n_4, n_5, n_6, n_7, n_8, n_9, n_10, n_11, n_12, n_16, n_19, n_20, n_24, n_25, n_32, n_40, n_48, n_50, n_60, n_64, n_80, n_96, n_114, n_684, n_1000, n_9330, n_16806, n_1000000, n_5764800, ↓n_m, m_ltI, m_leI, m_lt', m_le', m_eq, m_eq', m_add, m_sub, mm_lt, mm_le, mm_eq, q_sub, nI_add, q_mul, nI_clamp, bz_0, bz_1, q_bzb, b_0, b_1, b_ft, b_tf, ne_eq, not_true_eq_false, not_false_eq_true, decide_true, decide_false, Bool.and_self, Bool.false_and, Bool.and_false, Bool.and_true, Bool.true_and, Bool.not_true, Bool.not_false, ↓reduceIte]
  exact m_next_loop d hs _ h (stN (s + 1) - (stN s + 1)) (stN s + 1) (by omega) (by omega)
/-! the class's stems -/
theorem one_ne : ((1 : Nat) = 0) = False := eq_false (by decide)
theorem c_prep_loop (d : Nat) : ∀ (r s : Nat) (u2 u3 : z_V) (h : z_H), s + r = 9330 → gR h 9010 0 3 = 1 → (∀ i, i < s → gI h 9330131 0 i = nI (rowN (stW i))) →
    ∃ h', EX (d + 1) 17 28 [z_R 9010 0, z_I (nI s), u2, u3] [] h = some (none, h') ∧ (∀ i, i < 9330 → gI h' 9330131 0 i = nI (rowN (stW i))) ∧ fr (fun p _ _ => p = 9330131) h h' := by
  intro r
  induction r with
  | zero =>
    intro s u2 u3 h hs e1 e2
    have : s = 9330 := by omega
    subst this
    refine ⟨h, ?_, e2, fr_rfl _ _⟩
    rw [bX1_prepareStems_28]
    simp (disch := first | omega | rfl | assumption) only [bX1_prepareStems_86, q_cl, q_ps, q_pn, bI_t, bI_f, gI_same, gI_ne, gR_pI, gJ_pI, gV_pI, gN_pI, gC_pI, gS_pI, gI_pJ, gR_pJ, gV_pJ, gN_pJ, gJ_same, gJ_ne, gI_pR, gJ_pR, gV_pR, gN_pR, gR_same, gR_ne, zin_t, zin_f, x_ltt, x_ltf, x_let, x_lef, x_eqt, x_eqf, n_0, n_1, n_2, n_3, n_4, n_5, n_6, n_7, n_8, n_9, n_10, n_11, n_12, n_16, n_19, n_20, n_24, n_25, n_32, n_40, n_48, n_50, n_60, n_64, n_80, n_96, n_114, n_684, n_1000, n_9330, n_16806, n_1000000, n_5764800, ↓n_m, m_ltI, m_leI, m_lt', m_le', m_eq, m_eq', m_add, m_sub, mm_lt, mm_le, mm_eq, q_sub, nI_add, q_mul, nI_clamp, bz_0, bz_1, q_bzb, b_0, b_1, b_ft, b_tf, ne_eq, not_true_eq_false, not_false_eq_true, decide_true, decide_false, Bool.and_self, Bool.false_and, Bool.and_false, Bool.and_true, Bool.true_and, Bool.not_true, Bool.not_false, ↓reduceIte]
  | succ r ih =>
    intro s u2 u3 h hs e1 e2
    obtain ⟨h', q1, q2, q3⟩ := ih (s + 1) (z_I (nI (s % 6 + 1))) (z_I (nI (rowN (if s < 6 then [] else stW (s / 6 - 1))))) (pI h 9330131 0 s (nI (rowN (stW s)))) (by omega) e1 (fun i hi => by
      by_cases e : i = s
      · subst e; simp (disch := first | omega | rfl | assumption) only [q_cl, q_ps, q_pn, bI_t, bI_f, gI_same, gI_ne, gR_pI, gJ_pI, gV_pI, gN_pI, gC_pI, gS_pI, gI_pJ, gR_pJ, gV_pJ, gN_pJ, gJ_same, gJ_ne, gI_pR, gJ_pR, gV_pR, gN_pR, gR_same, gR_ne, zin_t, zin_f, x_ltt, x_ltf, x_let, x_lef, x_eqt, x_eqf, n_0, n_1, n_2, n_3, n_4, n_5, n_6, n_7, n_8, n_9, n_10, n_11, n_12, n_16, n_19, n_20, n_24, n_25, n_32, n_40, n_48, n_50, n_60, n_64, n_80, n_96, n_114, n_684, n_1000, n_9330, n_16806, n_1000000, n_5764800, ↓n_m, m_ltI, m_leI, m_lt', m_le', m_eq, m_eq', m_add, m_sub, mm_lt, mm_le, mm_eq, q_sub, nI_add, q_mul, nI_clamp, bz_0, bz_1, q_bzb, b_0, b_1, b_ft, b_tf, ne_eq, not_true_eq_false, not_false_eq_true, decide_true, decide_false, Bool.and_self, Bool.false_and, Bool.and_false, Bool.and_true, Bool.true_and, Bool.not_true, Bool.not_false, ↓reduceIte]
      · simp (disch := first | omega | rfl | assumption) only [e2 i (by omega), q_cl, q_ps, q_pn, bI_t, bI_f, gI_same, gI_ne, gR_pI, gJ_pI, gV_pI, gN_pI, gC_pI, gS_pI, gI_pJ, gR_pJ, gV_pJ, gN_pJ, gJ_same, gJ_ne, gI_pR, gJ_pR, gV_pR, gN_pR, gR_same, gR_ne, zin_t, zin_f, x_ltt, x_ltf, x_let, x_lef, x_eqt, x_eqf, n_0, n_1, n_2, n_3, n_4, n_5, n_6, n_7, n_8, n_9, n_10, n_11, n_12, n_16, n_19, n_20, n_24, n_25, n_32, n_40, n_48, n_50, n_60, n_64, n_80, n_96, n_114, n_684, n_1000, n_9330, n_16806, n_1000000, n_5764800, ↓n_m, m_ltI, m_leI, m_lt', m_le', m_eq, m_eq', m_add, m_sub, mm_lt, mm_le, mm_eq, q_sub, nI_add, q_mul, nI_clamp, bz_0, bz_1, q_bzb, b_0, b_1, b_ft, b_tf, ne_eq, not_true_eq_false, not_false_eq_true, decide_true, decide_false, Bool.and_self, Bool.false_and, Bool.and_false, Bool.and_true, Bool.true_and, Bool.not_true, Bool.not_false, ↓reduceIte])
    refine ⟨h', ?_, q2, fr_trans (fr_pI h _ rfl) q3⟩
    have er : nI s - nI s / nI 6 * nI 6 = nI (s % 6) := q_rem (by omega) (by decide) (by decide)
    have ed : nI s / nI 6 = nI (s / 6) := q_div (by omega) (by decide) (by decide)
    have em : s - s / 6 * 6 = s % 6 := by omega
    have hw : isW (if s < 6 then [] else stW (s / 6 - 1)) := by
      split
      · exact ⟨by decide, fun x hx => by cases hx⟩
      · exact st_isW (by omega)
    have hlen : (if s < 6 then [] else stW (s / 6 - 1)).length ≤ 8 := hw.1
    have hlen5 : (if s < 6 then [] else stW (s / 6 - 1)).length ≤ 5 := by
      split
      · decide
      · exact st_len5 (by omega)
    have hval : nI (rowN (if s < 6 then [] else stW (s / 6 - 1))) ||| (nI (s % 6 + 1) <<< (nI (3 * (if s < 6 then [] else stW (s / 6 - 1)).length) &&& 31)) = nI (rowN (stW s)) := by
      have h83 : (8 : Nat) ^ (if s < 6 then [] else stW (s / 6 - 1)).length = 2 ^ (3 * (if s < 6 then [] else stW (s / 6 - 1)).length) := by rw [Nat.pow_mul]
      rw [q_or_add (by rw [← h83]; exact rowN_lt _ (fun x hx => by have := hw.2 x hx; omega)) (by omega), stW_eq s, rowN_append, ← h83]
      congr 3
      show s % 6 + 1 = 0 * 8 + (s % 6 + 1)
      omega
    rw [bX1_prepareStems_28]
    by_cases h6 : s < 6
    · rw [if_pos h6] at hval q1
      have e3 := c_lengthOf d (w := []) ⟨by decide, fun x hx => by cases hx⟩ h
      have e3' : Rn (d + 1) 2 [z_I (nI 0)] h = some (some (z_I (nI ([] : List Nat).length)), h) := e3
      have hval' : nI 0 ||| (nI (s % 6 + 1) <<< (nI (3 * ([] : List Nat).length) &&& 31)) = nI (rowN (stW s)) := hval
      simp (disch := first | omega | rfl | assumption) only [ed, em, bX1_prepareStems_63, e1, one_ne, Nat.sub_self, e3', bX1_prepareStems_76, hval', q_cl, q_ps, q_pn, bI_t, bI_f, gI_same, gI_ne, gR_pI, gJ_pI, gV_pI, gN_pI, gC_pI, gS_pI, gI_pJ, gR_pJ, gV_pJ, gN_pJ, gJ_same, gJ_ne, gI_pR, gJ_pR, gV_pR, gN_pR, gR_same, gR_ne, zin_t, zin_f, x_ltt, x_ltf, x_let, x_lef, x_eqt, x_eqf, n_0, n_1, n_2, n_3, n_4, n_5, n_6, n_7, n_8, n_9, n_10, n_11, n_12, n_16, n_19, n_20, n_24, n_25, n_32, n_40, n_48, n_50, n_60, n_64, n_80, n_96, n_114, n_684, n_1000, n_9330, n_16806, n_1000000, n_5764800, ↓n_m, m_ltI, m_leI, m_lt', m_le', m_eq, m_eq', m_add, m_sub, mm_lt, mm_le, mm_eq, q_sub, nI_add, q_mul, nI_clamp, bz_0, bz_1, q_bzb, b_0, b_1, b_ft, b_tf, ne_eq, not_true_eq_false, not_false_eq_true, decide_true, decide_false, Bool.and_self, Bool.false_and, Bool.and_false, Bool.and_true, Bool.true_and, Bool.not_true, Bool.not_false, ↓reduceIte]
      exact q1
    · rw [if_neg h6] at hval q1 hw
      have e3 := c_lengthOf d hw h
      simp (disch := first | omega | rfl | assumption) only [ed, em, bX1_prepareStems_52, bX1_prepareStems_63, e1, one_ne, Nat.sub_self, e2 (s / 6 - 1) (by omega), e3, bX1_prepareStems_76, hval, q_cl, q_ps, q_pn, bI_t, bI_f, gI_same, gI_ne, gR_pI, gJ_pI, gV_pI, gN_pI, gC_pI, gS_pI, gI_pJ, gR_pJ, gV_pJ, gN_pJ, gJ_same, gJ_ne, gI_pR, gJ_pR, gV_pR, gN_pR, gR_same, gR_ne, zin_t, zin_f, x_ltt, x_ltf, x_let, x_lef, x_eqt, x_eqf, n_0, n_1, n_2, n_3, n_4, n_5, n_6, n_7, n_8, n_9, n_10, n_11, n_12, n_16, n_19, n_20, n_24, n_25, n_32, n_40, n_48, n_50, n_60, n_64, n_80, n_96, n_114, n_684, n_1000, n_9330, n_16806, n_1000000, n_5764800, ↓n_m, m_ltI, m_leI, m_lt', m_le', m_eq, m_eq', m_add, m_sub, mm_lt, mm_le, mm_eq, q_sub, nI_add, q_mul, nI_clamp, bz_0, bz_1, q_bzb, b_0, b_1, b_ft, b_tf, ne_eq, not_true_eq_false, not_false_eq_true, decide_true, decide_false, Bool.and_self, Bool.false_and, Bool.and_false, Bool.and_true, Bool.true_and, Bool.not_true, Bool.not_false, ↓reduceIte]
      exact q1
/-- the stems stand -/
def rdy (h : z_H) : Prop := gR h 9010 0 3 = 1 ∧ gR h 9010 0 4 = 1 ∧ ∀ s, s < 9330 → gI h 9330131 0 s = nI (rowN (stW s))
theorem Inv_form {h h' : z_H} {N : Nat} {xs : Nat → Int32} {G : Gh} {e : Int32} (m : InvG h N xs G e) (f : frX [4, 16, 12] h h') (r : iRm h') (F : iFm h' G) : InvG h' N xs G e := by
  obtain ⟨a1, a2, a3, a4, a5, a6, a7, a8, a9, b1, b2, b3, b4, b5, b6, b7⟩ := m
  exact ⟨frX_mOK (by decide) f a1, frX_cOK (by decide) f a2, iSc_fr f (by decide) a3, iFd_fr f (by decide) a4, iOff_fr f (by decide) a5, iTap_fr f (by decide) a6, iShe_fr f (by decide) a7, r, iVw_fr (by decide) f a9, iLaw_fr (by decide) f b1, iTon_fr (by decide) f b2, F, iFnd_fr f (by decide) b4, iPr_fr f (by decide) b5, iLd_fr f (by decide) (by decide) (by decide) b6, iLi_fr f (by decide) b7⟩
theorem g_stems : ∀ p i k, (fun (p _ _ : Nat) => p = 9330131) p i k → grp p i k ∈ [4, 12] := by
  intro p i k q
  have q2 : p = 9330131 := q
  subst q2
  exact (by decide : (4 : Nat) ∈ [4, 12])
theorem g_stemsP : ∀ k, grp 9330131 0 k ∈ [4, 12] := fun k => (by decide : (4 : Nat) ∈ [4, 12])
theorem g_fits : ∀ k, grp 9330141 0 k ∈ [4, 12] := fun k => (by decide : (12 : Nat) ∈ [4, 12])
set_option maxRecDepth 100000 in
theorem c_prepare (d : Nat) {h : z_H} {N : Nat} {xs : Nat → Int32} {G : Gh} {e : Int32} (hG : InvG h N xs G e) :
    ∃ h', Rn (d + 2) 17 [z_R 9010 0] h = some (none, h') ∧ InvG h' N xs G e ∧ rdy h' ∧ frX [4, 12] h h' ∧ (∀ p i k, p ≠ 9330131 → p ≠ 9330141 → gI h' p i k = gI h p i k) := by
  have hF := I_F hG
  obtain ⟨z1, z2, z3, z4, z5, z6, z7⟩ := hF
  rcases z1 with ⟨y1, y2, y3, y4, y5⟩ | ⟨y1, y2, y3, y4, y5⟩
  · obtain ⟨h1, e1, e2, e3⟩ := c_prep_loop d 9330 0 z_U z_U (pR (nw (pR (nw h 9330131 0 9330 16) 9010 0 3 1) 9330141 0 9330 17) 9010 0 4 1) (by omega) (by simp (disch := first | omega | rfl | assumption) only [gI_nw_ne, gI_nw_eq, gR_nw_ne, gR_nw_eq, gJ_nw_ne, gV_nw_ne, gN_nw_ne, gN_nw_eq, gC_nw, gS_nw, gC_pR, gS_pR, Nat.zero_add, q_cl, q_ps, q_pn, bI_t, bI_f, gI_same, gI_ne, gR_pI, gJ_pI, gV_pI, gN_pI, gC_pI, gS_pI, gI_pJ, gR_pJ, gV_pJ, gN_pJ, gJ_same, gJ_ne, gI_pR, gJ_pR, gV_pR, gN_pR, gR_same, gR_ne, zin_t, zin_f, x_ltt, x_ltf, x_let, x_lef, x_eqt, x_eqf, n_0, n_1, n_2, n_3, n_4, n_5, n_6, n_7, n_8, n_9, n_10, n_11, n_12, n_16, n_19, n_20, n_24, n_25, n_32, n_40, n_48, n_50, n_60, n_64, n_80, n_96, n_114, n_684, n_1000, n_9330, n_16806, n_1000000, n_5764800, ↓n_m, m_ltI, m_leI, m_lt', m_le', m_eq, m_eq', m_add, m_sub, mm_lt, mm_le, mm_eq, q_sub, nI_add, q_mul, nI_clamp, bz_0, bz_1, q_bzb, b_0, b_1, b_ft, b_tf, ne_eq, not_true_eq_false, not_false_eq_true, decide_true, decide_false, Bool.and_self, Bool.false_and, Bool.and_false, Bool.and_true, Bool.true_and, Bool.not_true, Bool.not_false, ↓reduceIte]) (fun i hi => by omega)
    have k1 : ∀ p i k, p ≠ 9330131 → gI h1 p i k = gI (pR (nw (pR (nw h 9330131 0 9330 16) 9010 0 3 1) 9330141 0 9330 17) 9010 0 4 1) p i k := fun p i k q => e3.2 p i k q
    have k2 : ∀ p i k, gR h1 p i k = gR (pR (nw (pR (nw h 9330131 0 9330 16) 9010 0 3 1) 9330141 0 9330 17) 9010 0 4 1) p i k := fun p i k => fr_gR e3 p i k
    have kV : ∀ p i, gV h1 p i = gV (pR (nw (pR (nw h 9330131 0 9330 16) 9010 0 3 1) 9330141 0 9330 17) 9010 0 4 1) p i := fun p i => by unfold gV; rw [e3.1]
    have kN : ∀ s, gN h1 s = gN (pR (nw (pR (nw h 9330131 0 9330 16) 9010 0 3 1) 9330141 0 9330 17) 9010 0 4 1) s := fun s => by unfold gN; rw [e3.1]
    have kJ : ∀ p i k, gJ h1 p i k = gJ (pR (nw (pR (nw h 9330131 0 9330 16) 9010 0 3 1) 9330141 0 9330 17) 9010 0 4 1) p i k := fun p i k => by unfold gJ; rw [e3.1]
    have kC : gC h1 = gC (pR (nw (pR (nw h 9330131 0 9330 16) 9010 0 3 1) 9330141 0 9330 17) 9010 0 4 1) := by unfold gC; rw [e3.1]
    have kS : gS h1 = gS (pR (nw (pR (nw h 9330131 0 9330 16) 9010 0 3 1) 9330141 0 9330 17) 9010 0 4 1) := by unfold gS; rw [e3.1]
    have F : frX [4, 12] h h1 := frX_trans (b := (nw h 9330131 0 9330 16)) (frX_nw g_stemsP (by decide) (by decide) (by decide) h) (frX_trans (b := (pR (nw h 9330131 0 9330 16) 9010 0 3 1)) (frX_pR2 4 rfl (by decide) _ _) (frX_trans (b := (nw (pR (nw h 9330131 0 9330 16) 9010 0 3 1) 9330141 0 9330 17)) (frX_nw g_fits (by decide) (by decide) (by decide) _) (frX_trans (b := (pR (nw (pR (nw h 9330131 0 9330 16) 9010 0 3 1) 9330141 0 9330 17) 9010 0 4 1)) (frX_pR2 4 rfl (by decide) _ _) (frX_fr e3 g_stems))))
    have r5 : ∀ t, gR h1 7080 t 5 = gR h 7080 t 5 := fun t => by simp (disch := first | omega | rfl | assumption) only [k2, gI_nw_ne, gI_nw_eq, gR_nw_ne, gR_nw_eq, gJ_nw_ne, gV_nw_ne, gN_nw_ne, gN_nw_eq, gC_nw, gS_nw, gC_pR, gS_pR, Nat.zero_add, q_cl, q_ps, q_pn, bI_t, bI_f, gI_same, gI_ne, gR_pI, gJ_pI, gV_pI, gN_pI, gC_pI, gS_pI, gI_pJ, gR_pJ, gV_pJ, gN_pJ, gJ_same, gJ_ne, gI_pR, gJ_pR, gV_pR, gN_pR, gR_same, gR_ne, zin_t, zin_f, x_ltt, x_ltf, x_let, x_lef, x_eqt, x_eqf, n_0, n_1, n_2, n_3, n_4, n_5, n_6, n_7, n_8, n_9, n_10, n_11, n_12, n_16, n_19, n_20, n_24, n_25, n_32, n_40, n_48, n_50, n_60, n_64, n_80, n_96, n_114, n_684, n_1000, n_9330, n_16806, n_1000000, n_5764800, ↓n_m, m_ltI, m_leI, m_lt', m_le', m_eq, m_eq', m_add, m_sub, mm_lt, mm_le, mm_eq, q_sub, nI_add, q_mul, nI_clamp, bz_0, bz_1, q_bzb, b_0, b_1, b_ft, b_tf, ne_eq, not_true_eq_false, not_false_eq_true, decide_true, decide_false, Bool.and_self, Bool.false_and, Bool.and_false, Bool.and_true, Bool.true_and, Bool.not_true, Bool.not_false, ↓reduceIte]
    have n42 : gN h1 42 = gN h 42 := by simp (disch := first | omega | rfl | assumption) only [kN, gI_nw_ne, gI_nw_eq, gR_nw_ne, gR_nw_eq, gJ_nw_ne, gV_nw_ne, gN_nw_ne, gN_nw_eq, gC_nw, gS_nw, gC_pR, gS_pR, Nat.zero_add, q_cl, q_ps, q_pn, bI_t, bI_f, gI_same, gI_ne, gR_pI, gJ_pI, gV_pI, gN_pI, gC_pI, gS_pI, gI_pJ, gR_pJ, gV_pJ, gN_pJ, gJ_same, gJ_ne, gI_pR, gJ_pR, gV_pR, gN_pR, gR_same, gR_ne, zin_t, zin_f, x_ltt, x_ltf, x_let, x_lef, x_eqt, x_eqf, n_0, n_1, n_2, n_3, n_4, n_5, n_6, n_7, n_8, n_9, n_10, n_11, n_12, n_16, n_19, n_20, n_24, n_25, n_32, n_40, n_48, n_50, n_60, n_64, n_80, n_96, n_114, n_684, n_1000, n_9330, n_16806, n_1000000, n_5764800, ↓n_m, m_ltI, m_leI, m_lt', m_le', m_eq, m_eq', m_add, m_sub, mm_lt, mm_le, mm_eq, q_sub, nI_add, q_mul, nI_clamp, bz_0, bz_1, q_bzb, b_0, b_1, b_ft, b_tf, ne_eq, not_true_eq_false, not_false_eq_true, decide_true, decide_false, Bool.and_self, Bool.false_and, Bool.and_false, Bool.and_true, Bool.true_and, Bool.not_true, Bool.not_false, ↓reduceIte]
    refine ⟨h1, ?_, Inv_form hG (frX_mono (by decide) F) ?_ ⟨Or.inr ⟨by simp (disch := first | omega | rfl | assumption) only [k2, gI_nw_ne, gI_nw_eq, gR_nw_ne, gR_nw_eq, gJ_nw_ne, gV_nw_ne, gN_nw_ne, gN_nw_eq, gC_nw, gS_nw, gC_pR, gS_pR, Nat.zero_add, q_cl, q_ps, q_pn, bI_t, bI_f, gI_same, gI_ne, gR_pI, gJ_pI, gV_pI, gN_pI, gC_pI, gS_pI, gI_pJ, gR_pJ, gV_pJ, gN_pJ, gJ_same, gJ_ne, gI_pR, gJ_pR, gV_pR, gN_pR, gR_same, gR_ne, zin_t, zin_f, x_ltt, x_ltf, x_let, x_lef, x_eqt, x_eqf, n_0, n_1, n_2, n_3, n_4, n_5, n_6, n_7, n_8, n_9, n_10, n_11, n_12, n_16, n_19, n_20, n_24, n_25, n_32, n_40, n_48, n_50, n_60, n_64, n_80, n_96, n_114, n_684, n_1000, n_9330, n_16806, n_1000000, n_5764800, ↓n_m, m_ltI, m_leI, m_lt', m_le', m_eq, m_eq', m_add, m_sub, mm_lt, mm_le, mm_eq, q_sub, nI_add, q_mul, nI_clamp, bz_0, bz_1, q_bzb, b_0, b_1, b_ft, b_tf, ne_eq, not_true_eq_false, not_false_eq_true, decide_true, decide_false, Bool.and_self, Bool.false_and, Bool.and_false, Bool.and_true, Bool.true_and, Bool.not_true, Bool.not_false, ↓reduceIte], by simp (disch := first | omega | rfl | assumption) only [k2, gI_nw_ne, gI_nw_eq, gR_nw_ne, gR_nw_eq, gJ_nw_ne, gV_nw_ne, gN_nw_ne, gN_nw_eq, gC_nw, gS_nw, gC_pR, gS_pR, Nat.zero_add, q_cl, q_ps, q_pn, bI_t, bI_f, gI_same, gI_ne, gR_pI, gJ_pI, gV_pI, gN_pI, gC_pI, gS_pI, gI_pJ, gR_pJ, gV_pJ, gN_pJ, gJ_same, gJ_ne, gI_pR, gJ_pR, gV_pR, gN_pR, gR_same, gR_ne, zin_t, zin_f, x_ltt, x_ltf, x_let, x_lef, x_eqt, x_eqf, n_0, n_1, n_2, n_3, n_4, n_5, n_6, n_7, n_8, n_9, n_10, n_11, n_12, n_16, n_19, n_20, n_24, n_25, n_32, n_40, n_48, n_50, n_60, n_64, n_80, n_96, n_114, n_684, n_1000, n_9330, n_16806, n_1000000, n_5764800, ↓n_m, m_ltI, m_leI, m_lt', m_le', m_eq, m_eq', m_add, m_sub, mm_lt, mm_le, mm_eq, q_sub, nI_add, q_mul, nI_clamp, bz_0, bz_1, q_bzb, b_0, b_1, b_ft, b_tf, ne_eq, not_true_eq_false, not_false_eq_true, decide_true, decide_false, Bool.and_self, Bool.false_and, Bool.and_false, Bool.and_true, Bool.true_and, Bool.not_true, Bool.not_false, ↓reduceIte], by simp (disch := first | omega | rfl | assumption) only [kN, gI_nw_ne, gI_nw_eq, gR_nw_ne, gR_nw_eq, gJ_nw_ne, gV_nw_ne, gN_nw_ne, gN_nw_eq, gC_nw, gS_nw, gC_pR, gS_pR, Nat.zero_add, y2, q_cl, q_ps, q_pn, bI_t, bI_f, gI_same, gI_ne, gR_pI, gJ_pI, gV_pI, gN_pI, gC_pI, gS_pI, gI_pJ, gR_pJ, gV_pJ, gN_pJ, gJ_same, gJ_ne, gI_pR, gJ_pR, gV_pR, gN_pR, gR_same, gR_ne, zin_t, zin_f, x_ltt, x_ltf, x_let, x_lef, x_eqt, x_eqf, n_0, n_1, n_2, n_3, n_4, n_5, n_6, n_7, n_8, n_9, n_10, n_11, n_12, n_16, n_19, n_20, n_24, n_25, n_32, n_40, n_48, n_50, n_60, n_64, n_80, n_96, n_114, n_684, n_1000, n_9330, n_16806, n_1000000, n_5764800, ↓n_m, m_ltI, m_leI, m_lt', m_le', m_eq, m_eq', m_add, m_sub, mm_lt, mm_le, mm_eq, q_sub, nI_add, q_mul, nI_clamp, bz_0, bz_1, q_bzb, b_0, b_1, b_ft, b_tf, ne_eq, not_true_eq_false, not_false_eq_true, decide_true, decide_false, Bool.and_self, Bool.false_and, Bool.and_false, Bool.and_true, Bool.true_and, Bool.not_true, Bool.not_false, ↓reduceIte], by simp (disch := first | omega | rfl | assumption) only [kN, gI_nw_ne, gI_nw_eq, gR_nw_ne, gR_nw_eq, gJ_nw_ne, gV_nw_ne, gN_nw_ne, gN_nw_eq, gC_nw, gS_nw, gC_pR, gS_pR, Nat.zero_add, y3, q_cl, q_ps, q_pn, bI_t, bI_f, gI_same, gI_ne, gR_pI, gJ_pI, gV_pI, gN_pI, gC_pI, gS_pI, gI_pJ, gR_pJ, gV_pJ, gN_pJ, gJ_same, gJ_ne, gI_pR, gJ_pR, gV_pR, gN_pR, gR_same, gR_ne, zin_t, zin_f, x_ltt, x_ltf, x_let, x_lef, x_eqt, x_eqf, n_0, n_1, n_2, n_3, n_4, n_5, n_6, n_7, n_8, n_9, n_10, n_11, n_12, n_16, n_19, n_20, n_24, n_25, n_32, n_40, n_48, n_50, n_60, n_64, n_80, n_96, n_114, n_684, n_1000, n_9330, n_16806, n_1000000, n_5764800, ↓n_m, m_ltI, m_leI, m_lt', m_le', m_eq, m_eq', m_add, m_sub, mm_lt, mm_le, mm_eq, q_sub, nI_add, q_mul, nI_clamp, bz_0, bz_1, q_bzb, b_0, b_1, b_ft, b_tf, ne_eq, not_true_eq_false, not_false_eq_true, decide_true, decide_false, Bool.and_self, Bool.false_and, Bool.and_false, Bool.and_true, Bool.true_and, Bool.not_true, Bool.not_false, ↓reduceIte], e2⟩, ?_, fun i hi => ?_, fun t => ?_, fun t t' q1 q2 => ?_, fun t ht => ?_, fun t ht => ?_⟩, ⟨by simp (disch := first | omega | rfl | assumption) only [k2, gI_nw_ne, gI_nw_eq, gR_nw_ne, gR_nw_eq, gJ_nw_ne, gV_nw_ne, gN_nw_ne, gN_nw_eq, gC_nw, gS_nw, gC_pR, gS_pR, Nat.zero_add, q_cl, q_ps, q_pn, bI_t, bI_f, gI_same, gI_ne, gR_pI, gJ_pI, gV_pI, gN_pI, gC_pI, gS_pI, gI_pJ, gR_pJ, gV_pJ, gN_pJ, gJ_same, gJ_ne, gI_pR, gJ_pR, gV_pR, gN_pR, gR_same, gR_ne, zin_t, zin_f, x_ltt, x_ltf, x_let, x_lef, x_eqt, x_eqf, n_0, n_1, n_2, n_3, n_4, n_5, n_6, n_7, n_8, n_9, n_10, n_11, n_12, n_16, n_19, n_20, n_24, n_25, n_32, n_40, n_48, n_50, n_60, n_64, n_80, n_96, n_114, n_684, n_1000, n_9330, n_16806, n_1000000, n_5764800, ↓n_m, m_ltI, m_leI, m_lt', m_le', m_eq, m_eq', m_add, m_sub, mm_lt, mm_le, mm_eq, q_sub, nI_add, q_mul, nI_clamp, bz_0, bz_1, q_bzb, b_0, b_1, b_ft, b_tf, ne_eq, not_true_eq_false, not_false_eq_true, decide_true, decide_false, Bool.and_self, Bool.false_and, Bool.and_false, Bool.and_true, Bool.true_and, Bool.not_true, Bool.not_false, ↓reduceIte], by simp (disch := first | omega | rfl | assumption) only [k2, gI_nw_ne, gI_nw_eq, gR_nw_ne, gR_nw_eq, gJ_nw_ne, gV_nw_ne, gN_nw_ne, gN_nw_eq, gC_nw, gS_nw, gC_pR, gS_pR, Nat.zero_add, q_cl, q_ps, q_pn, bI_t, bI_f, gI_same, gI_ne, gR_pI, gJ_pI, gV_pI, gN_pI, gC_pI, gS_pI, gI_pJ, gR_pJ, gV_pJ, gN_pJ, gJ_same, gJ_ne, gI_pR, gJ_pR, gV_pR, gN_pR, gR_same, gR_ne, zin_t, zin_f, x_ltt, x_ltf, x_let, x_lef, x_eqt, x_eqf, n_0, n_1, n_2, n_3, n_4, n_5, n_6, n_7, n_8, n_9, n_10, n_11, n_12, n_16, n_19, n_20, n_24, n_25, n_32, n_40, n_48, n_50, n_60, n_64, n_80, n_96, n_114, n_684, n_1000, n_9330, n_16806, n_1000000, n_5764800, ↓n_m, m_ltI, m_leI, m_lt', m_le', m_eq, m_eq', m_add, m_sub, mm_lt, mm_le, mm_eq, q_sub, nI_add, q_mul, nI_clamp, bz_0, bz_1, q_bzb, b_0, b_1, b_ft, b_tf, ne_eq, not_true_eq_false, not_false_eq_true, decide_true, decide_false, Bool.and_self, Bool.false_and, Bool.and_false, Bool.and_true, Bool.true_and, Bool.not_true, Bool.not_false, ↓reduceIte], e2⟩, F, fun p i k q1 q2 => by simp (disch := first | omega | rfl | assumption) only [k1, gI_nw_ne, gI_nw_eq, gR_nw_ne, gR_nw_eq, gJ_nw_ne, gV_nw_ne, gN_nw_ne, gN_nw_eq, gC_nw, gS_nw, gC_pR, gS_pR, Nat.zero_add, q_cl, q_ps, q_pn, bI_t, bI_f, gI_same, gI_ne, gR_pI, gJ_pI, gV_pI, gN_pI, gC_pI, gS_pI, gI_pJ, gR_pJ, gV_pJ, gN_pJ, gJ_same, gJ_ne, gI_pR, gJ_pR, gV_pR, gN_pR, gR_same, gR_ne, zin_t, zin_f, x_ltt, x_ltf, x_let, x_lef, x_eqt, x_eqf, n_0, n_1, n_2, n_3, n_4, n_5, n_6, n_7, n_8, n_9, n_10, n_11, n_12, n_16, n_19, n_20, n_24, n_25, n_32, n_40, n_48, n_50, n_60, n_64, n_80, n_96, n_114, n_684, n_1000, n_9330, n_16806, n_1000000, n_5764800, ↓n_m, m_ltI, m_leI, m_lt', m_le', m_eq, m_eq', m_add, m_sub, mm_lt, mm_le, mm_eq, q_sub, nI_add, q_mul, nI_clamp, bz_0, bz_1, q_bzb, b_0, b_1, b_ft, b_tf, ne_eq, not_true_eq_false, not_false_eq_true, decide_true, decide_false, Bool.and_self, Bool.false_and, Bool.and_false, Bool.and_true, Bool.true_and, Bool.not_true, Bool.not_false, ↓reduceIte]⟩
    · rw [rX1_prepareStems, bX1_prepareStems_0, if_pos y1, bX1_prepareStems_8]
      simp (disch := first | omega | rfl | assumption) only [y2, y3, y4, y5, gI_nw_ne, gI_nw_eq, gR_nw_ne, gR_nw_eq, gJ_nw_ne, gV_nw_ne, gN_nw_ne, gN_nw_eq, gC_nw, gS_nw, gC_pR, gS_pR, Nat.zero_add, q_cl, q_ps, q_pn, bI_t, bI_f, gI_same, gI_ne, gR_pI, gJ_pI, gV_pI, gN_pI, gC_pI, gS_pI, gI_pJ, gR_pJ, gV_pJ, gN_pJ, gJ_same, gJ_ne, gI_pR, gJ_pR, gV_pR, gN_pR, gR_same, gR_ne, zin_t, zin_f, x_ltt, x_ltf, x_let, x_lef, x_eqt, x_eqf, n_0, n_1, n_2, n_3, n_4, n_5, n_6, n_7, n_8, n_9, n_10, n_11, n_12, n_16, n_19, n_20, n_24, n_25, n_32, n_40, n_48, n_50, n_60, n_64, n_80, n_96, n_114, n_684, n_1000, n_9330, n_16806, n_1000000, n_5764800, ↓n_m, m_ltI, m_leI, m_lt', m_le', m_eq, m_eq', m_add, m_sub, mm_lt, mm_le, mm_eq, q_sub, nI_add, q_mul, nI_clamp, bz_0, bz_1, q_bzb, b_0, b_1, b_ft, b_tf, ne_eq, not_true_eq_false, not_false_eq_true, decide_true, decide_false, Bool.and_self, Bool.false_and, Bool.and_false, Bool.and_true, Bool.true_and, Bool.not_true, Bool.not_false, ↓reduceIte]
      exact e1
    · obtain ⟨r1, r2⟩ := I_rm hG
      unfold iRm
      simp (disch := first | omega | rfl | assumption) only [kC, kS, kN, gI_nw_ne, gI_nw_eq, gR_nw_ne, gR_nw_eq, gJ_nw_ne, gV_nw_ne, gN_nw_ne, gN_nw_eq, gC_nw, gS_nw, gC_pR, gS_pR, Nat.zero_add, y2, q_cl, q_ps, q_pn, bI_t, bI_f, gI_same, gI_ne, gR_pI, gJ_pI, gV_pI, gN_pI, gC_pI, gS_pI, gI_pJ, gR_pJ, gV_pJ, gN_pJ, gJ_same, gJ_ne, gI_pR, gJ_pR, gV_pR, gN_pR, gR_same, gR_ne, zin_t, zin_f, x_ltt, x_ltf, x_let, x_lef, x_eqt, x_eqf, n_0, n_1, n_2, n_3, n_4, n_5, n_6, n_7, n_8, n_9, n_10, n_11, n_12, n_16, n_19, n_20, n_24, n_25, n_32, n_40, n_48, n_50, n_60, n_64, n_80, n_96, n_114, n_684, n_1000, n_9330, n_16806, n_1000000, n_5764800, ↓n_m, m_ltI, m_leI, m_lt', m_le', m_eq, m_eq', m_add, m_sub, mm_lt, mm_le, mm_eq, q_sub, nI_add, q_mul, nI_clamp, bz_0, bz_1, q_bzb, b_0, b_1, b_ft, b_tf, ne_eq, not_true_eq_false, not_false_eq_true, decide_true, decide_false, Bool.and_self, Bool.false_and, Bool.and_false, Bool.and_true, Bool.true_and, Bool.not_true, Bool.not_false, ↓reduceIte]
      rw [y2] at r1 r2
      constructor <;> omega
    · rw [cF_congr r5, n42]; exact z2
    · rw [n42] at hi
      simp (disch := first | omega | rfl | assumption) only [kV, gI_nw_ne, gI_nw_eq, gR_nw_ne, gR_nw_eq, gJ_nw_ne, gV_nw_ne, gN_nw_ne, gN_nw_eq, gC_nw, gS_nw, gC_pR, gS_pR, Nat.zero_add, z3 i hi, q_cl, q_ps, q_pn, bI_t, bI_f, gI_same, gI_ne, gR_pI, gJ_pI, gV_pI, gN_pI, gC_pI, gS_pI, gI_pJ, gR_pJ, gV_pJ, gN_pJ, gJ_same, gJ_ne, gI_pR, gJ_pR, gV_pR, gN_pR, gR_same, gR_ne, zin_t, zin_f, x_ltt, x_ltf, x_let, x_lef, x_eqt, x_eqf, n_0, n_1, n_2, n_3, n_4, n_5, n_6, n_7, n_8, n_9, n_10, n_11, n_12, n_16, n_19, n_20, n_24, n_25, n_32, n_40, n_48, n_50, n_60, n_64, n_80, n_96, n_114, n_684, n_1000, n_9330, n_16806, n_1000000, n_5764800, ↓n_m, m_ltI, m_leI, m_lt', m_le', m_eq, m_eq', m_add, m_sub, mm_lt, mm_le, mm_eq, q_sub, nI_add, q_mul, nI_clamp, bz_0, bz_1, q_bzb, b_0, b_1, b_ft, b_tf, ne_eq, not_true_eq_false, not_false_eq_true, decide_true, decide_false, Bool.and_self, Bool.false_and, Bool.and_false, Bool.and_true, Bool.true_and, Bool.not_true, Bool.not_false, ↓reduceIte]
    · rw [r5, n42]; exact z4 t
    · rw [r5] at q1
      rw [r5, r5] at q2
      exact z5 t t' q1 q2
    · rw [r5]; exact z6 t ht
    · rcases z7 t ht with q | ⟨q1, q2, q3⟩
      · left; simp (disch := first | omega | rfl | assumption) only [k1, gI_nw_ne, gI_nw_eq, gR_nw_ne, gR_nw_eq, gJ_nw_ne, gV_nw_ne, gN_nw_ne, gN_nw_eq, gC_nw, gS_nw, gC_pR, gS_pR, Nat.zero_add, q, q_cl, q_ps, q_pn, bI_t, bI_f, gI_same, gI_ne, gR_pI, gJ_pI, gV_pI, gN_pI, gC_pI, gS_pI, gI_pJ, gR_pJ, gV_pJ, gN_pJ, gJ_same, gJ_ne, gI_pR, gJ_pR, gV_pR, gN_pR, gR_same, gR_ne, zin_t, zin_f, x_ltt, x_ltf, x_let, x_lef, x_eqt, x_eqf, n_0, n_1, n_2, n_3, n_4, n_5, n_6, n_7, n_8, n_9, n_10, n_11, n_12, n_16, n_19, n_20, n_24, n_25, n_32, n_40, n_48, n_50, n_60, n_64, n_80, n_96, n_114, n_684, n_1000, n_9330, n_16806, n_1000000, n_5764800, ↓n_m, m_ltI, m_leI, m_lt', m_le', m_eq, m_eq', m_add, m_sub, mm_lt, mm_le, mm_eq, q_sub, nI_add, q_mul, nI_clamp, bz_0, bz_1, q_bzb, b_0, b_1, b_ft, b_tf, ne_eq, not_true_eq_false, not_false_eq_true, decide_true, decide_false, Bool.and_self, Bool.false_and, Bool.and_false, Bool.and_true, Bool.true_and, Bool.not_true, Bool.not_false, ↓reduceIte]
      · refine Or.inr ⟨by simp (disch := first | omega | rfl | assumption) only [k1, gI_nw_ne, gI_nw_eq, gR_nw_ne, gR_nw_eq, gJ_nw_ne, gV_nw_ne, gN_nw_ne, gN_nw_eq, gC_nw, gS_nw, gC_pR, gS_pR, Nat.zero_add, q1, q_cl, q_ps, q_pn, bI_t, bI_f, gI_same, gI_ne, gR_pI, gJ_pI, gV_pI, gN_pI, gC_pI, gS_pI, gI_pJ, gR_pJ, gV_pJ, gN_pJ, gJ_same, gJ_ne, gI_pR, gJ_pR, gV_pR, gN_pR, gR_same, gR_ne, zin_t, zin_f, x_ltt, x_ltf, x_let, x_lef, x_eqt, x_eqf, n_0, n_1, n_2, n_3, n_4, n_5, n_6, n_7, n_8, n_9, n_10, n_11, n_12, n_16, n_19, n_20, n_24, n_25, n_32, n_40, n_48, n_50, n_60, n_64, n_80, n_96, n_114, n_684, n_1000, n_9330, n_16806, n_1000000, n_5764800, ↓n_m, m_ltI, m_leI, m_lt', m_le', m_eq, m_eq', m_add, m_sub, mm_lt, mm_le, mm_eq, q_sub, nI_add, q_mul, nI_clamp, bz_0, bz_1, q_bzb, b_0, b_1, b_ft, b_tf, ne_eq, not_true_eq_false, not_false_eq_true, decide_true, decide_false, Bool.and_self, Bool.false_and, Bool.and_false, Bool.and_true, Bool.true_and, Bool.not_true, Bool.not_false, ↓reduceIte], by rw [r5]; exact q2, fun s hs => ?_⟩
        rw [r5, ← q3 s hs]
        simp (disch := first | omega | rfl | assumption) only [kJ, gI_nw_ne, gI_nw_eq, gR_nw_ne, gR_nw_eq, gJ_nw_ne, gV_nw_ne, gN_nw_ne, gN_nw_eq, gC_nw, gS_nw, gC_pR, gS_pR, Nat.zero_add, q_cl, q_ps, q_pn, bI_t, bI_f, gI_same, gI_ne, gR_pI, gJ_pI, gV_pI, gN_pI, gC_pI, gS_pI, gI_pJ, gR_pJ, gV_pJ, gN_pJ, gJ_same, gJ_ne, gI_pR, gJ_pR, gV_pR, gN_pR, gR_same, gR_ne, zin_t, zin_f, x_ltt, x_ltf, x_let, x_lef, x_eqt, x_eqf, n_0, n_1, n_2, n_3, n_4, n_5, n_6, n_7, n_8, n_9, n_10, n_11, n_12, n_16, n_19, n_20, n_24, n_25, n_32, n_40, n_48, n_50, n_60, n_64, n_80, n_96, n_114, n_684, n_1000, n_9330, n_16806, n_1000000, n_5764800, ↓n_m, m_ltI, m_leI, m_lt', m_le', m_eq, m_eq', m_add, m_sub, mm_lt, mm_le, mm_eq, q_sub, nI_add, q_mul, nI_clamp, bz_0, bz_1, q_bzb, b_0, b_1, b_ft, b_tf, ne_eq, not_true_eq_false, not_false_eq_true, decide_true, decide_false, Bool.and_self, Bool.false_and, Bool.and_false, Bool.and_true, Bool.true_and, Bool.not_true, Bool.not_false, ↓reduceIte]
  · refine ⟨h, ?_, hG, ⟨y1, y2, y5⟩, frX_rfl _ _, fun _ _ _ _ _ => rfl⟩
    rw [rX1_prepareStems, bX1_prepareStems_0, if_neg (by omega)]
