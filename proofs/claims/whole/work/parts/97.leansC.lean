/-! ===== leans: the class ===== -/
theorem bc_all : ∀ a, a < 1024 → (((((((((nI a) - ((z_ush (nI a) 1) &&& 1431655765)) &&& 858993459) + ((z_ush ((nI a) - ((z_ush (nI a) 1) &&& 1431655765)) 2) &&& 858993459)) + (z_ush ((((nI a) - ((z_ush (nI a) 1) &&& 1431655765)) &&& 858993459) + ((z_ush ((nI a) - ((z_ush (nI a) 1) &&& 1431655765)) 2) &&& 858993459)) 4)) &&& 252645135) + (z_ush ((((((nI a) - ((z_ush (nI a) 1) &&& 1431655765)) &&& 858993459) + ((z_ush ((nI a) - ((z_ush (nI a) 1) &&& 1431655765)) 2) &&& 858993459)) + (z_ush ((((nI a) - ((z_ush (nI a) 1) &&& 1431655765)) &&& 858993459) + ((z_ush ((nI a) - ((z_ush (nI a) 1) &&& 1431655765)) 2) &&& 858993459)) 4)) &&& 252645135) 8)) + (z_ush (((((((nI a) - ((z_ush (nI a) 1) &&& 1431655765)) &&& 858993459) + ((z_ush ((nI a) - ((z_ush (nI a) 1) &&& 1431655765)) 2) &&& 858993459)) + (z_ush ((((nI a) - ((z_ush (nI a) 1) &&& 1431655765)) &&& 858993459) + ((z_ush ((nI a) - ((z_ush (nI a) 1) &&& 1431655765)) 2) &&& 858993459)) 4)) &&& 252645135) + (z_ush ((((((nI a) - ((z_ush (nI a) 1) &&& 1431655765)) &&& 858993459) + ((z_ush ((nI a) - ((z_ush (nI a) 1) &&& 1431655765)) 2) &&& 858993459)) + (z_ush ((((nI a) - ((z_ush (nI a) 1) &&& 1431655765)) &&& 858993459) + ((z_ush ((nI a) - ((z_ush (nI a) 1) &&& 1431655765)) 2) &&& 858993459)) 4)) &&& 252645135) 8)) 16)) &&& 63) = nI (cntB (fun k => a.testBit k) 10) := by decide +kernel
theorem c_bitCount (d : Nat) {a : Nat} (ha : a < 1024) (h : z_H) : Rn (d + 1) 240 [z_I (nI a)] h = some (some (z_I (nI (cntB (fun k => a.testBit k) 10))), h) := by
  rw [rJ6_bitCount_0f7a4, bJ6_bitCount_0f7a4_0, bc_all a ha]
theorem andn (a b : Int32) : a &&& (b ^^^ mI) = a ^^^ (a &&& b) := by
  apply Int32.toBitVec_inj.mp
  have e : mI.toBitVec = BitVec.allOnes 32 := by decide
  rw [Int32.toBitVec_and, Int32.toBitVec_xor, Int32.toBitVec_xor, Int32.toBitVec_and, e]
  apply BitVec.eq_of_getLsbD_eq
  intro i hi
  rw [BitVec.getLsbD_and, BitVec.getLsbD_xor, BitVec.getLsbD_xor, BitVec.getLsbD_and, BitVec.getLsbD_allOnes, decide_eq_true hi]
  cases a.toBitVec.getLsbD i <;> cases b.toBitVec.getLsbD i <;> rfl
def owB (G : Gh) (j t : Nat) : Bool := decide (j ∈ gow G t)
/-- a tongue has the law, or is under one that has it -/
def tch (G : Gh) (j t : Nat) : Bool := exB (fun u => (gch G t).testBit u && owB G j u) 8
theorem exB_ex {P : Nat → Bool} : ∀ n, exB P n = true → ∃ k, k < n ∧ P k = true := by
  intro n
  induction n with
  | zero => intro h; cases h
  | succ n ih =>
    intro h
    rw [exB_succ, Bool.or_eq_true] at h
    rcases h with h | h
    · obtain ⟨k, hk, q⟩ := ih h
      exact ⟨k, by omega, q⟩
    · exact ⟨n, by omega, h⟩
theorem exB_false {P : Nat → Bool} {n : Nat} (h : exB P n = false) : ∀ k, k < n → P k = false := by
  intro k hk
  cases hp : P k with
  | false => rfl
  | true => rw [exB_yes n hk hp] at h; cases h
theorem ownR_mute {V : Nat} {LF : Nat → Lw} {j : Nat} : ∀ (ls : List Nat) (w : List Nat), j ∉ ls → ownR V LF (j + 1) ls w = ownR V LF 0 ls w := by
  intro ls
  induction ls with
  | nil => intro w _; rfl
  | cons x ls ih =>
    intro w h
    have h1 : ¬ x = j := fun z => h (by rw [z]; exact List.mem_cons_self)
    show ownR V LF (j + 1) ls (if x + 1 = j + 1 then w else runW V (LF x) w) = ownR V LF 0 ls (if x + 1 = 0 then w else runW V (LF x) w)
    rw [if_neg (by omega), if_neg (by omega)]
    exact ih _ (fun z => h (List.mem_cons_of_mem _ z))
theorem frm_mute {G : Gh} (hc : okCh G) {j : Nat} : ∀ t, t < 8 → tch G j t = false → ∀ w, frm G (j + 1) t w = frm G 0 t w := by
  intro t
  induction t using Nat.strongRecOn with
  | ind t ih =>
    intro ht8 ht w
    have ha := (hc t).1
    have hs := exB_false ht t ht8
    rw [ch_self hc t, Bool.true_and] at hs
    have hno : j ∉ gow G t := by unfold owB at hs; exact of_decide_eq_false hs
    rw [frm_eq G (j + 1) (fun t => (hc t).1), frm_eq G 0 (fun t => (hc t).1), ownR_mute _ _ hno]
    by_cases h0 : gab G t = 0
    · rw [if_pos h0, if_pos h0]
    · rw [if_neg h0, if_neg h0, ih (gab G t - 1) (by omega) (by omega) (exB_no 8 (fun u hu => by
        cases hb : (gch G (gab G t - 1)).testBit u with
        | false => rfl
        | true =>
          have h1 : (gch G t).testBit u = true := by rw [ch_bit hc, hb, decide_eq_true h0]; simp
          have := exB_false ht u hu
          rw [h1, Bool.true_and] at this
          rw [this]; rfl)) w]
theorem wrt_mute {G : Gh} (hc : okCh G) {j t : Nat} (ht : t < 8) (h : tch G j t = false) (w : List Nat) : wrt G (j + 1) t w = wrt G 0 t w := by
  unfold wrt
  rw [frm_mute hc t ht h w]
theorem mo_same {G : Gh} {mu : Nat} {want : Nat → Option (List Nat)} {s : Nat} : ∀ n, (∀ t, t < n → want t = none ∨ wrt G mu t (stW s) = wrt G 0 t (stW s)) → moB G 0 want s n = moB G mu want s n := by
  intro n
  induction n with
  | zero => intro _; rfl
  | succ n ih =>
    intro h
    show (moB G 0 want s n && (decide (want n = none) || decide (want n = some (wrt G 0 n (stW s))))) = (moB G mu want s n && (decide (want n = none) || decide (want n = some (wrt G mu n (stW s)))))
    rw [ih (fun t ht => h t (by omega))]
    rcases h n (by omega) with z | z
    · rw [z]; simp
    · rw [z]
theorem ln_same {G : Gh} {mu : Nat} {K : Nat → Nat → Option (List Nat)} {s m : Nat} (h : ∀ t, t < gnT G → K m t = none ∨ wrt G mu t (stW s) = wrt G 0 t (stW s)) : lnD G mu K s m = false := by
  unfold lnD
  rw [mo_same (gnT G) h]
  simp
theorem row_eq {o : Option (List Nat)} {w : List Nat} (ho : okO o) (hw : isW w) : (o = none ∧ rowO o = mI) ∨ (∃ v, o = some v ∧ rowO o = nI (rowN v) ∧ rowN v < 16777216 ∧ ((rowN v = rowN w) ↔ o = some w)) := by
  cases o with
  | none => exact Or.inl ⟨rfl, rfl⟩
  | some v =>
    have hv := ho v rfl
    refine Or.inr ⟨v, rfl, rfl, rowN_lt' hv, ⟨fun z => by rw [rowN_inj _ _ hv.2 hw.2 z], fun z => by rw [Option.some.inj z]⟩⟩
theorem c_owns_loop (d : Nat) {G : Gh} {h : z_H} (m : cT h G) {j t : Nat} (ht : t < gnT G) (hj : j < 24) : ∀ (r k : Nat), k + r = (gow G t).length → (∀ i x, i < k → (gow G t)[i]? = some x → x ≠ j) →
    EX d 76 2 [z_R 7080 t, z_I (nI j), z_I (nI k)] [] h = some (some (z_I (bI (owB G j t))), h) := by
  obtain ⟨⟨v3, w3, w4, a3, a5, o6⟩, c, v1, w1, w5, a1, t6⟩ := m
  obtain ⟨b1, b2, b3, b4, b5, b6, b7, b8⟩ := t6 t ht
  obtain ⟨o7, o8, o9⟩ := o6 t ht
  intro r
  induction r with
  | zero =>
    intro k hk hno
    have e : owB G j t = false := decide_eq_false (fun z => by
      obtain ⟨i, hi⟩ := List.getElem?_of_mem z
      have hl := (List.getElem?_eq_some_iff.mp hi).1
      exact hno i j (by omega) hi rfl)
    rw [bX9_owns_2, e]
    simp (disch := first | omega | rfl | assumption) only [b6, bX9_owns_31, q_cl, q_ps, q_pn, bI_t, bI_f, gI_same, gI_ne, gR_pI, gJ_pI, gV_pI, gN_pI, gC_pI, gS_pI, gI_pJ, gR_pJ, gV_pJ, gN_pJ, gJ_same, gJ_ne, gI_pR, gJ_pR, gV_pR, gN_pR, gR_same, gR_ne, zin_t, zin_f, x_ltt, x_ltf, x_let, x_lef, x_eqt, x_eqf, n_0, n_1, n_2, n_3, n_4, n_5, n_6, n_7, n_8, n_9, n_10, n_11, n_12, n_16, n_19, n_20, n_24, n_25, n_32, n_40, n_48, n_50, n_60, n_64, n_80, n_96, n_114, n_684, n_1000, n_9330, n_16806, n_1000000, n_5764800, ↓n_m, m_ltI, m_leI, m_lt', m_le', m_eq, m_eq', m_add, m_sub, mm_lt, mm_le, mm_eq, q_sub, nI_add, q_mul, nI_clamp, bz_0, bz_1, q_bzb, b_0, b_1, b_ft, b_tf, ne_eq, not_true_eq_false, not_false_eq_true, decide_true, decide_false, Bool.and_self, Bool.false_and, Bool.and_false, Bool.and_true, Bool.true_and, Bool.not_true, Bool.not_false, ↓reduceIte]
  | succ r ih =>
    intro k hk hno
    have hkl : k < (gow G t).length := by omega
    have hx : (gow G t)[k]? = some ((gow G t)[k]) := List.getElem?_eq_getElem hkl
    have ho := b7 k _ hx
    have hxl := o8 _ (List.mem_of_getElem? hx)
    generalize (gow G t)[k] = x at hx ho hxl
    obtain ⟨q2, q3, q5, q8⟩ := w5 x hxl
    have hx24 : x < 24 := by omega
    rw [bX9_owns_2]
    by_cases e : x = j
    · subst e
      have eo : owB G x t = true := decide_eq_true (List.mem_of_getElem? hx)
      rw [eo]
      simp (disch := first | omega | rfl | assumption) only [b6, b4, ho, Nat.add_one_ne_zero, Nat.add_sub_cancel, q3, q_cl, q_ps, q_pn, bI_t, bI_f, gI_same, gI_ne, gR_pI, gJ_pI, gV_pI, gN_pI, gC_pI, gS_pI, gI_pJ, gR_pJ, gV_pJ, gN_pJ, gJ_same, gJ_ne, gI_pR, gJ_pR, gV_pR, gN_pR, gR_same, gR_ne, zin_t, zin_f, x_ltt, x_ltf, x_let, x_lef, x_eqt, x_eqf, n_0, n_1, n_2, n_3, n_4, n_5, n_6, n_7, n_8, n_9, n_10, n_11, n_12, n_16, n_19, n_20, n_24, n_25, n_32, n_40, n_48, n_50, n_60, n_64, n_80, n_96, n_114, n_684, n_1000, n_9330, n_16806, n_1000000, n_5764800, ↓n_m, m_ltI, m_leI, m_lt', m_le', m_eq, m_eq', m_add, m_sub, mm_lt, mm_le, mm_eq, q_sub, nI_add, q_mul, nI_clamp, bz_0, bz_1, q_bzb, b_0, b_1, b_ft, b_tf, ne_eq, not_true_eq_false, not_false_eq_true, decide_true, decide_false, Bool.and_self, Bool.false_and, Bool.and_false, Bool.and_true, Bool.true_and, Bool.not_true, Bool.not_false, ↓reduceIte]
    · have ih1 := ih (k + 1) (by omega) (fun i z hi hz => by
        by_cases q : i = k
        · subst q; rw [hx] at hz; cases hz; exact e
        · exact hno i z (by omega) hz)
      simp (disch := first | omega | rfl | assumption) only [b6, b4, ho, Nat.add_one_ne_zero, Nat.add_sub_cancel, q3, bX9_owns_25, q_cl, q_ps, q_pn, bI_t, bI_f, gI_same, gI_ne, gR_pI, gJ_pI, gV_pI, gN_pI, gC_pI, gS_pI, gI_pJ, gR_pJ, gV_pJ, gN_pJ, gJ_same, gJ_ne, gI_pR, gJ_pR, gV_pR, gN_pR, gR_same, gR_ne, zin_t, zin_f, x_ltt, x_ltf, x_let, x_lef, x_eqt, x_eqf, n_0, n_1, n_2, n_3, n_4, n_5, n_6, n_7, n_8, n_9, n_10, n_11, n_12, n_16, n_19, n_20, n_24, n_25, n_32, n_40, n_48, n_50, n_60, n_64, n_80, n_96, n_114, n_684, n_1000, n_9330, n_16806, n_1000000, n_5764800, ↓n_m, m_ltI, m_leI, m_lt', m_le', m_eq, m_eq', m_add, m_sub, mm_lt, mm_le, mm_eq, q_sub, nI_add, q_mul, nI_clamp, bz_0, bz_1, q_bzb, b_0, b_1, b_ft, b_tf, ne_eq, not_true_eq_false, not_false_eq_true, decide_true, decide_false, Bool.and_self, Bool.false_and, Bool.and_false, Bool.and_true, Bool.true_and, Bool.not_true, Bool.not_false, ↓reduceIte]
      exact ih1
theorem c_owns (d : Nat) {G : Gh} {h : z_H} (m : cT h G) {j t : Nat} (ht : t < gnT G) (hj : j < 24) : Rn (d + 1) 76 [z_R 7080 t, z_I (nI j)] h = some (some (z_I (bI (owB G j t))), h) := by
  rw [rX9_owns, bX9_owns_0]
  exact c_owns_loop d m ht hj (gow G t).length 0 (by omega) (fun i x hi => by omega)
theorem c_touch_loop (d : Nat) {G : Gh} {h : z_H} (m : cT h G) {j : Nat} (hj : j < 24) : ∀ (r t O T : Nat), t + r = gnT G → tbs O 8 (fun u => decide (u < t) && owB G j u) → tbs T 8 (fun u => decide (u < t) && tch G j u) →
    ∃ T', tbs T' 8 (fun u => decide (u < gnT G) && tch G j u) ∧ EX (d + 1) 29 7 [z_R 9010 0, z_I (nI j), z_I (nI O), z_I (nI T), z_I (nI t)] [] h = some (some (z_I (nI T')), h) := by
  have m' := m
  obtain ⟨⟨v3, w3, w4, a3, a5, o6⟩, c, v1, w1, w5, a1, t6⟩ := m
  intro r
  induction r with
  | zero =>
    intro t O T ht hO hT
    have : t = gnT G := by omega
    subst this
    refine ⟨T, hT, ?_⟩
    rw [bX1_touchedBy_7]
    simp (disch := first | omega | rfl | assumption) only [a1, bX1_touchedBy_65, q_cl, q_ps, q_pn, bI_t, bI_f, gI_same, gI_ne, gR_pI, gJ_pI, gV_pI, gN_pI, gC_pI, gS_pI, gI_pJ, gR_pJ, gV_pJ, gN_pJ, gJ_same, gJ_ne, gI_pR, gJ_pR, gV_pR, gN_pR, gR_same, gR_ne, zin_t, zin_f, x_ltt, x_ltf, x_let, x_lef, x_eqt, x_eqf, n_0, n_1, n_2, n_3, n_4, n_5, n_6, n_7, n_8, n_9, n_10, n_11, n_12, n_16, n_19, n_20, n_24, n_25, n_32, n_40, n_48, n_50, n_60, n_64, n_80, n_96, n_114, n_684, n_1000, n_9330, n_16806, n_1000000, n_5764800, ↓n_m, m_ltI, m_leI, m_lt', m_le', m_eq, m_eq', m_add, m_sub, mm_lt, mm_le, mm_eq, q_sub, nI_add, q_mul, nI_clamp, bz_0, bz_1, q_bzb, b_0, b_1, b_ft, b_tf, ne_eq, not_true_eq_false, not_false_eq_true, decide_true, decide_false, Bool.and_self, Bool.false_and, Bool.and_false, Bool.and_true, Bool.true_and, Bool.not_true, Bool.not_false, ↓reduceIte]
  | succ r ih =>
    intro t O T ht hO hT
    have htn : t < gnT G := by omega
    obtain ⟨b1, b2, b3, b4, b5, b6, b7, b8⟩ := t6 t htn
    have e1 := c_owns d m' htn hj
    have hsh : nI 1 <<< (nI t &&& 31) = nI (2 ^ t) := by rw [q_shl 1 (by omega), Nat.one_mul]
    have hch := ch_lt a5 t
    have hch8 : gch G t < 2 ^ 8 := Nat.lt_of_lt_of_le hch (Nat.pow_le_pow_right (by decide) (by omega))
    -- owners up to this tongue
    have stepO : ∃ O', tbs O' 8 (fun u => decide (u < t + 1) && owB G j u) ∧ EX (d + 1) 29 7 [z_R 9010 0, z_I (nI j), z_I (nI O), z_I (nI T), z_I (nI t)] [] h = EX (d + 1) 29 37 [z_R 9010 0, z_I (nI j), z_I (nI O'), z_I (nI T), z_I (nI t)] [] h := by
      cases hb : owB G j t with
      | true =>
        rw [hb] at e1
        refine ⟨O ||| 2 ^ t, tbs_congr (tbs_set hO (show t < 8 by omega)) (fun k hk => ?_), ?_⟩
        · by_cases e : t = k
          · subst e; rw [decide_eq_true rfl, Bool.or_true, decide_eq_true (Nat.lt_succ_self t), hb]; rfl
          · rw [decide_eq_false e, Bool.or_false]
            congr 1
            exact decide_eq_decide.mpr (by omega)
        · rw [bX1_touchedBy_7]
          simp (disch := first | omega | rfl | assumption) only [a1, c.1 9010 0 rfl, b1, e1, bX1_touchedBy_27, hsh, q_or, q_cl, q_ps, q_pn, bI_t, bI_f, gI_same, gI_ne, gR_pI, gJ_pI, gV_pI, gN_pI, gC_pI, gS_pI, gI_pJ, gR_pJ, gV_pJ, gN_pJ, gJ_same, gJ_ne, gI_pR, gJ_pR, gV_pR, gN_pR, gR_same, gR_ne, zin_t, zin_f, x_ltt, x_ltf, x_let, x_lef, x_eqt, x_eqf, n_0, n_1, n_2, n_3, n_4, n_5, n_6, n_7, n_8, n_9, n_10, n_11, n_12, n_16, n_19, n_20, n_24, n_25, n_32, n_40, n_48, n_50, n_60, n_64, n_80, n_96, n_114, n_684, n_1000, n_9330, n_16806, n_1000000, n_5764800, ↓n_m, m_ltI, m_leI, m_lt', m_le', m_eq, m_eq', m_add, m_sub, mm_lt, mm_le, mm_eq, q_sub, nI_add, q_mul, nI_clamp, bz_0, bz_1, q_bzb, b_0, b_1, b_ft, b_tf, ne_eq, not_true_eq_false, not_false_eq_true, decide_true, decide_false, Bool.and_self, Bool.false_and, Bool.and_false, Bool.and_true, Bool.true_and, Bool.not_true, Bool.not_false, ↓reduceIte]
      | false =>
        rw [hb] at e1
        refine ⟨O, tbs_congr hO (fun k hk => ?_), ?_⟩
        · by_cases e : t = k
          · subst e; rw [hb, Bool.and_false, Bool.and_false]
          · congr 1
            exact decide_eq_decide.mpr (by omega)
        · rw [bX1_touchedBy_7]
          simp (disch := first | omega | rfl | assumption) only [a1, c.1 9010 0 rfl, b1, e1, bX1_touchedBy_27, q_cl, q_ps, q_pn, bI_t, bI_f, gI_same, gI_ne, gR_pI, gJ_pI, gV_pI, gN_pI, gC_pI, gS_pI, gI_pJ, gR_pJ, gV_pJ, gN_pJ, gJ_same, gJ_ne, gI_pR, gJ_pR, gV_pR, gN_pR, gR_same, gR_ne, zin_t, zin_f, x_ltt, x_ltf, x_let, x_lef, x_eqt, x_eqf, n_0, n_1, n_2, n_3, n_4, n_5, n_6, n_7, n_8, n_9, n_10, n_11, n_12, n_16, n_19, n_20, n_24, n_25, n_32, n_40, n_48, n_50, n_60, n_64, n_80, n_96, n_114, n_684, n_1000, n_9330, n_16806, n_1000000, n_5764800, ↓n_m, m_ltI, m_leI, m_lt', m_le', m_eq, m_eq', m_add, m_sub, mm_lt, mm_le, mm_eq, q_sub, nI_add, q_mul, nI_clamp, bz_0, bz_1, q_bzb, b_0, b_1, b_ft, b_tf, ne_eq, not_true_eq_false, not_false_eq_true, decide_true, decide_false, Bool.and_self, Bool.false_and, Bool.and_false, Bool.and_true, Bool.true_and, Bool.not_true, Bool.not_false, ↓reduceIte]
    obtain ⟨O', hO', sO⟩ := stepO
    have hand : gch G t &&& O' < 2 ^ 8 := Nat.and_lt_two_pow _ hO'.1
    have hz : (gch G t &&& O' = 0) ↔ tch G j t = false := by
      constructor
      · intro z
        refine exB_no 8 (fun u hu => ?_)
        have := congrArg (fun x => x.testBit u) z
        simp only [Nat.testBit_and, Nat.zero_testBit] at this
        have hO2 : O'.testBit u = (decide (u < t + 1) && owB G j u) := hO'.2 u hu
        rw [hO2] at this
        by_cases q : u < t + 1
        · rw [decide_eq_true q, Bool.true_and] at this
          exact this
        · rw [ch_hi a5 (by omega), Bool.false_and]
      · intro z
        refine Nat.eq_of_testBit_eq (fun u => ?_)
        rw [Nat.testBit_and, Nat.zero_testBit]
        by_cases hu : u < 8
        · have z2 := exB_false z u hu
          have hO2 : O'.testBit u = (decide (u < t + 1) && owB G j u) := hO'.2 u hu
          rw [hO2]
          cases hx : (gch G t).testBit u with
          | false => rfl
          | true =>
            rw [hx, Bool.true_and] at z2
            rw [z2, Bool.and_false, Bool.and_false]
        · rw [ch_hi a5 (by omega), Bool.false_and]
    rw [sO, bX1_touchedBy_37]
    cases hb : tch G j t with
    | false =>
      have z := hz.mpr hb
      obtain ⟨T', q1, q2⟩ := ih (t + 1) O' T (by omega) hO' (tbs_congr hT (fun k hk => by
        by_cases e : t = k
        · subst e; rw [hb, Bool.and_false, Bool.and_false]
        · congr 1
          exact decide_eq_decide.mpr (by omega)))
      refine ⟨T', q1, ?_⟩
      simp (disch := first | omega | rfl | assumption) only [c.1 9010 0 rfl, b1, b3, q_and, z, bX1_touchedBy_59, q_cl, q_ps, q_pn, bI_t, bI_f, gI_same, gI_ne, gR_pI, gJ_pI, gV_pI, gN_pI, gC_pI, gS_pI, gI_pJ, gR_pJ, gV_pJ, gN_pJ, gJ_same, gJ_ne, gI_pR, gJ_pR, gV_pR, gN_pR, gR_same, gR_ne, zin_t, zin_f, x_ltt, x_ltf, x_let, x_lef, x_eqt, x_eqf, n_0, n_1, n_2, n_3, n_4, n_5, n_6, n_7, n_8, n_9, n_10, n_11, n_12, n_16, n_19, n_20, n_24, n_25, n_32, n_40, n_48, n_50, n_60, n_64, n_80, n_96, n_114, n_684, n_1000, n_9330, n_16806, n_1000000, n_5764800, ↓n_m, m_ltI, m_leI, m_lt', m_le', m_eq, m_eq', m_add, m_sub, mm_lt, mm_le, mm_eq, q_sub, nI_add, q_mul, nI_clamp, bz_0, bz_1, q_bzb, b_0, b_1, b_ft, b_tf, ne_eq, not_true_eq_false, not_false_eq_true, decide_true, decide_false, Bool.and_self, Bool.false_and, Bool.and_false, Bool.and_true, Bool.true_and, Bool.not_true, Bool.not_false, ↓reduceIte]
      exact q2
    | true =>
      have z : gch G t &&& O' ≠ 0 := fun q => by rw [hz.mp q] at hb; cases hb
      obtain ⟨T', q1, q2⟩ := ih (t + 1) O' (T ||| 2 ^ t) (by omega) hO' (tbs_congr (tbs_set hT (show t < 8 by omega)) (fun k hk => by
        by_cases e : t = k
        · subst e; rw [decide_eq_true rfl, Bool.or_true, decide_eq_true (Nat.lt_succ_self t), hb]; rfl
        · rw [decide_eq_false e, Bool.or_false]
          congr 1
          exact decide_eq_decide.mpr (by omega)))
      refine ⟨T', q1, ?_⟩
      simp (disch := first | omega | rfl | assumption) only [c.1 9010 0 rfl, b1, b3, q_and, hsh, q_or, bX1_touchedBy_59, q_cl, q_ps, q_pn, bI_t, bI_f, gI_same, gI_ne, gR_pI, gJ_pI, gV_pI, gN_pI, gC_pI, gS_pI, gI_pJ, gR_pJ, gV_pJ, gN_pJ, gJ_same, gJ_ne, gI_pR, gJ_pR, gV_pR, gN_pR, gR_same, gR_ne, zin_t, zin_f, x_ltt, x_ltf, x_let, x_lef, x_eqt, x_eqf, n_0, n_1, n_2, n_3, n_4, n_5, n_6, n_7, n_8, n_9, n_10, n_11, n_12, n_16, n_19, n_20, n_24, n_25, n_32, n_40, n_48, n_50, n_60, n_64, n_80, n_96, n_114, n_684, n_1000, n_9330, n_16806, n_1000000, n_5764800, ↓n_m, m_ltI, m_leI, m_lt', m_le', m_eq, m_eq', m_add, m_sub, mm_lt, mm_le, mm_eq, q_sub, nI_add, q_mul, nI_clamp, bz_0, bz_1, q_bzb, b_0, b_1, b_ft, b_tf, ne_eq, not_true_eq_false, not_false_eq_true, decide_true, decide_false, Bool.and_self, Bool.false_and, Bool.and_false, Bool.and_true, Bool.true_and, Bool.not_true, Bool.not_false, ↓reduceIte]
      exact q2
theorem c_touched (d : Nat) {G : Gh} {h : z_H} (m : cT h G) {j : Nat} (hj : j < 24) : ∃ T, tbs T 8 (fun u => decide (u < gnT G) && tch G j u) ∧ Rn (d + 2) 29 [z_R 9010 0, z_I (nI j)] h = some (some (z_I (nI T)), h) := by
  obtain ⟨T, q1, q2⟩ := c_touch_loop d m hj (gnT G) 0 0 0 (by omega) (tbs_0 8 (fun k hk => by simp)) (tbs_0 8 (fun k hk => by simp))
  refine ⟨T, q1, ?_⟩
  rw [rX1_touchedBy, bX1_touchedBy_0]
  exact q2
abbrev pAw : Nat → Nat → Nat → Prop := fun p _ _ => p = 80171 ∨ p = 8121
theorem pAw_g : ∀ p i k, pAw p i k → grp p i k ∈ [12] := by
  rintro p i k (rfl | rfl)
  · exact (by decide : (12 : Nat) ∈ [12])
  · exact (by decide : (12 : Nat) ∈ [12])
theorem c_gt_in (d : Nat) {nM m T : Nat} {W : Nat → Option (List Nat)} (h10 : nM ≤ 10) (hm : m < nM) (hT8 : T < 2 ^ 8) (hW : ∀ t, t < 8 → okO (W t)) (x2 : Int32) (P : Nat → Bool) (hP : P m = false) : ∀ (r t O : Nat) (h : z_H), t + r = 8 → cOK h → (∀ t, t < 8 → gI h 8121 0 t = rowO (W t)) → (∀ u, u < t → gI h 80171 0 (8 * m + u) = rowO (W u)) → tbs O nM (fun k => P k || (decide (k = m) && exB (fun t => !decide (W t = none) && T.testBit t) t)) →
    ∃ h' O', EX d 30 29 [z_R 9010 0, z_R 6020 0, z_I x2, z_I (nI T), z_I (nI O), z_I (nI m), z_I (nI t)] [] h = EX d 30 91 [z_R 9010 0, z_R 6020 0, z_I x2, z_I (nI T), z_I (nI O'), z_I (nI m), z_I (nI 8)] [] h' ∧ tbs O' nM (fun k => P k || (decide (k = m) && exB (fun t => !decide (W t = none) && T.testBit t) 8)) ∧ (∀ u, u < 8 → gI h' 80171 0 (8 * m + u) = rowO (W u)) ∧ fr (fun p _ k => p = 80171 ∧ 8 * m ≤ k ∧ k < 8 * m + 8) h h' := by
  intro r
  induction r with
  | zero =>
    intro t O h ht c h8 hu hO
    have : t = 8 := by omega
    subst this
    refine ⟨h, O, ?_, hO, hu, fr_rfl _ _⟩
    rw [bX1_gatherTouched_29]
    simp (disch := first | omega | rfl | assumption) only [q_cl, q_ps, q_pn, bI_t, bI_f, gI_same, gI_ne, gR_pI, gJ_pI, gV_pI, gN_pI, gC_pI, gS_pI, gI_pJ, gR_pJ, gV_pJ, gN_pJ, gJ_same, gJ_ne, gI_pR, gJ_pR, gV_pR, gN_pR, gR_same, gR_ne, zin_t, zin_f, x_ltt, x_ltf, x_let, x_lef, x_eqt, x_eqf, n_0, n_1, n_2, n_3, n_4, n_5, n_6, n_7, n_8, n_9, n_10, n_11, n_12, n_16, n_19, n_20, n_24, n_25, n_32, n_40, n_48, n_50, n_60, n_64, n_80, n_96, n_114, n_684, n_1000, n_9330, n_16806, n_1000000, n_5764800, ↓n_m, m_ltI, m_leI, m_lt', m_le', m_eq, m_eq', m_add, m_sub, mm_lt, mm_le, mm_eq, q_sub, nI_add, q_mul, nI_clamp, bz_0, bz_1, q_bzb, b_0, b_1, b_ft, b_tf, ne_eq, not_true_eq_false, not_false_eq_true, decide_true, decide_false, Bool.and_self, Bool.false_and, Bool.and_false, Bool.and_true, Bool.true_and, Bool.not_true, Bool.not_false, ↓reduceIte]
  | succ r ih =>
    intro t O h ht c h8 hu hO
    have ht8 : t < 8 := by omega
    have hmt : m * 8 + t = 8 * m + t := by omega
    have hsh : nI 1 <<< (nI m &&& 31) = nI (2 ^ m) := by rw [q_shl 1 (by omega), Nat.one_mul]
    have hbit : z_ush (nI T) (nI t) &&& nI 1 = bI (T.testBit t) := q_bit (by omega) (by omega)
    have e8 := h8 t ht8
    have f0 : fr (fun p _ k => p = 80171 ∧ 8 * m ≤ k ∧ k < 8 * m + 8) h (pI h 80171 0 (8 * m + t) (rowO (W t))) := fr_pI h _ ⟨rfl, by omega, by omega⟩
    have nx := fun O' (hO' : tbs O' nM (fun k => P k || (decide (k = m) && exB (fun t => !decide (W t = none) && T.testBit t) (t + 1)))) => ih (t + 1) O' (pI h 80171 0 (8 * m + t) (rowO (W t))) (by omega) (fr_cOK f0 c) (fun u hu' => by simp (disch := first | omega | rfl | assumption) only [h8 u hu', q_cl, q_ps, q_pn, bI_t, bI_f, gI_same, gI_ne, gR_pI, gJ_pI, gV_pI, gN_pI, gC_pI, gS_pI, gI_pJ, gR_pJ, gV_pJ, gN_pJ, gJ_same, gJ_ne, gI_pR, gJ_pR, gV_pR, gN_pR, gR_same, gR_ne, zin_t, zin_f, x_ltt, x_ltf, x_let, x_lef, x_eqt, x_eqf, n_0, n_1, n_2, n_3, n_4, n_5, n_6, n_7, n_8, n_9, n_10, n_11, n_12, n_16, n_19, n_20, n_24, n_25, n_32, n_40, n_48, n_50, n_60, n_64, n_80, n_96, n_114, n_684, n_1000, n_9330, n_16806, n_1000000, n_5764800, ↓n_m, m_ltI, m_leI, m_lt', m_le', m_eq, m_eq', m_add, m_sub, mm_lt, mm_le, mm_eq, q_sub, nI_add, q_mul, nI_clamp, bz_0, bz_1, q_bzb, b_0, b_1, b_ft, b_tf, ne_eq, not_true_eq_false, not_false_eq_true, decide_true, decide_false, Bool.and_self, Bool.false_and, Bool.and_false, Bool.and_true, Bool.true_and, Bool.not_true, Bool.not_false, ↓reduceIte]) (fun u hu' => by
      by_cases e : u = t
      · subst e; simp (disch := first | omega | rfl | assumption) only [q_cl, q_ps, q_pn, bI_t, bI_f, gI_same, gI_ne, gR_pI, gJ_pI, gV_pI, gN_pI, gC_pI, gS_pI, gI_pJ, gR_pJ, gV_pJ, gN_pJ, gJ_same, gJ_ne, gI_pR, gJ_pR, gV_pR, gN_pR, gR_same, gR_ne, zin_t, zin_f, x_ltt, x_ltf, x_let, x_lef, x_eqt, x_eqf, n_0, n_1, n_2, n_3, n_4, n_5, n_6, n_7, n_8, n_9, n_10, n_11, n_12, n_16, n_19, n_20, n_24, n_25, n_32, n_40, n_48, n_50, n_60, n_64, n_80, n_96, n_114, n_684, n_1000, n_9330, n_16806, n_1000000, n_5764800, ↓n_m, m_ltI, m_leI, m_lt', m_le', m_eq, m_eq', m_add, m_sub, mm_lt, mm_le, mm_eq, q_sub, nI_add, q_mul, nI_clamp, bz_0, bz_1, q_bzb, b_0, b_1, b_ft, b_tf, ne_eq, not_true_eq_false, not_false_eq_true, decide_true, decide_false, Bool.and_self, Bool.false_and, Bool.and_false, Bool.and_true, Bool.true_and, Bool.not_true, Bool.not_false, ↓reduceIte]
      · simp (disch := first | omega | rfl | assumption) only [hu u (by omega), q_cl, q_ps, q_pn, bI_t, bI_f, gI_same, gI_ne, gR_pI, gJ_pI, gV_pI, gN_pI, gC_pI, gS_pI, gI_pJ, gR_pJ, gV_pJ, gN_pJ, gJ_same, gJ_ne, gI_pR, gJ_pR, gV_pR, gN_pR, gR_same, gR_ne, zin_t, zin_f, x_ltt, x_ltf, x_let, x_lef, x_eqt, x_eqf, n_0, n_1, n_2, n_3, n_4, n_5, n_6, n_7, n_8, n_9, n_10, n_11, n_12, n_16, n_19, n_20, n_24, n_25, n_32, n_40, n_48, n_50, n_60, n_64, n_80, n_96, n_114, n_684, n_1000, n_9330, n_16806, n_1000000, n_5764800, ↓n_m, m_ltI, m_leI, m_lt', m_le', m_eq, m_eq', m_add, m_sub, mm_lt, mm_le, mm_eq, q_sub, nI_add, q_mul, nI_clamp, bz_0, bz_1, q_bzb, b_0, b_1, b_ft, b_tf, ne_eq, not_true_eq_false, not_false_eq_true, decide_true, decide_false, Bool.and_self, Bool.false_and, Bool.and_false, Bool.and_true, Bool.true_and, Bool.not_true, Bool.not_false, ↓reduceIte]) hO'
    rw [bX1_gatherTouched_29]
    cases ho : W t with
    | none =>
      obtain ⟨h', O', q1, q2, q3, q4⟩ := nx O (tbs_congr hO (fun k hk => by rw [exB_succ, ho]; simp))
      rw [ho] at e8 q1 f0 q4
      refine ⟨h', O', ?_, q2, q3, fr_trans f0 q4⟩
      simp (disch := first | omega | rfl | assumption) only [c.1 9010 8 rfl, c.1 9010 1 rfl, e8, rowO_none, hmt, bX1_gatherTouched_85, q_cl, q_ps, q_pn, bI_t, bI_f, gI_same, gI_ne, gR_pI, gJ_pI, gV_pI, gN_pI, gC_pI, gS_pI, gI_pJ, gR_pJ, gV_pJ, gN_pJ, gJ_same, gJ_ne, gI_pR, gJ_pR, gV_pR, gN_pR, gR_same, gR_ne, zin_t, zin_f, x_ltt, x_ltf, x_let, x_lef, x_eqt, x_eqf, n_0, n_1, n_2, n_3, n_4, n_5, n_6, n_7, n_8, n_9, n_10, n_11, n_12, n_16, n_19, n_20, n_24, n_25, n_32, n_40, n_48, n_50, n_60, n_64, n_80, n_96, n_114, n_684, n_1000, n_9330, n_16806, n_1000000, n_5764800, ↓n_m, m_ltI, m_leI, m_lt', m_le', m_eq, m_eq', m_add, m_sub, mm_lt, mm_le, mm_eq, q_sub, nI_add, q_mul, nI_clamp, bz_0, bz_1, q_bzb, b_0, b_1, b_ft, b_tf, ne_eq, not_true_eq_false, not_false_eq_true, decide_true, decide_false, Bool.and_self, Bool.false_and, Bool.and_false, Bool.and_true, Bool.true_and, Bool.not_true, Bool.not_false, ↓reduceIte]
      exact q1
    | some v =>
      have hv := rowN_lt' (hW t ht8 v ho)
      cases hb : T.testBit t with
      | false =>
        obtain ⟨h', O', q1, q2, q3, q4⟩ := nx O (tbs_congr hO (fun k hk => by rw [exB_succ, hb]; simp))
        rw [ho] at e8 q1 f0 q4
        refine ⟨h', O', ?_, q2, q3, fr_trans f0 q4⟩
        simp (disch := first | omega | rfl | assumption) only [c.1 9010 8 rfl, c.1 9010 1 rfl, e8, rowO_some, hmt, hbit, hb, bX1_gatherTouched_85, q_cl, q_ps, q_pn, bI_t, bI_f, gI_same, gI_ne, gR_pI, gJ_pI, gV_pI, gN_pI, gC_pI, gS_pI, gI_pJ, gR_pJ, gV_pJ, gN_pJ, gJ_same, gJ_ne, gI_pR, gJ_pR, gV_pR, gN_pR, gR_same, gR_ne, zin_t, zin_f, x_ltt, x_ltf, x_let, x_lef, x_eqt, x_eqf, n_0, n_1, n_2, n_3, n_4, n_5, n_6, n_7, n_8, n_9, n_10, n_11, n_12, n_16, n_19, n_20, n_24, n_25, n_32, n_40, n_48, n_50, n_60, n_64, n_80, n_96, n_114, n_684, n_1000, n_9330, n_16806, n_1000000, n_5764800, ↓n_m, m_ltI, m_leI, m_lt', m_le', m_eq, m_eq', m_add, m_sub, mm_lt, mm_le, mm_eq, q_sub, nI_add, q_mul, nI_clamp, bz_0, bz_1, q_bzb, b_0, b_1, b_ft, b_tf, ne_eq, not_true_eq_false, not_false_eq_true, decide_true, decide_false, Bool.and_self, Bool.false_and, Bool.and_false, Bool.and_true, Bool.true_and, Bool.not_true, Bool.not_false, ↓reduceIte]
        exact q1
      | true =>
        obtain ⟨h', O', q1, q2, q3, q4⟩ := nx (O ||| 2 ^ m) (tbs_congr (tbs_set hO hm) (fun k hk => by
          by_cases e : m = k
          · subst e; rw [exB_succ, hb, ho]; simp
          · have e' : ¬ k = m := fun z => e z.symm
            rw [decide_eq_false e, decide_eq_false e']; simp))
        rw [ho] at e8 q1 f0 q4
        refine ⟨h', O', ?_, q2, q3, fr_trans f0 q4⟩
        simp (disch := first | omega | rfl | assumption) only [c.1 9010 8 rfl, c.1 9010 1 rfl, e8, rowO_some, hmt, hbit, hb, hsh, q_or, bX1_gatherTouched_85, q_cl, q_ps, q_pn, bI_t, bI_f, gI_same, gI_ne, gR_pI, gJ_pI, gV_pI, gN_pI, gC_pI, gS_pI, gI_pJ, gR_pJ, gV_pJ, gN_pJ, gJ_same, gJ_ne, gI_pR, gJ_pR, gV_pR, gN_pR, gR_same, gR_ne, zin_t, zin_f, x_ltt, x_ltf, x_let, x_lef, x_eqt, x_eqf, n_0, n_1, n_2, n_3, n_4, n_5, n_6, n_7, n_8, n_9, n_10, n_11, n_12, n_16, n_19, n_20, n_24, n_25, n_32, n_40, n_48, n_50, n_60, n_64, n_80, n_96, n_114, n_684, n_1000, n_9330, n_16806, n_1000000, n_5764800, ↓n_m, m_ltI, m_leI, m_lt', m_le', m_eq, m_eq', m_add, m_sub, mm_lt, mm_le, mm_eq, q_sub, nI_add, q_mul, nI_clamp, bz_0, bz_1, q_bzb, b_0, b_1, b_ft, b_tf, ne_eq, not_true_eq_false, not_false_eq_true, decide_true, decide_false, Bool.and_self, Bool.false_and, Bool.and_false, Bool.and_true, Bool.true_and, Bool.not_true, Bool.not_false, ↓reduceIte]
        exact q1
theorem c_gt_out (d : Nat) {nT nM nF T : Nat} {fm ft fy : Nat → Nat} {fw : Nat → Option (List Nat)} (hT : nT ≤ 8) {y : Nat} (hy : y < 1000) (hT8 : T < 2 ^ 8) : ∀ (r m O : Nat) (u6 : z_V) (h : z_H), m + r = nM → cOK h → iFnG h nT nM nF fm ft fy fw → tbs O nM (fun k => decide (k < m) && exB (fun t => !decide (knF fm ft fy fw k t y nF = none) && T.testBit t) 8) → (∀ k, k < m → ∀ t, t < 8 → gI h 80171 0 (8 * k + t) = rowO (knF fm ft fy fw k t y nF)) →
    ∃ h' O', EX (d + 2) 30 6 [z_R 9010 0, z_R 6020 0, z_I (nI y), z_I (nI T), z_I (nI O), z_I (nI m), u6] [] h = some (some (z_I (nI O')), h') ∧ tbs O' nM (fun k => exB (fun t => !decide (knF fm ft fy fw k t y nF = none) && T.testBit t) 8) ∧ (∀ k, k < nM → ∀ t, t < 8 → gI h' 80171 0 (8 * k + t) = rowO (knF fm ft fy fw k t y nF)) ∧ fr pAw h h' := by
  intro r
  induction r with
  | zero =>
    intro m O u6 h hm c hF hO hk
    have : m = nM := by omega
    subst this
    have l1 := hF.1
    refine ⟨h, O, ?_, tbs_congr hO (fun k hk => by rw [decide_eq_true hk, Bool.true_and]), hk, fr_rfl _ _⟩
    rw [bX1_gatherTouched_6]
    simp (disch := first | omega | rfl | assumption) only [hF.2.2.1, bX1_gatherTouched_97, q_cl, q_ps, q_pn, bI_t, bI_f, gI_same, gI_ne, gR_pI, gJ_pI, gV_pI, gN_pI, gC_pI, gS_pI, gI_pJ, gR_pJ, gV_pJ, gN_pJ, gJ_same, gJ_ne, gI_pR, gJ_pR, gV_pR, gN_pR, gR_same, gR_ne, zin_t, zin_f, x_ltt, x_ltf, x_let, x_lef, x_eqt, x_eqf, n_0, n_1, n_2, n_3, n_4, n_5, n_6, n_7, n_8, n_9, n_10, n_11, n_12, n_16, n_19, n_20, n_24, n_25, n_32, n_40, n_48, n_50, n_60, n_64, n_80, n_96, n_114, n_684, n_1000, n_9330, n_16806, n_1000000, n_5764800, ↓n_m, m_ltI, m_leI, m_lt', m_le', m_eq, m_eq', m_add, m_sub, mm_lt, mm_le, mm_eq, q_sub, nI_add, q_mul, nI_clamp, bz_0, bz_1, q_bzb, b_0, b_1, b_ft, b_tf, ne_eq, not_true_eq_false, not_false_eq_true, decide_true, decide_false, Bool.and_self, Bool.false_and, Bool.and_false, Bool.and_true, Bool.true_and, Bool.not_true, Bool.not_false, ↓reduceIte]
  | succ r ih =>
    intro m O u6 h hm c hF hO hk
    have l1 := hF.1
    have hmn : m < nM := by omega
    obtain ⟨h1, e1, e2, e3⟩ := c_gather d hT (show m < 10 by omega) hy c hF
    have f1 : fr pAw h h1 := fr_mono e3 (fun p i k z => Or.inr z)
    have c1 := fr_cOK e3 c
    have k1 : ∀ k, gI h1 80171 0 k = gI h 80171 0 k := fun k => e3.2 _ _ _ (fun z => absurd (show (80171 : Nat) = 8121 from z) (by decide))
    have hok : ∀ t, t < 8 → okO (knF fm ft fy fw m t y nF) := fun t _ => knF_ok nF (fun k hk => (hF.2.2.2.2.2.2.1 k hk).2.2.2.1)
    obtain ⟨h2, O2, q1, q2, q3, q4⟩ := c_gt_in (d + 2) (W := fun t => knF fm ft fy fw m t y nF) l1 hmn hT8 hok (nI y) (fun k => decide (k < m) && exB (fun t => !decide (knF fm ft fy fw k t y nF = none) && T.testBit t) 8) (by simp) 8 0 O h1 (by omega) c1 e2 (fun u hu => by omega) (tbs_congr hO (fun k hk => by rw [show exB (fun t => !decide (knF fm ft fy fw m t y nF = none) && T.testBit t) 0 = false from rfl]; simp))
    have f2 : fr pAw h1 h2 := fr_mono q4 (fun p i k z => Or.inl z.1)
    have F := fr_trans f1 f2
    obtain ⟨h', O', r1, r2, r3, r4⟩ := ih (m + 1) O2 (z_I (nI 8)) h2 (by omega) (fr_cOK F c) (iFnG_fr (frX_fr F pAw_g) (by decide) hF) (tbs_congr q2 (fun k hk => by
      by_cases e : k = m
      · subst e; simp
      · rw [decide_eq_false e]
        simp only [Bool.false_and, Bool.or_false]
        congr 1
        exact decide_eq_decide.mpr (by omega))) (fun k hk' t ht => by
      by_cases e : k = m
      · subst e; exact q3 t ht
      · rw [q4.2 _ _ _ (fun z => by have := z.2; omega), k1]
        exact hk k (by omega) t ht)
    refine ⟨h', O', ?_, r2, r3, fr_trans F r4⟩
    rw [bX1_gatherTouched_6]
    simp (disch := first | omega | rfl | assumption) only [hF.2.2.1, c.1 9010 1 rfl, e1, bX1_gatherTouched_26, q_cl, q_ps, q_pn, bI_t, bI_f, gI_same, gI_ne, gR_pI, gJ_pI, gV_pI, gN_pI, gC_pI, gS_pI, gI_pJ, gR_pJ, gV_pJ, gN_pJ, gJ_same, gJ_ne, gI_pR, gJ_pR, gV_pR, gN_pR, gR_same, gR_ne, zin_t, zin_f, x_ltt, x_ltf, x_let, x_lef, x_eqt, x_eqf, n_0, n_1, n_2, n_3, n_4, n_5, n_6, n_7, n_8, n_9, n_10, n_11, n_12, n_16, n_19, n_20, n_24, n_25, n_32, n_40, n_48, n_50, n_60, n_64, n_80, n_96, n_114, n_684, n_1000, n_9330, n_16806, n_1000000, n_5764800, ↓n_m, m_ltI, m_leI, m_lt', m_le', m_eq, m_eq', m_add, m_sub, mm_lt, mm_le, mm_eq, q_sub, nI_add, q_mul, nI_clamp, bz_0, bz_1, q_bzb, b_0, b_1, b_ft, b_tf, ne_eq, not_true_eq_false, not_false_eq_true, decide_true, decide_false, Bool.and_self, Bool.false_and, Bool.and_false, Bool.and_true, Bool.true_and, Bool.not_true, Bool.not_false, ↓reduceIte]
    have q1' : EX (d + 2) 30 29 [z_R 9010 0, z_R 6020 0, z_I (nI y), z_I (nI T), z_I (nI O), z_I (nI m), z_I (nI 0)] [] h1 = _ := q1
    rw [q1', bX1_gatherTouched_91]
    simp (disch := first | omega | rfl | assumption) only [q_cl, q_ps, q_pn, bI_t, bI_f, gI_same, gI_ne, gR_pI, gJ_pI, gV_pI, gN_pI, gC_pI, gS_pI, gI_pJ, gR_pJ, gV_pJ, gN_pJ, gJ_same, gJ_ne, gI_pR, gJ_pR, gV_pR, gN_pR, gR_same, gR_ne, zin_t, zin_f, x_ltt, x_ltf, x_let, x_lef, x_eqt, x_eqf, n_0, n_1, n_2, n_3, n_4, n_5, n_6, n_7, n_8, n_9, n_10, n_11, n_12, n_16, n_19, n_20, n_24, n_25, n_32, n_40, n_48, n_50, n_60, n_64, n_80, n_96, n_114, n_684, n_1000, n_9330, n_16806, n_1000000, n_5764800, ↓n_m, m_ltI, m_leI, m_lt', m_le', m_eq, m_eq', m_add, m_sub, mm_lt, mm_le, mm_eq, q_sub, nI_add, q_mul, nI_clamp, bz_0, bz_1, q_bzb, b_0, b_1, b_ft, b_tf, ne_eq, not_true_eq_false, not_false_eq_true, decide_true, decide_false, Bool.and_self, Bool.false_and, Bool.and_false, Bool.and_true, Bool.true_and, Bool.not_true, Bool.not_false, ↓reduceIte]
    exact r1
