/-! ===== own laws and forms, in both ===== -/
/-- laws and tongues are well formed -/
def okG (G : Gh) : Prop := gvV G < 64 ∧ gnL G ≤ 24 ∧ (∀ j, j < gnL G → nmL (gLF G j)) ∧ gnT G ≤ 8 ∧ okCh G ∧ ∀ t, t < gnT G → (gow G t).length ≤ 6 ∧ (∀ x ∈ gow G t, x < gnL G) ∧ okS (gsg G t)
/-- what the reference has of laws and tongues -/
def mT (h : z_H) (G : Gh) (mu : Nat) : Prop := okG G ∧ mOK h ∧ gI h 49100 0 0 = nI (gvV G) ∧ gI h 49100 0 1 = nI (gnL G) ∧ (∀ j, j < gnL G → mLs h j (gLF G j)) ∧ gI h 49100 0 9 = nI (gnT G) ∧ (∀ t, t < gnT G → gI h 8491 0 t = mkI (gab G t) ∧ gI h 8501 0 t = nI (gow G t).length ∧ (∀ i x, (gow G t)[i]? = some x → gI h 48511 0 (6 * t + i) = nI x) ∧ mSg h t (gsg G t)) ∧ gI h 49100 0 40 = mkI mu
/-- what the class has of them -/
def cT (h : z_H) (G : Gh) : Prop := okG G ∧ cOK h ∧ gI h 10090 0 8 = nI (gvV G) ∧ gI h 10090 0 7 = nI (gnL G) ∧ (∀ j, j < gnL G → gR h 24415 0 j = j + 1 ∧ gI h 3040 j 0 = nI j ∧ gR h 3040 j 2 = j + 1 ∧ cC h j (gvV G) (gLF G j)) ∧ gI h 9010 0 2 = nI (gnT G) ∧ ∀ t, t < gnT G → gR h 8115 0 t = t + 1 ∧ gI h 7080 t 0 = mkI (gab G t) ∧ gI h 7080 t 1 = nI (gch G t) ∧ gR h 7080 t 2 = t + 1 ∧ gR h 7080 t 3 = t + 1 ∧ gI h 7080 t 4 = nI (gow G t).length ∧ (∀ i x, (gow G t)[i]? = some x → gR h 6385 t i = x + 1) ∧ (∀ s, s < 6 → gI h 6391 t s = mkI (gsg G t s))
theorem okG_of {h : z_H} {N : Nat} {xs : Nat → Int32} {G : Gh} {e : Int32} (hG : InvG h N xs G e) : okG G := by
  obtain ⟨v1, v2, v3⟩ := I_V hG
  obtain ⟨w1, w2, w3, w4, -⟩ := I_L hG
  obtain ⟨a1, a2, a3, a4, a5, -⟩ := I_T hG
  refine ⟨v3, w3, fun j hj => (w4 j hj).1, a3, a5, fun t ht => ?_⟩
  obtain ⟨b1, b2, b3, b4, b5, b6, b7, b8, b9, -⟩ := a4 t ht
  refine ⟨b7, fun x hx => ?_, b9⟩
  obtain ⟨i, hi⟩ := List.getElem?_of_mem hx
  exact (b8 i x hi).1
theorem mT_of {h : z_H} {N : Nat} {xs : Nat → Int32} {G : Gh} {e : Int32} (hG : InvG h N xs G e) : mT h G 0 := by
  obtain ⟨v1, v2, v3⟩ := I_V hG
  obtain ⟨w1, w2, w3, w4, -⟩ := I_L hG
  obtain ⟨a1, a2, a3, a4, a5, -⟩ := I_T hG
  refine ⟨okG_of hG, I_m hG, v2, w2, fun j hj => (w4 j hj).2.2.2.2.2.2.2.2, a2, fun t ht => ?_, I_off hG⟩
  obtain ⟨b1, b2, b3, b4, b5, b6, b7, b8, b9, d1, d2, d3, d4⟩ := a4 t ht
  exact ⟨d2, d3, fun i x hx => (b8 i x hx).2.2, d4⟩
theorem cT_of {h : z_H} {N : Nat} {xs : Nat → Int32} {G : Gh} {e : Int32} (hG : InvG h N xs G e) : cT h G := by
  obtain ⟨v1, v2, v3⟩ := I_V hG
  obtain ⟨w1, w2, w3, w4, -⟩ := I_L hG
  obtain ⟨a1, a2, a3, a4, a5, -⟩ := I_T hG
  refine ⟨okG_of hG, I_c hG, v1, w1, fun j hj => ?_, a1, fun t ht => ?_⟩
  · obtain ⟨q1, q2, q3, q4, q5, q6, q7, q8, q9⟩ := w4 j hj
    exact ⟨q2, q3, q5, q8⟩
  · obtain ⟨b1, b2, b3, b4, b5, b6, b7, b8, b9, d1, d2, d3, d4⟩ := a4 t ht
    exact ⟨b1, b2, b3, b4, b5, b6, fun i x hx => (b8 i x hx).2.1, d1⟩
theorem mLs_frX {S : List Nat} (h2 : 2 ∉ S) {h h' : z_H} (f : frX S h h') {j : Nat} (hj : j < 24) {L : Lw} (m : mLs h j L) : mLs h' j L := by
  obtain ⟨e1, e2, e3, e4, e5, e6, e7, e8⟩ := m
  have g1 := g_25 (k := j) hj
  have g2 := g_50 (k := 2 * j) (by omega)
  have g3 := g_50 (k := 2 * j + 1) (by omega)
  have f1 := f.1
  exact ⟨(f1 _ _ _ (by rw [g1.1]; exact h2)).trans e1, (f1 _ _ _ (by rw [g1.2]; exact h2)).trans e2, (f1 _ _ _ (by rw [g2.1]; exact h2)).trans e3, (f1 _ _ _ (by rw [g3.1]; exact h2)).trans e4, (f1 _ _ _ (by rw [g2.2.1]; exact h2)).trans e5, (f1 _ _ _ (by rw [g2.2.2]; exact h2)).trans e6, (f1 _ _ _ (by rw [g3.2.1]; exact h2)).trans e7, (f1 _ _ _ (by rw [g3.2.2]; exact h2)).trans e8⟩
theorem mT_fr {S : List Nat} {h h' : z_H} (f : frX S h h') (n1 : 1 ∉ S) (n2 : 2 ∉ S) (n3 : 3 ∉ S) (n14 : 14 ∉ S) (n15 : 15 ∉ S) {G : Gh} {mu : Nat} (m : mT h G mu) : mT h' G mu := by
  obtain ⟨a1, a2, a3, a4, a5, a6, a7, a8⟩ := m
  refine ⟨a1, frX_mOK n14 f a2, (f.1 _ _ _ (by exact n1)).trans a3, (f.1 _ _ _ (by exact n2)).trans a4, fun j hj => mLs_frX n2 f (by have := a1.2.1; omega) (a5 j hj), (f.1 _ _ _ (by exact n3)).trans a6, fun t ht => ?_, (f.1 _ _ _ (by exact n15)).trans a8⟩
  obtain ⟨b1, b2, b3, b4⟩ := a7 t ht
  exact ⟨(f.1 _ _ _ (by exact n3)).trans b1, (f.1 _ _ _ (by exact n3)).trans b2, fun i x hx => (f.1 _ _ _ (by exact n3)).trans (b3 i x hx), fun s hs => (f.1 _ _ _ (by exact n3)).trans (b4 s hs)⟩
theorem mT_tW {h h' : z_H} (f : fr tW h h') {G : Gh} {mu : Nat} (m : mT h G mu) : mT h' G mu := mT_fr (frX_fr f tW_g) (by decide) (by decide) (by decide) (by decide) (by decide) m
theorem cT_fr {S : List Nat} {h h' : z_H} (f : frX S h h') (n1 : 1 ∉ S) (n2 : 2 ∉ S) (n3 : 3 ∉ S) (n14 : 14 ∉ S) {G : Gh} (m : cT h G) : cT h' G := by
  obtain ⟨a1, a2, a3, a4, a5, a6, a7⟩ := m
  refine ⟨a1, frX_cOK n14 f a2, (f.1 _ _ _ (by exact n1)).trans a3, (f.1 _ _ _ (by exact n2)).trans a4, fun j hj => ?_, (f.1 _ _ _ (by exact n3)).trans a6, fun t ht => ?_⟩
  · obtain ⟨b1, b2, b3, d0, d1, d2, d3, d4, d5⟩ := a5 j hj
    have g6 : ∀ k, grp 6000 j k ∉ S := fun k => by rw [g_6000 (by have := a1.2.1; omega)]; exact n2
    exact ⟨(f.2.1 _ _ _ (by exact n2)).trans b1, (f.1 _ _ _ (by exact n2)).trans b2, (f.2.1 _ _ _ (by exact n2)).trans b3, (f.1 _ _ _ (g6 _)).trans d0, (f.1 _ _ _ (g6 _)).trans d1, (f.1 _ _ _ (g6 _)).trans d2, (f.1 _ _ _ (g6 _)).trans d3, (f.1 _ _ _ (g6 _)).trans d4, (f.1 _ _ _ (g6 _)).trans d5⟩
  · obtain ⟨b1, b2, b3, b4, b5, b6, b7, b8⟩ := a7 t ht
    exact ⟨(f.2.1 _ _ _ (by exact n3)).trans b1, (f.1 _ _ _ (by exact n3)).trans b2, (f.1 _ _ _ (by exact n3)).trans b3, (f.2.1 _ _ _ (by exact n3)).trans b4, (f.2.1 _ _ _ (by exact n3)).trans b5, (f.1 _ _ _ (by exact n3)).trans b6, fun i x hx => (f.2.1 _ _ _ (by exact n3)).trans (b7 i x hx), fun s hs => (f.1 _ _ _ (by exact n3)).trans (b8 s hs)⟩
theorem mk_off {x mu : Nat} (hx : x < 2 ^ 30) (hmu : mu < 2 ^ 30) : (nI x = mkI mu) = (x + 1 = mu) := by
  have e : nI x = mkI (x + 1) := by rw [mkI_pos (by omega)]; rfl
  rw [e, mk_eq]
  exact propext (nI_eq (by omega) (by omega))
theorem ownR_ok {V : Nat} {LF : Nat → Lw} {mu nL : Nat} (hL : ∀ j, j < nL → nmL (LF j)) : ∀ (ls : List Nat) (w : List Nat), (∀ x ∈ ls, x < nL) → isW w → isW (ownR V LF mu ls w) := by
  intro ls
  induction ls with
  | nil => intro w _ hw; exact hw
  | cons x r ih =>
    intro w hx hw
    show isW (ownR V LF mu r (if x + 1 = mu then w else runW V (LF x) w))
    refine ih _ (fun y hy => hx y (List.mem_cons_of_mem _ hy)) ?_
    split
    · exact hw
    · exact runW_ok (hL x (hx x List.mem_cons_self)).1 hw
theorem frm_ok {G : Gh} (hG : okG G) (mu : Nat) : ∀ t w, t < gnT G → isW w → isW (frm G mu t w) := by
  obtain ⟨h1, h2, h3, h4, h5, h6⟩ := hG
  intro t
  induction t using Nat.strongRecOn with
  | ind t ih =>
    intro w ht hw
    rw [frm_eq G mu (fun t => (h5 t).1)]
    refine ownR_ok h3 _ _ (h6 t ht).2.1 ?_
    have := (h5 t).1
    split
    · exact hw
    · exact ih _ (by omega) w (by omega) hw
theorem wrt_ok {G : Gh} (hG : okG G) (mu : Nat) {t : Nat} {w : List Nat} (ht : t < gnT G) (hw : isW w) : isW (wrt G mu t w) := signW_ok (hG.2.2.2.2.2 t ht).2.2 (frm_ok hG mu t w ht hw)
/-! the reference -/
theorem m_runOwn_loop (d : Nat) {G : Gh} {mu t : Nat} (ht : t < gnT G) (hmu : mu < 2 ^ 30) (x2 : Int32) : ∀ (r k : Nat) (w : List Nat) (h : z_H) (u : z_V), mT h G mu → k + r = (gow G t).length → isW w → mW h w →
    ∃ h', EX (d + 6) 177 2 [z_R 49100 0, z_I (nI t), z_I x2, z_I (nI k), u] [] h = some (none, h') ∧ mW h' (ownR (gvV G) (gLF G) mu ((gow G t).drop k) w) ∧ fr tW h h' := by
  intro r
  induction r with
  | zero =>
    intro k w h u m hk hw hW
    obtain ⟨⟨v3, w3, w4, a3, a5, o6⟩, mm, v2, w2, w5, a2, t6, off⟩ := m
    obtain ⟨d2, d3, o3, d4⟩ := t6 t ht
    have o7 := (o6 t ht).1
    refine ⟨h, ?_, ?_, fr_rfl _ _⟩
    · rw [bX11_runOwn_2]
      simp (disch := first | omega | rfl | assumption) only [mm 11 rfl, d3, bX11_runOwn_46, q_cl, q_ps, q_pn, bI_t, bI_f, gI_same, gI_ne, gR_pI, gJ_pI, gV_pI, gN_pI, gC_pI, gS_pI, gI_pJ, gR_pJ, gV_pJ, gN_pJ, gJ_same, gJ_ne, gI_pR, gJ_pR, gV_pR, gN_pR, gR_same, gR_ne, zin_t, zin_f, x_ltt, x_ltf, x_let, x_lef, x_eqt, x_eqf, n_0, n_1, n_2, n_3, n_4, n_5, n_6, n_7, n_8, n_9, n_10, n_11, n_12, n_16, n_19, n_20, n_24, n_25, n_32, n_40, n_48, n_50, n_60, n_64, n_80, n_96, n_114, n_684, n_1000, n_9330, n_16806, n_1000000, n_5764800, ↓n_m, m_ltI, m_leI, m_lt', m_le', m_eq, m_eq', m_add, m_sub, mm_lt, mm_le, mm_eq, q_sub, nI_add, q_mul, nI_clamp, bz_0, bz_1, q_bzb, b_0, b_1, b_ft, b_tf, ne_eq, not_true_eq_false, not_false_eq_true, decide_true, decide_false, Bool.and_self, Bool.false_and, Bool.and_false, Bool.and_true, Bool.true_and, Bool.not_true, Bool.not_false, ↓reduceIte]
    · rw [List.drop_eq_nil_of_le (by omega)]
      exact hW
  | succ r ih =>
    intro k w h u m hk hw hW
    have m' := m
    obtain ⟨⟨v3, w3, w4, a3, a5, o6⟩, mm, v2, w2, w5, a2, t6, off⟩ := m
    obtain ⟨d2, d3, o3, d4⟩ := t6 t ht
    obtain ⟨o7, o8, o9⟩ := o6 t ht
    have hkl : k < (gow G t).length := by omega
    have hx : (gow G t)[k]? = some ((gow G t)[k]) := List.getElem?_eq_getElem hkl
    have ho := o3 k _ hx
    have hxl := o8 _ (List.mem_of_getElem? hx)
    rw [List.drop_eq_getElem_cons hkl]
    generalize (gow G t)[k] = x at hx ho hxl
    have e0 : ∀ w, ownR (gvV G) (gLF G) mu (x :: (gow G t).drop (k + 1)) w = ownR (gvV G) (gLF G) mu ((gow G t).drop (k + 1)) (if x + 1 = mu then w else runW (gvV G) (gLF G x) w) := fun w => rfl
    rw [e0]
    by_cases hmx : x + 1 = mu
    · rw [if_pos hmx]
      obtain ⟨h', q1, q2, q3⟩ := ih (k + 1) w h (z_I (nI x)) m' (by omega) hw hW
      refine ⟨h', ?_, q2, q3⟩
      rw [bX11_runOwn_2]
      simp (disch := first | omega | rfl | assumption) only [mm 11 rfl, mm 12 rfl, d3, ho, off, mk_off (show x < 2 ^ 30 by omega) hmu, hmx, bX11_runOwn_40, q_cl, q_ps, q_pn, bI_t, bI_f, gI_same, gI_ne, gR_pI, gJ_pI, gV_pI, gN_pI, gC_pI, gS_pI, gI_pJ, gR_pJ, gV_pJ, gN_pJ, gJ_same, gJ_ne, gI_pR, gJ_pR, gV_pR, gN_pR, gR_same, gR_ne, zin_t, zin_f, x_ltt, x_ltf, x_let, x_lef, x_eqt, x_eqf, n_0, n_1, n_2, n_3, n_4, n_5, n_6, n_7, n_8, n_9, n_10, n_11, n_12, n_16, n_19, n_20, n_24, n_25, n_32, n_40, n_48, n_50, n_60, n_64, n_80, n_96, n_114, n_684, n_1000, n_9330, n_16806, n_1000000, n_5764800, ↓n_m, m_ltI, m_leI, m_lt', m_le', m_eq, m_eq', m_add, m_sub, mm_lt, mm_le, mm_eq, q_sub, nI_add, q_mul, nI_clamp, bz_0, bz_1, q_bzb, b_0, b_1, b_ft, b_tf, ne_eq, not_true_eq_false, not_false_eq_true, decide_true, decide_false, Bool.and_self, Bool.false_and, Bool.and_false, Bool.and_true, Bool.true_and, Bool.not_true, Bool.not_false, ↓reduceIte]
      exact q1
    · rw [if_neg hmx]
      obtain ⟨h1, p1, p2, p3⟩ := m_runLaw d mm v2 v3 hw hW (j := x) (by omega) (w4 x hxl).1 (mLs_mL (w5 x hxl))
      obtain ⟨h', q1, q2, q3⟩ := ih (k + 1) _ h1 (z_I (nI x)) (mT_tW p3 m') (by omega) (runW_ok (w4 x hxl).1 hw) p2
      refine ⟨h', ?_, q2, fr_trans p3 q3⟩
      rw [bX11_runOwn_2]
      simp (disch := first | omega | rfl | assumption) only [mm 11 rfl, mm 12 rfl, d3, ho, off, mk_off (show x < 2 ^ 30 by omega) hmu, hmx, p1, bX11_runOwn_40, q_cl, q_ps, q_pn, bI_t, bI_f, gI_same, gI_ne, gR_pI, gJ_pI, gV_pI, gN_pI, gC_pI, gS_pI, gI_pJ, gR_pJ, gV_pJ, gN_pJ, gJ_same, gJ_ne, gI_pR, gJ_pR, gV_pR, gN_pR, gR_same, gR_ne, zin_t, zin_f, x_ltt, x_ltf, x_let, x_lef, x_eqt, x_eqf, n_0, n_1, n_2, n_3, n_4, n_5, n_6, n_7, n_8, n_9, n_10, n_11, n_12, n_16, n_19, n_20, n_24, n_25, n_32, n_40, n_48, n_50, n_60, n_64, n_80, n_96, n_114, n_684, n_1000, n_9330, n_16806, n_1000000, n_5764800, ↓n_m, m_ltI, m_leI, m_lt', m_le', m_eq, m_eq', m_add, m_sub, mm_lt, mm_le, mm_eq, q_sub, nI_add, q_mul, nI_clamp, bz_0, bz_1, q_bzb, b_0, b_1, b_ft, b_tf, ne_eq, not_true_eq_false, not_false_eq_true, decide_true, decide_false, Bool.and_self, Bool.false_and, Bool.and_false, Bool.and_true, Bool.true_and, Bool.not_true, Bool.not_false, ↓reduceIte]
      exact q1
theorem m_runOwn (d : Nat) {G : Gh} {mu t : Nat} (ht : t < gnT G) (hmu : mu < 2 ^ 30) {k : Nat} (hk : k ≤ (gow G t).length) {w : List Nat} {h : z_H} (m : mT h G mu) (hw : isW w) (hW : mW h w) :
    ∃ h', Rn (d + 7) 177 [z_R 49100 0, z_I (nI t), z_I (nI k)] h = some (none, h') ∧ mW h' (ownR (gvV G) (gLF G) mu ((gow G t).drop k) w) ∧ fr tW h h' := by
  obtain ⟨h', q1, q2, q3⟩ := m_runOwn_loop d ht hmu (nI k) ((gow G t).length - k) k w h z_U m (by omega) hw hW
  refine ⟨h', ?_, q2, q3⟩
  rw [rX11_runOwn, bX11_runOwn_0]
  exact q1
/-- the form of a word in the tongue a - 1, or itself -/
def fa (G : Gh) (mu a : Nat) (w : List Nat) : List Nat := if a = 0 then w else frm G mu (a - 1) w
theorem fa_ok {G : Gh} (hG : okG G) (mu : Nat) {a : Nat} {w : List Nat} (ha : a ≤ gnT G) (hw : isW w) : isW (fa G mu a w) := by
  unfold fa
  split
  · exact hw
  · exact frm_ok hG mu _ _ (by omega) hw
theorem m_goesTo {G : Gh} {mu : Nat} (hmu : mu < 2 ^ 30) : ∀ (a D : Nat) (w : List Nat) (h : z_H), a ≤ gnT G → a + 8 ≤ D → mT h G mu → isW w → mW h w →
    ∃ h', Rn D 178 [z_R 49100 0, z_I (mkI a)] h = some (none, h') ∧ mW h' (fa G mu a w) ∧ fr tW h h' := by
  intro a
  induction a using Nat.strongRecOn with
  | ind a ih =>
    intro D w h ha hD m hw hW
    obtain ⟨D', rfl⟩ : ∃ D', D = D' + 7 + 1 := ⟨D - 8, by omega⟩
    by_cases a0 : a = 0
    · subst a0
      refine ⟨h, ?_, hW, fr_rfl _ _⟩
      rw [rX11_goesTo, bX11_goesTo_0]
      simp (disch := first | omega | rfl | assumption) only [mk_0, bX11_goesTo_20, show (mI < nI 0) = True from eq_true (by decide), q_cl, q_ps, q_pn, bI_t, bI_f, gI_same, gI_ne, gR_pI, gJ_pI, gV_pI, gN_pI, gC_pI, gS_pI, gI_pJ, gR_pJ, gV_pJ, gN_pJ, gJ_same, gJ_ne, gI_pR, gJ_pR, gV_pR, gN_pR, gR_same, gR_ne, zin_t, zin_f, x_ltt, x_ltf, x_let, x_lef, x_eqt, x_eqf, n_0, n_1, n_2, n_3, n_4, n_5, n_6, n_7, n_8, n_9, n_10, n_11, n_12, n_16, n_19, n_20, n_24, n_25, n_32, n_40, n_48, n_50, n_60, n_64, n_80, n_96, n_114, n_684, n_1000, n_9330, n_16806, n_1000000, n_5764800, ↓n_m, m_ltI, m_leI, m_lt', m_le', m_eq, m_eq', m_add, m_sub, mm_lt, mm_le, mm_eq, q_sub, nI_add, q_mul, nI_clamp, bz_0, bz_1, q_bzb, b_0, b_1, b_ft, b_tf, ne_eq, not_true_eq_false, not_false_eq_true, decide_true, decide_false, Bool.and_self, Bool.false_and, Bool.and_false, Bool.and_true, Bool.true_and, Bool.not_true, Bool.not_false, ↓reduceIte]
    · have m' := m
      obtain ⟨⟨v3, w3, w4, a3, a5, o6⟩, mm, v2, w2, w5, a2, t6, off⟩ := m
      obtain ⟨t, rfl⟩ : ∃ t, a = t + 1 := ⟨a - 1, by omega⟩
      have ht : t < gnT G := by omega
      obtain ⟨d2, d3, o3, d4⟩ := t6 t ht
      have hab := (a5 t).1
      obtain ⟨h1, p1, p2, p3⟩ := ih (gab G t) (by omega) (D' + 7) w h (by omega) (by omega) m' hw hW
      have m1 := mT_tW p3 m'
      obtain ⟨h2, q1, q2, q3⟩ := m_runOwn D' ht hmu (k := 0) (Nat.zero_le _) m1 (fa_ok m'.1 mu (by omega) hw) p2
      refine ⟨h2, ?_, ?_, fr_trans p3 q3⟩
      · rw [rX11_goesTo, bX11_goesTo_0, show mkI (t + 1) = nI t from mkI_pos (by omega)]
        simp (disch := first | omega | rfl | assumption) only [mm 10 rfl, d2, p1, bX11_goesTo_14, q1, bX11_goesTo_20, q_cl, q_ps, q_pn, bI_t, bI_f, gI_same, gI_ne, gR_pI, gJ_pI, gV_pI, gN_pI, gC_pI, gS_pI, gI_pJ, gR_pJ, gV_pJ, gN_pJ, gJ_same, gJ_ne, gI_pR, gJ_pR, gV_pR, gN_pR, gR_same, gR_ne, zin_t, zin_f, x_ltt, x_ltf, x_let, x_lef, x_eqt, x_eqf, n_0, n_1, n_2, n_3, n_4, n_5, n_6, n_7, n_8, n_9, n_10, n_11, n_12, n_16, n_19, n_20, n_24, n_25, n_32, n_40, n_48, n_50, n_60, n_64, n_80, n_96, n_114, n_684, n_1000, n_9330, n_16806, n_1000000, n_5764800, ↓n_m, m_ltI, m_leI, m_lt', m_le', m_eq, m_eq', m_add, m_sub, mm_lt, mm_le, mm_eq, q_sub, nI_add, q_mul, nI_clamp, bz_0, bz_1, q_bzb, b_0, b_1, b_ft, b_tf, ne_eq, not_true_eq_false, not_false_eq_true, decide_true, decide_false, Bool.and_self, Bool.false_and, Bool.and_false, Bool.and_true, Bool.true_and, Bool.not_true, Bool.not_false, ↓reduceIte]
      · have : fa G mu (t + 1) w = frm G mu t w := by unfold fa; rw [if_neg (by omega)]; rfl
        rw [this, frm_eq G mu (fun t => (a5 t).1)]
        exact q2
theorem m_formOf {G : Gh} {mu : Nat} (hmu : mu < 2 ^ 30) {a D : Nat} {w : List Nat} {h : z_H} (ha : a ≤ gnT G) (hD : a + 9 ≤ D) (m : mT h G mu) (hw : isW w) :
    ∃ h', Rn D 179 [z_R 49100 0, z_I (mkI a), z_I (nI (wN w))] h = some (some (z_I (nI (wN (fa G mu a w)))), h') ∧ fr tW h h' := by
  obtain ⟨D', rfl⟩ : ∃ D', D = D' + 1 + 1 := ⟨D - 2, by omega⟩
  obtain ⟨h1, e1, e2, e3⟩ := m_load D' m.2.1 hw
  obtain ⟨h2, f1, f2, f3⟩ := m_goesTo hmu a (D' + 1) w h1 ha (by omega) (mT_tW e3 m) hw e2
  have e7 := m_number D' (fr_mOK (fr_trans e3 f3) m.2.1) (fa_ok m.1 mu ha hw) f2
  refine ⟨h2, ?_, fr_trans e3 f3⟩
  simp (disch := first | omega | rfl | assumption) only [bX11_formOf_0, bX11_formOf_5, bX11_formOf_10, bX11_formOf_14, rX11_formOf, e1, f1, e7, q_cl, q_ps, q_pn, bI_t, bI_f, gI_same, gI_ne, gR_pI, gJ_pI, gV_pI, gN_pI, gC_pI, gS_pI, gI_pJ, gR_pJ, gV_pJ, gN_pJ, gJ_same, gJ_ne, gI_pR, gJ_pR, gV_pR, gN_pR, gR_same, gR_ne, zin_t, zin_f, x_ltt, x_ltf, x_let, x_lef, x_eqt, x_eqf, n_0, n_1, n_2, n_3, n_4, n_5, n_6, n_7, n_8, n_9, n_10, n_11, n_12, n_16, n_19, n_20, n_24, n_25, n_32, n_40, n_48, n_50, n_60, n_64, n_80, n_96, n_114, n_684, n_1000, n_9330, n_16806, n_1000000, n_5764800, ↓n_m, m_ltI, m_leI, m_lt', m_le', m_eq, m_eq', m_add, m_sub, mm_lt, mm_le, mm_eq, q_sub, nI_add, q_mul, nI_clamp, bz_0, bz_1, q_bzb, b_0, b_1, b_ft, b_tf, ne_eq, not_true_eq_false, not_false_eq_true, decide_true, decide_false, Bool.and_self, Bool.false_and, Bool.and_false, Bool.and_true, Bool.true_and, Bool.not_true, Bool.not_false, ↓reduceIte]
theorem m_writtenOf {G : Gh} {mu : Nat} (hmu : mu < 2 ^ 30) {t D : Nat} {w : List Nat} {h : z_H} (ht : t < gnT G) (hD : t + 10 ≤ D) (m : mT h G mu) (hw : isW w) :
    ∃ h', Rn D 185 [z_R 49100 0, z_I (nI t), z_I (nI (wN w))] h = some (some (z_I (nI (wN (wrt G mu t w)))), h') ∧ fr tW h h' := by
  obtain ⟨D', rfl⟩ : ∃ D', D = D' + 1 + 1 := ⟨D - 2, by omega⟩
  obtain ⟨h1, e1, e2, e3⟩ := m_load D' m.2.1 hw
  obtain ⟨h2, f1, f2, f3⟩ := m_goesTo hmu (t + 1) (D' + 1) w h1 (by omega) (by omega) (mT_tW e3 m) hw e2
  have e0 : mkI (t + 1) = nI t := mkI_pos (by omega)
  rw [e0] at f1
  have m2 := mT_tW (fr_trans e3 f3) m
  have e7 := m_writtenIn D' m2.2.1 (m.1.2.2.2.2.2 t ht).2.2 (show t < 8 by have := m.1.2.2.2.1; omega) (m2.2.2.2.2.2.2.1 t ht).2.2.2 (fa_ok m.1 mu (show t + 1 ≤ gnT G by omega) hw) f2
  refine ⟨h2, ?_, fr_trans e3 f3⟩
  have e8 : wrt G mu t w = signW (gsg G t) (fa G mu (t + 1) w) := by
    unfold fa
    rw [if_neg (by omega)]
    rfl
  rw [e8]
  simp (disch := first | omega | rfl | assumption) only [bX11_writtenOf_0, bX11_writtenOf_5, bX11_writtenOf_10, bX11_writtenOf_15, rX11_writtenOf, e1, f1, e7, q_cl, q_ps, q_pn, bI_t, bI_f, gI_same, gI_ne, gR_pI, gJ_pI, gV_pI, gN_pI, gC_pI, gS_pI, gI_pJ, gR_pJ, gV_pJ, gN_pJ, gJ_same, gJ_ne, gI_pR, gJ_pR, gV_pR, gN_pR, gR_same, gR_ne, zin_t, zin_f, x_ltt, x_ltf, x_let, x_lef, x_eqt, x_eqf, n_0, n_1, n_2, n_3, n_4, n_5, n_6, n_7, n_8, n_9, n_10, n_11, n_12, n_16, n_19, n_20, n_24, n_25, n_32, n_40, n_48, n_50, n_60, n_64, n_80, n_96, n_114, n_684, n_1000, n_9330, n_16806, n_1000000, n_5764800, ↓n_m, m_ltI, m_leI, m_lt', m_le', m_eq, m_eq', m_add, m_sub, mm_lt, mm_le, mm_eq, q_sub, nI_add, q_mul, nI_clamp, bz_0, bz_1, q_bzb, b_0, b_1, b_ft, b_tf, ne_eq, not_true_eq_false, not_false_eq_true, decide_true, decide_false, Bool.and_self, Bool.false_and, Bool.and_false, Bool.and_true, Bool.true_and, Bool.not_true, Bool.not_false, ↓reduceIte]
/-! the class -/
theorem c_grown_loop (d : Nat) {G : Gh} {h : z_H} (m : cT h G) {mu t : Nat} (ht : t < gnT G) (hmu : mu < 2 ^ 30) (x1 x2 : Int32) : ∀ (r k : Nat) (w : List Nat), k + r = (gow G t).length → isW w →
    EX (d + 3) 77 6 [z_R 7080 t, z_I x1, z_I x2, z_I (mkI mu), z_I (nI (rowN w)), z_I (nI k)] [] h = some (some (z_I (nI (rowN (ownR (gvV G) (gLF G) mu ((gow G t).drop k) w)))), h) := by
  obtain ⟨⟨v3, w3, w4, a3, a5, o6⟩, c, v1, w1, w5, a1, t6⟩ := m
  obtain ⟨b1, b2, b3, b4, b5, b6, b7, b8⟩ := t6 t ht
  obtain ⟨o7, o8, o9⟩ := o6 t ht
  intro r
  induction r with
  | zero =>
    intro k w hk hw
    rw [bX9_grown_6]
    simp (disch := first | omega | rfl | assumption) only [b6, bX9_grown_52, q_cl, q_ps, q_pn, bI_t, bI_f, gI_same, gI_ne, gR_pI, gJ_pI, gV_pI, gN_pI, gC_pI, gS_pI, gI_pJ, gR_pJ, gV_pJ, gN_pJ, gJ_same, gJ_ne, gI_pR, gJ_pR, gV_pR, gN_pR, gR_same, gR_ne, zin_t, zin_f, x_ltt, x_ltf, x_let, x_lef, x_eqt, x_eqf, n_0, n_1, n_2, n_3, n_4, n_5, n_6, n_7, n_8, n_9, n_10, n_11, n_12, n_16, n_19, n_20, n_24, n_25, n_32, n_40, n_48, n_50, n_60, n_64, n_80, n_96, n_114, n_684, n_1000, n_9330, n_16806, n_1000000, n_5764800, ↓n_m, m_ltI, m_leI, m_lt', m_le', m_eq, m_eq', m_add, m_sub, mm_lt, mm_le, mm_eq, q_sub, nI_add, q_mul, nI_clamp, bz_0, bz_1, q_bzb, b_0, b_1, b_ft, b_tf, ne_eq, not_true_eq_false, not_false_eq_true, decide_true, decide_false, Bool.and_self, Bool.false_and, Bool.and_false, Bool.and_true, Bool.true_and, Bool.not_true, Bool.not_false, ↓reduceIte]
    rw [List.drop_eq_nil_of_le (by omega)]
    rfl
  | succ r ih =>
    intro k w hk hw
    have hkl : k < (gow G t).length := by omega
    have hx : (gow G t)[k]? = some ((gow G t)[k]) := List.getElem?_eq_getElem hkl
    have ho := b7 k _ hx
    have hxl := o8 _ (List.mem_of_getElem? hx)
    rw [List.drop_eq_getElem_cons hkl]
    generalize (gow G t)[k] = x at hx ho hxl
    have e0 : ∀ w, ownR (gvV G) (gLF G) mu (x :: (gow G t).drop (k + 1)) w = ownR (gvV G) (gLF G) mu ((gow G t).drop (k + 1)) (if x + 1 = mu then w else runW (gvV G) (gLF G x) w) := fun w => rfl
    rw [e0]
    obtain ⟨q2, q3, q5, q8⟩ := w5 x hxl
    by_cases hmx : x + 1 = mu
    · rw [if_pos hmx]
      have ih1 := ih (k + 1) w (by omega) hw
      have hoff : (nI x = mkI mu) = True := by rw [mk_off (show x < 2 ^ 30 by omega) hmu]; exact eq_true hmx
      rw [bX9_grown_6]
      simp (disch := first | omega | rfl | assumption) only [b6, b4, ho, Nat.add_one_ne_zero, Nat.add_sub_cancel, q3, hoff, bX9_grown_46, q_cl, q_ps, q_pn, bI_t, bI_f, gI_same, gI_ne, gR_pI, gJ_pI, gV_pI, gN_pI, gC_pI, gS_pI, gI_pJ, gR_pJ, gV_pJ, gN_pJ, gJ_same, gJ_ne, gI_pR, gJ_pR, gV_pR, gN_pR, gR_same, gR_ne, zin_t, zin_f, x_ltt, x_ltf, x_let, x_lef, x_eqt, x_eqf, n_0, n_1, n_2, n_3, n_4, n_5, n_6, n_7, n_8, n_9, n_10, n_11, n_12, n_16, n_19, n_20, n_24, n_25, n_32, n_40, n_48, n_50, n_60, n_64, n_80, n_96, n_114, n_684, n_1000, n_9330, n_16806, n_1000000, n_5764800, ↓n_m, m_ltI, m_leI, m_lt', m_le', m_eq, m_eq', m_add, m_sub, mm_lt, mm_le, mm_eq, q_sub, nI_add, q_mul, nI_clamp, bz_0, bz_1, q_bzb, b_0, b_1, b_ft, b_tf, ne_eq, not_true_eq_false, not_false_eq_true, decide_true, decide_false, Bool.and_self, Bool.false_and, Bool.and_false, Bool.and_true, Bool.true_and, Bool.not_true, Bool.not_false, ↓reduceIte]
      exact ih1
    · rw [if_neg hmx]
      have ih1 := ih (k + 1) _ (by omega) (runW_ok (V := gvV G) (w4 x hxl).1 hw)
      rw [bX9_grown_6]
      simp (disch := first | omega | rfl | assumption) only [b6, b4, ho, Nat.add_one_ne_zero, Nat.add_sub_cancel, q3, q5, mk_off (show x < 2 ^ 30 by omega) hmu, hmx, c_over d v3 (w4 x hxl) q8 hw, bX9_grown_44, bX9_grown_46, q_cl, q_ps, q_pn, bI_t, bI_f, gI_same, gI_ne, gR_pI, gJ_pI, gV_pI, gN_pI, gC_pI, gS_pI, gI_pJ, gR_pJ, gV_pJ, gN_pJ, gJ_same, gJ_ne, gI_pR, gJ_pR, gV_pR, gN_pR, gR_same, gR_ne, zin_t, zin_f, x_ltt, x_ltf, x_let, x_lef, x_eqt, x_eqf, n_0, n_1, n_2, n_3, n_4, n_5, n_6, n_7, n_8, n_9, n_10, n_11, n_12, n_16, n_19, n_20, n_24, n_25, n_32, n_40, n_48, n_50, n_60, n_64, n_80, n_96, n_114, n_684, n_1000, n_9330, n_16806, n_1000000, n_5764800, ↓n_m, m_ltI, m_leI, m_lt', m_le', m_eq, m_eq', m_add, m_sub, mm_lt, mm_le, mm_eq, q_sub, nI_add, q_mul, nI_clamp, bz_0, bz_1, q_bzb, b_0, b_1, b_ft, b_tf, ne_eq, not_true_eq_false, not_false_eq_true, decide_true, decide_false, Bool.and_self, Bool.false_and, Bool.and_false, Bool.and_true, Bool.true_and, Bool.not_true, Bool.not_false, ↓reduceIte]
      exact ih1
theorem c_grown (d : Nat) {G : Gh} {h : z_H} (m : cT h G) {mu t : Nat} (ht : t < gnT G) (hmu : mu < 2 ^ 30) {k : Nat} (hk : k ≤ (gow G t).length) {w : List Nat} (hw : isW w) :
    Rn (d + 4) 77 [z_R 7080 t, z_I (nI (rowN w)), z_I (nI k), z_I (mkI mu)] h = some (some (z_I (nI (rowN (ownR (gvV G) (gLF G) mu ((gow G t).drop k) w)))), h) := by
  rw [rX9_grown, bX9_grown_0]
  exact c_grown_loop d m ht hmu _ _ ((gow G t).length - k) k w (by omega) hw
/-- along the chain -/
def rI (G : Gh) (t : Nat) : Nat → List Nat → List Nat
  | 0, w => w
  | k + 1, w => if (gch G t).testBit k = true then ownR (gvV G) (gLF G) 0 (gow G k) (rI G t k w) else rI G t k w
theorem rI_congr {G : Gh} {t u : Nat} : ∀ k w, (∀ i, i < k → (gch G t).testBit i = (gch G u).testBit i) → rI G t k w = rI G u k w := by
  intro k
  induction k with
  | zero => intro w _; rfl
  | succ k ih =>
    intro w h
    show (if (gch G t).testBit k = true then _ else _) = (if (gch G u).testBit k = true then _ else _)
    rw [h k (by omega), ih w (fun i hi => h i (by omega))]
theorem rI_skip {G : Gh} {t a : Nat} : ∀ n w, (∀ i, a ≤ i → i < a + n → (gch G t).testBit i = false) → rI G t (a + n) w = rI G t a w := by
  intro n
  induction n with
  | zero => intro w _; rfl
  | succ n ih =>
    intro w h
    show (if (gch G t).testBit (a + n) = true then _ else rI G t (a + n) w) = _
    rw [h (a + n) (by omega) (by omega), if_neg (by decide), ih w (fun i h1 h2 => h i h1 (by omega))]
theorem rI_frm {G : Gh} (hc : okCh G) : ∀ t w, rI G t (t + 1) w = frm G 0 t w := by
  intro t
  induction t using Nat.strongRecOn with
  | ind t ih =>
    intro w
    have hab := (hc t).1
    show (if (gch G t).testBit t = true then ownR (gvV G) (gLF G) 0 (gow G t) (rI G t t w) else rI G t t w) = _
    rw [if_pos (ch_self hc t), frm_eq G 0 (fun t => (hc t).1)]
    congr 1
    have e1 : rI G t (gab G t + (t - gab G t)) w = rI G t (gab G t) w := rI_skip (t - gab G t) w (fun i h1 h2 => by
      rw [ch_bit hc]
      have h3 : i ≠ t := by omega
      by_cases h0 : gab G t = 0
      · simp [h3, h0]
      · rw [ch_hi hc (by omega)]; simp [h3])
    rw [show gab G t + (t - gab G t) = t by omega] at e1
    rw [e1]
    by_cases h0 : gab G t = 0
    · rw [if_pos h0, h0]; rfl
    · rw [if_neg h0, ← ih (gab G t - 1) (by omega) w, show gab G t - 1 + 1 = gab G t by omega]
      apply rI_congr
      intro i hi
      rw [ch_bit hc t]
      have h3 : i ≠ t := by omega
      simp [h3, h0]
theorem rI_ok {G : Gh} (hG : okG G) (t : Nat) : ∀ k w, k ≤ gnT G → isW w → isW (rI G t k w) := by
  intro k
  induction k with
  | zero => intro w _ hw; exact hw
  | succ k ih =>
    intro w hk hw
    show isW (if (gch G t).testBit k = true then ownR (gvV G) (gLF G) 0 (gow G k) (rI G t k w) else rI G t k w)
    split
    · exact ownR_ok hG.2.2.1 _ _ (hG.2.2.2.2.2 k (by omega)).2.1 (ih w (by omega) hw)
    · exact ih w (by omega) hw
theorem c_rowIn_loop (d : Nat) {G : Gh} {h : z_H} (m : cT h G) {t : Nat} (ht : t < gnT G) {w : List Nat} (hw : isW w) (x2 : Int32) : ∀ (r k : Nat), k + r = t + 1 →
    EX (d + 4) 16 16 [z_R 9010 0, z_I (nI t), z_I x2, z_I (nI (gch G t)), z_I (nI (rowN (rI G t k w))), z_I (nI k)] [] h = some (some (z_I (nI (rowN (rI G t (t + 1) w)))), h) := by
  have m' := m
  have a3 := m.1.2.2.2.1
  have hcl := ch_lt m.1.2.2.2.2.1 t
  have h28 : 2 ^ (t + 1) ≤ 2 ^ 8 := Nat.pow_le_pow_right (by decide) (by omega)
  intro r
  induction r with
  | zero =>
    intro k hk
    have : k = t + 1 := by omega
    subst this
    rw [bX1_rowIn_16]
    simp (disch := first | omega | rfl | assumption) only [bX1_rowIn_53, q_cl, q_ps, q_pn, bI_t, bI_f, gI_same, gI_ne, gR_pI, gJ_pI, gV_pI, gN_pI, gC_pI, gS_pI, gI_pJ, gR_pJ, gV_pJ, gN_pJ, gJ_same, gJ_ne, gI_pR, gJ_pR, gV_pR, gN_pR, gR_same, gR_ne, zin_t, zin_f, x_ltt, x_ltf, x_let, x_lef, x_eqt, x_eqf, n_0, n_1, n_2, n_3, n_4, n_5, n_6, n_7, n_8, n_9, n_10, n_11, n_12, n_16, n_19, n_20, n_24, n_25, n_32, n_40, n_48, n_50, n_60, n_64, n_80, n_96, n_114, n_684, n_1000, n_9330, n_16806, n_1000000, n_5764800, ↓n_m, m_ltI, m_leI, m_lt', m_le', m_eq, m_eq', m_add, m_sub, mm_lt, mm_le, mm_eq, q_sub, nI_add, q_mul, nI_clamp, bz_0, bz_1, q_bzb, b_0, b_1, b_ft, b_tf, ne_eq, not_true_eq_false, not_false_eq_true, decide_true, decide_false, Bool.and_self, Bool.false_and, Bool.and_false, Bool.and_true, Bool.true_and, Bool.not_true, Bool.not_false, ↓reduceIte]
  | succ r ih =>
    intro k hk
    have ih1 := ih (k + 1) (by omega)
    have hb : z_ush (nI (gch G t)) (nI k) &&& nI 1 = bI ((gch G t).testBit k) := q_bit (by omega) (by omega)
    have e0 : rI G t (k + 1) w = if (gch G t).testBit k = true then ownR (gvV G) (gLF G) 0 (gow G k) (rI G t k w) else rI G t k w := rfl
    rw [e0] at ih1
    rw [bX1_rowIn_16]
    cases hbit : (gch G t).testBit k with
    | false =>
      rw [hbit, if_neg (by decide)] at ih1
      simp (disch := first | omega | rfl | assumption) only [hb, hbit, bX1_rowIn_47, q_cl, q_ps, q_pn, bI_t, bI_f, gI_same, gI_ne, gR_pI, gJ_pI, gV_pI, gN_pI, gC_pI, gS_pI, gI_pJ, gR_pJ, gV_pJ, gN_pJ, gJ_same, gJ_ne, gI_pR, gJ_pR, gV_pR, gN_pR, gR_same, gR_ne, zin_t, zin_f, x_ltt, x_ltf, x_let, x_lef, x_eqt, x_eqf, n_0, n_1, n_2, n_3, n_4, n_5, n_6, n_7, n_8, n_9, n_10, n_11, n_12, n_16, n_19, n_20, n_24, n_25, n_32, n_40, n_48, n_50, n_60, n_64, n_80, n_96, n_114, n_684, n_1000, n_9330, n_16806, n_1000000, n_5764800, ↓n_m, m_ltI, m_leI, m_lt', m_le', m_eq, m_eq', m_add, m_sub, mm_lt, mm_le, mm_eq, q_sub, nI_add, q_mul, nI_clamp, bz_0, bz_1, q_bzb, b_0, b_1, b_ft, b_tf, ne_eq, not_true_eq_false, not_false_eq_true, decide_true, decide_false, Bool.and_self, Bool.false_and, Bool.and_false, Bool.and_true, Bool.true_and, Bool.not_true, Bool.not_false, ↓reduceIte]
      exact ih1
    | true =>
      rw [hbit, if_pos rfl] at ih1
      have e1 := c_grown d m' (t := k) (show k < gnT G by omega) (mu := 0) (by decide) (k := 0) (Nat.zero_le _) (rI_ok m.1 t k w (by omega) hw)
      rw [List.drop_zero, mk_0] at e1
      simp (disch := first | omega | rfl | assumption) only [hb, hbit, m.2.1.1 9010 0 rfl, (m.2.2.2.2.2.2 k (show k < gnT G by omega)).1, e1, bX1_rowIn_45, bX1_rowIn_47, q_cl, q_ps, q_pn, bI_t, bI_f, gI_same, gI_ne, gR_pI, gJ_pI, gV_pI, gN_pI, gC_pI, gS_pI, gI_pJ, gR_pJ, gV_pJ, gN_pJ, gJ_same, gJ_ne, gI_pR, gJ_pR, gV_pR, gN_pR, gR_same, gR_ne, zin_t, zin_f, x_ltt, x_ltf, x_let, x_lef, x_eqt, x_eqf, n_0, n_1, n_2, n_3, n_4, n_5, n_6, n_7, n_8, n_9, n_10, n_11, n_12, n_16, n_19, n_20, n_24, n_25, n_32, n_40, n_48, n_50, n_60, n_64, n_80, n_96, n_114, n_684, n_1000, n_9330, n_16806, n_1000000, n_5764800, ↓n_m, m_ltI, m_leI, m_lt', m_le', m_eq, m_eq', m_add, m_sub, mm_lt, mm_le, mm_eq, q_sub, nI_add, q_mul, nI_clamp, bz_0, bz_1, q_bzb, b_0, b_1, b_ft, b_tf, ne_eq, not_true_eq_false, not_false_eq_true, decide_true, decide_false, Bool.and_self, Bool.false_and, Bool.and_false, Bool.and_true, Bool.true_and, Bool.not_true, Bool.not_false, ↓reduceIte]
      exact ih1
theorem c_rowIn (d : Nat) {G : Gh} {h : z_H} (m : cT h G) {t : Nat} (ht : t < gnT G) {w : List Nat} (hw : isW w) :
    Rn (d + 5) 16 [z_R 9010 0, z_I (nI t), z_I (nI (rowN w))] h = some (some (z_I (nI (rowN (frm G 0 t w)))), h) := by
  have a3 := m.1.2.2.2.1
  obtain ⟨b1, b2, b3, -⟩ := m.2.2.2.2.2.2 t ht
  have := c_rowIn_loop d m ht hw (nI (rowN w)) (t + 1) 0 (by omega)
  rw [rI_frm m.1.2.2.2.2.1] at this
  rw [rX1_rowIn, bX1_rowIn_0]
  simp (disch := first | omega | rfl | assumption) only [m.2.1.1 9010 0 rfl, b1, b3, q_cl, q_ps, q_pn, bI_t, bI_f, gI_same, gI_ne, gR_pI, gJ_pI, gV_pI, gN_pI, gC_pI, gS_pI, gI_pJ, gR_pJ, gV_pJ, gN_pJ, gJ_same, gJ_ne, gI_pR, gJ_pR, gV_pR, gN_pR, gR_same, gR_ne, zin_t, zin_f, x_ltt, x_ltf, x_let, x_lef, x_eqt, x_eqf, n_0, n_1, n_2, n_3, n_4, n_5, n_6, n_7, n_8, n_9, n_10, n_11, n_12, n_16, n_19, n_20, n_24, n_25, n_32, n_40, n_48, n_50, n_60, n_64, n_80, n_96, n_114, n_684, n_1000, n_9330, n_16806, n_1000000, n_5764800, ↓n_m, m_ltI, m_leI, m_lt', m_le', m_eq, m_eq', m_add, m_sub, mm_lt, mm_le, mm_eq, q_sub, nI_add, q_mul, nI_clamp, bz_0, bz_1, q_bzb, b_0, b_1, b_ft, b_tf, ne_eq, not_true_eq_false, not_false_eq_true, decide_true, decide_false, Bool.and_self, Bool.false_and, Bool.and_false, Bool.and_true, Bool.true_and, Bool.not_true, Bool.not_false, ↓reduceIte]
  exact this
theorem within_m (x : Int32) {n : Nat} (hn : n < 2 ^ 31) : (decide (mI ≤ x) && decide (x ≤ nI n - nI 1)) = (decide (x = mI) || z_in x n) := by
  rcases neg_or x with hx | ⟨j, hj, rfl⟩
  · rw [zin_neg hx n, Bool.or_false]
    by_cases hm : x = mI
    · subst hm
      have : mI ≤ nI n - nI 1 := by
        by_cases h0 : n = 0
        · subst h0; rw [m_sub]; decide
        · rw [q_sub (by omega), m_leI (by omega)]; trivial
      simp [this, mm_le]
    · have : ¬ mI ≤ x := fun z => hm (Int32.toInt_inj.mp (by
        rw [Int32.le_iff_toInt_le, m_toInt] at z
        rw [Int32.lt_iff_toInt_lt, nI_toInt (by decide)] at hx
        rw [m_toInt]
        omega))
      simp [this, hm]
  · have h1 : (mI ≤ nI j) = True := m_leI hj
    have h2 : (nI j = mI) = False := m_eq' hj
    have h0 : nI 0 ≤ nI j := nI_pos' hj
    have := within_zin (nI j) hn
    rw [← this]
    simp [h1, h2, h0]
theorem m_withinM (d : Nat) (x : Int32) {n : Nat} (hn : n < 2 ^ 31) (h : z_H) : Rn (d + 1) 139 [z_I x, z_I mI, z_I (nI n - nI 1)] h = some (some (z_I (bI (decide (x = mI) || z_in x n))), h) := by
  rw [m_within, within_m x hn]
theorem m_withinM' (d : Nat) (x : Int32) {n : Nat} (h1 : 1 ≤ n) (hn : n < 2 ^ 31) (h : z_H) : Rn (d + 1) 139 [z_I x, z_I mI, z_I (nI (n - 1))] h = some (some (z_I (bI (decide (x = mI) || z_in x n))), h) := by
  rw [m_within, ← q_sub h1, within_m x hn]
theorem op_form {N : Nat} {xs : Nat → Int32} (d : Nat) {h : z_H} (hI : Inv h N xs) (x1 x2 : Int32) : OKc N xs (d + 60) 94 180 [z_I x1, z_I x2] h := by
  obtain ⟨G, hG⟩ := hI
  have m := I_m hG
  have c := I_c hG
  have mt := mT_of hG
  have ct := cT_of hG
  obtain ⟨a1, a2, a3, -⟩ := I_T hG
  have nl : gnT G < 2 ^ 31 := by omega
  have gd : ∀ (h' : z_H), gI h' 49100 0 9 = nI (gnT G) → ∀ b, (decide (x1 = mI) || z_in x1 (gnT G)) = b → EX (d + 59) 180 0 [z_R 49100 0, z_I x1, z_I x2] [] h' = EX (d + 59) 180 11 [z_R 49100 0, z_I x1, z_I x2] [z_I (bI b)] h' := by
    intro h' q b hb
    rw [bX11_form_0, q]
    have := m_withinM (d + 58) x1 nl h'
    rw [hb] at this
    show z_cl (Rn (d + 59) 139 [z_I x1, z_I mI, z_I (nI (gnT G) - nI 1)] h') _ = _
    rw [this, q_cl, q_ps]
  cases g2 : isX x2 with
  | false =>
    refine OK_ref2 hG (-1000001) ?_ ?_
    · by_cases hm : x1 = mI
      · simp (disch := first | omega | rfl | assumption) only [bX10_form_0, bX10_form_4, bX10_form_15, bX10_form_18, bX10_form_23, bX10_form_29, bX10_form_30, bX10_form_39, bX10_form_48, bX10_form_51, rX10_form, c_rowOf, rowX_no g2, hm, c_finding, q_cl, q_ps, q_pn, bI_t, bI_f, gI_same, gI_ne, gR_pI, gJ_pI, gV_pI, gN_pI, gC_pI, gS_pI, gI_pJ, gR_pJ, gV_pJ, gN_pJ, gJ_same, gJ_ne, gI_pR, gJ_pR, gV_pR, gN_pR, gR_same, gR_ne, zin_t, zin_f, x_ltt, x_ltf, x_let, x_lef, x_eqt, x_eqf, n_0, n_1, n_2, n_3, n_4, n_5, n_6, n_7, n_8, n_9, n_10, n_11, n_12, n_16, n_19, n_20, n_24, n_25, n_32, n_40, n_48, n_50, n_60, n_64, n_80, n_96, n_114, n_684, n_1000, n_9330, n_16806, n_1000000, n_5764800, ↓n_m, m_ltI, m_leI, m_lt', m_le', m_eq, m_eq', m_add, m_sub, mm_lt, mm_le, mm_eq, q_sub, nI_add, q_mul, nI_clamp, bz_0, bz_1, q_bzb, b_0, b_1, b_ft, b_tf, ne_eq, not_true_eq_false, not_false_eq_true, decide_true, decide_false, Bool.and_self, Bool.false_and, Bool.and_false, Bool.and_true, Bool.true_and, Bool.not_true, Bool.not_false, ↓reduceIte]
      · cases g1 : z_in x1 (gnT G) with
        | false => simp (disch := first | omega | rfl | assumption) only [bX10_form_0, bX10_form_4, bX10_form_15, bX10_form_18, bX10_form_23, bX10_form_29, bX10_form_30, bX10_form_39, bX10_form_48, bX10_form_51, rX10_form, c_rowOf, rowX_no g2, hm, c_noTongue (h := h) _ nl c a1, g1, c_finding, q_cl, q_ps, q_pn, bI_t, bI_f, gI_same, gI_ne, gR_pI, gJ_pI, gV_pI, gN_pI, gC_pI, gS_pI, gI_pJ, gR_pJ, gV_pJ, gN_pJ, gJ_same, gJ_ne, gI_pR, gJ_pR, gV_pR, gN_pR, gR_same, gR_ne, zin_t, zin_f, x_ltt, x_ltf, x_let, x_lef, x_eqt, x_eqf, n_0, n_1, n_2, n_3, n_4, n_5, n_6, n_7, n_8, n_9, n_10, n_11, n_12, n_16, n_19, n_20, n_24, n_25, n_32, n_40, n_48, n_50, n_60, n_64, n_80, n_96, n_114, n_684, n_1000, n_9330, n_16806, n_1000000, n_5764800, ↓n_m, m_ltI, m_leI, m_lt', m_le', m_eq, m_eq', m_add, m_sub, mm_lt, mm_le, mm_eq, q_sub, nI_add, q_mul, nI_clamp, bz_0, bz_1, q_bzb, b_0, b_1, b_ft, b_tf, ne_eq, not_true_eq_false, not_false_eq_true, decide_true, decide_false, Bool.and_self, Bool.false_and, Bool.and_false, Bool.and_true, Bool.true_and, Bool.not_true, Bool.not_false, ↓reduceIte]
        | true => simp (disch := first | omega | rfl | assumption) only [bX10_form_0, bX10_form_4, bX10_form_15, bX10_form_18, bX10_form_23, bX10_form_29, bX10_form_30, bX10_form_39, bX10_form_48, bX10_form_51, rX10_form, c_rowOf, rowX_no g2, hm, c_noTongue (h := h) _ nl c a1, g1, c_finding, q_cl, q_ps, q_pn, bI_t, bI_f, gI_same, gI_ne, gR_pI, gJ_pI, gV_pI, gN_pI, gC_pI, gS_pI, gI_pJ, gR_pJ, gV_pJ, gN_pJ, gJ_same, gJ_ne, gI_pR, gJ_pR, gV_pR, gN_pR, gR_same, gR_ne, zin_t, zin_f, x_ltt, x_ltf, x_let, x_lef, x_eqt, x_eqf, n_0, n_1, n_2, n_3, n_4, n_5, n_6, n_7, n_8, n_9, n_10, n_11, n_12, n_16, n_19, n_20, n_24, n_25, n_32, n_40, n_48, n_50, n_60, n_64, n_80, n_96, n_114, n_684, n_1000, n_9330, n_16806, n_1000000, n_5764800, ↓n_m, m_ltI, m_leI, m_lt', m_le', m_eq, m_eq', m_add, m_sub, mm_lt, mm_le, mm_eq, q_sub, nI_add, q_mul, nI_clamp, bz_0, bz_1, q_bzb, b_0, b_1, b_ft, b_tf, ne_eq, not_true_eq_false, not_false_eq_true, decide_true, decide_false, Bool.and_self, Bool.false_and, Bool.and_false, Bool.and_true, Bool.true_and, Bool.not_true, Bool.not_false, ↓reduceIte]
    · cases hb : (decide (x1 = mI) || z_in x1 (gnT G)) with
      | false => simp (disch := first | omega | rfl | assumption) only [rX11_form, gd (pI h 10090 0 9 (gI h 10090 0 9 + nI 1)) (by simp (disch := first | omega | rfl | assumption) only [a2, q_cl, q_ps, q_pn, bI_t, bI_f, gI_same, gI_ne, gR_pI, gJ_pI, gV_pI, gN_pI, gC_pI, gS_pI, gI_pJ, gR_pJ, gV_pJ, gN_pJ, gJ_same, gJ_ne, gI_pR, gJ_pR, gV_pR, gN_pR, gR_same, gR_ne, zin_t, zin_f, x_ltt, x_ltf, x_let, x_lef, x_eqt, x_eqf, n_0, n_1, n_2, n_3, n_4, n_5, n_6, n_7, n_8, n_9, n_10, n_11, n_12, n_16, n_19, n_20, n_24, n_25, n_32, n_40, n_48, n_50, n_60, n_64, n_80, n_96, n_114, n_684, n_1000, n_9330, n_16806, n_1000000, n_5764800, ↓n_m, m_ltI, m_leI, m_lt', m_le', m_eq, m_eq', m_add, m_sub, mm_lt, mm_le, mm_eq, q_sub, nI_add, q_mul, nI_clamp, bz_0, bz_1, q_bzb, b_0, b_1, b_ft, b_tf, ne_eq, not_true_eq_false, not_false_eq_true, decide_true, decide_false, Bool.and_self, Bool.false_and, Bool.and_false, Bool.and_true, Bool.true_and, Bool.not_true, Bool.not_false, ↓reduceIte]) _ hb, bX11_form_11, bX11_form_18, bX11_form_21, bX11_form_27, bX11_form_28, bX11_form_34, rX11_form, m_finding, q_cl, q_ps, q_pn, bI_t, bI_f, gI_same, gI_ne, gR_pI, gJ_pI, gV_pI, gN_pI, gC_pI, gS_pI, gI_pJ, gR_pJ, gV_pJ, gN_pJ, gJ_same, gJ_ne, gI_pR, gJ_pR, gV_pR, gN_pR, gR_same, gR_ne, zin_t, zin_f, x_ltt, x_ltf, x_let, x_lef, x_eqt, x_eqf, n_0, n_1, n_2, n_3, n_4, n_5, n_6, n_7, n_8, n_9, n_10, n_11, n_12, n_16, n_19, n_20, n_24, n_25, n_32, n_40, n_48, n_50, n_60, n_64, n_80, n_96, n_114, n_684, n_1000, n_9330, n_16806, n_1000000, n_5764800, ↓n_m, m_ltI, m_leI, m_lt', m_le', m_eq, m_eq', m_add, m_sub, mm_lt, mm_le, mm_eq, q_sub, nI_add, q_mul, nI_clamp, bz_0, bz_1, q_bzb, b_0, b_1, b_ft, b_tf, ne_eq, not_true_eq_false, not_false_eq_true, decide_true, decide_false, Bool.and_self, Bool.false_and, Bool.and_false, Bool.and_true, Bool.true_and, Bool.not_true, Bool.not_false, ↓reduceIte]
      | true => simp (disch := first | omega | rfl | assumption) only [rX11_form, gd (pI h 10090 0 9 (gI h 10090 0 9 + nI 1)) (by simp (disch := first | omega | rfl | assumption) only [a2, q_cl, q_ps, q_pn, bI_t, bI_f, gI_same, gI_ne, gR_pI, gJ_pI, gV_pI, gN_pI, gC_pI, gS_pI, gI_pJ, gR_pJ, gV_pJ, gN_pJ, gJ_same, gJ_ne, gI_pR, gJ_pR, gV_pR, gN_pR, gR_same, gR_ne, zin_t, zin_f, x_ltt, x_ltf, x_let, x_lef, x_eqt, x_eqf, n_0, n_1, n_2, n_3, n_4, n_5, n_6, n_7, n_8, n_9, n_10, n_11, n_12, n_16, n_19, n_20, n_24, n_25, n_32, n_40, n_48, n_50, n_60, n_64, n_80, n_96, n_114, n_684, n_1000, n_9330, n_16806, n_1000000, n_5764800, ↓n_m, m_ltI, m_leI, m_lt', m_le', m_eq, m_eq', m_add, m_sub, mm_lt, mm_le, mm_eq, q_sub, nI_add, q_mul, nI_clamp, bz_0, bz_1, q_bzb, b_0, b_1, b_ft, b_tf, ne_eq, not_true_eq_false, not_false_eq_true, decide_true, decide_false, Bool.and_self, Bool.false_and, Bool.and_false, Bool.and_true, Bool.true_and, Bool.not_true, Bool.not_false, ↓reduceIte]) _ hb, bX11_form_11, bX11_form_18, bX11_form_21, bX11_form_27, bX11_form_28, bX11_form_34, rX11_form, m_isWord, g2, m_finding, q_cl, q_ps, q_pn, bI_t, bI_f, gI_same, gI_ne, gR_pI, gJ_pI, gV_pI, gN_pI, gC_pI, gS_pI, gI_pJ, gR_pJ, gV_pJ, gN_pJ, gJ_same, gJ_ne, gI_pR, gJ_pR, gV_pR, gN_pR, gR_same, gR_ne, zin_t, zin_f, x_ltt, x_ltf, x_let, x_lef, x_eqt, x_eqf, n_0, n_1, n_2, n_3, n_4, n_5, n_6, n_7, n_8, n_9, n_10, n_11, n_12, n_16, n_19, n_20, n_24, n_25, n_32, n_40, n_48, n_50, n_60, n_64, n_80, n_96, n_114, n_684, n_1000, n_9330, n_16806, n_1000000, n_5764800, ↓n_m, m_ltI, m_leI, m_lt', m_le', m_eq, m_eq', m_add, m_sub, mm_lt, mm_le, mm_eq, q_sub, nI_add, q_mul, nI_clamp, bz_0, bz_1, q_bzb, b_0, b_1, b_ft, b_tf, ne_eq, not_true_eq_false, not_false_eq_true, decide_true, decide_false, Bool.and_self, Bool.false_and, Bool.and_false, Bool.and_true, Bool.true_and, Bool.not_true, Bool.not_false, ↓reduceIte]
  | true =>
    obtain ⟨w, hw, rfl⟩ := isX_of g2
    have hlt := rowN_lt' hw
    have hlw := wN_lt hw
    by_cases hm : x1 = mI
    · subst hm
      obtain ⟨h1, e1, e2⟩ := m_formOf (G := G) (mu := 0) (by decide) (a := 0) (D := d + 59) (Nat.zero_le _) (by omega) mt hw
      rw [mk_0] at e1
      refine ⟨nI (wN w), h, h1, ?_, ?_, G, Inv_scr (frX_fr e2 tW_g) hG⟩
      · simp (disch := first | omega | rfl | assumption) only [bX10_form_0, bX10_form_4, bX10_form_15, bX10_form_18, bX10_form_23, bX10_form_29, bX10_form_30, bX10_form_39, bX10_form_48, bX10_form_51, rX10_form, c_rowOf, rowX_w hw, q_cl, q_ps, q_pn, bI_t, bI_f, gI_same, gI_ne, gR_pI, gJ_pI, gV_pI, gN_pI, gC_pI, gS_pI, gI_pJ, gR_pJ, gV_pJ, gN_pJ, gJ_same, gJ_ne, gI_pR, gJ_pR, gV_pR, gN_pR, gR_same, gR_ne, zin_t, zin_f, x_ltt, x_ltf, x_let, x_lef, x_eqt, x_eqf, n_0, n_1, n_2, n_3, n_4, n_5, n_6, n_7, n_8, n_9, n_10, n_11, n_12, n_16, n_19, n_20, n_24, n_25, n_32, n_40, n_48, n_50, n_60, n_64, n_80, n_96, n_114, n_684, n_1000, n_9330, n_16806, n_1000000, n_5764800, ↓n_m, m_ltI, m_leI, m_lt', m_le', m_eq, m_eq', m_add, m_sub, mm_lt, mm_le, mm_eq, q_sub, nI_add, q_mul, nI_clamp, bz_0, bz_1, q_bzb, b_0, b_1, b_ft, b_tf, ne_eq, not_true_eq_false, not_false_eq_true, decide_true, decide_false, Bool.and_self, Bool.false_and, Bool.and_false, Bool.and_true, Bool.true_and, Bool.not_true, Bool.not_false, ↓reduceIte]
      · simp (disch := first | omega | rfl | assumption) only [rX11_form, gd h a2 true (by simp), bX11_form_11, bX11_form_18, bX11_form_21, bX11_form_27, bX11_form_28, bX11_form_34, rX11_form, m_isWord, g2, e1, q_cl, q_ps, q_pn, bI_t, bI_f, gI_same, gI_ne, gR_pI, gJ_pI, gV_pI, gN_pI, gC_pI, gS_pI, gI_pJ, gR_pJ, gV_pJ, gN_pJ, gJ_same, gJ_ne, gI_pR, gJ_pR, gV_pR, gN_pR, gR_same, gR_ne, zin_t, zin_f, x_ltt, x_ltf, x_let, x_lef, x_eqt, x_eqf, n_0, n_1, n_2, n_3, n_4, n_5, n_6, n_7, n_8, n_9, n_10, n_11, n_12, n_16, n_19, n_20, n_24, n_25, n_32, n_40, n_48, n_50, n_60, n_64, n_80, n_96, n_114, n_684, n_1000, n_9330, n_16806, n_1000000, n_5764800, ↓n_m, m_ltI, m_leI, m_lt', m_le', m_eq, m_eq', m_add, m_sub, mm_lt, mm_le, mm_eq, q_sub, nI_add, q_mul, nI_clamp, bz_0, bz_1, q_bzb, b_0, b_1, b_ft, b_tf, ne_eq, not_true_eq_false, not_false_eq_true, decide_true, decide_false, Bool.and_self, Bool.false_and, Bool.and_false, Bool.and_true, Bool.true_and, Bool.not_true, Bool.not_false, ↓reduceIte]
        rfl
    · cases g1 : z_in x1 (gnT G) with
      | false =>
        exact OK_ref2 hG (-1000001) (by simp (disch := first | omega | rfl | assumption) only [bX10_form_0, bX10_form_4, bX10_form_15, bX10_form_18, bX10_form_23, bX10_form_29, bX10_form_30, bX10_form_39, bX10_form_48, bX10_form_51, rX10_form, c_rowOf, rowX_w hw, hm, c_noTongue (h := h) _ nl c a1, g1, c_finding, q_cl, q_ps, q_pn, bI_t, bI_f, gI_same, gI_ne, gR_pI, gJ_pI, gV_pI, gN_pI, gC_pI, gS_pI, gI_pJ, gR_pJ, gV_pJ, gN_pJ, gJ_same, gJ_ne, gI_pR, gJ_pR, gV_pR, gN_pR, gR_same, gR_ne, zin_t, zin_f, x_ltt, x_ltf, x_let, x_lef, x_eqt, x_eqf, n_0, n_1, n_2, n_3, n_4, n_5, n_6, n_7, n_8, n_9, n_10, n_11, n_12, n_16, n_19, n_20, n_24, n_25, n_32, n_40, n_48, n_50, n_60, n_64, n_80, n_96, n_114, n_684, n_1000, n_9330, n_16806, n_1000000, n_5764800, ↓n_m, m_ltI, m_leI, m_lt', m_le', m_eq, m_eq', m_add, m_sub, mm_lt, mm_le, mm_eq, q_sub, nI_add, q_mul, nI_clamp, bz_0, bz_1, q_bzb, b_0, b_1, b_ft, b_tf, ne_eq, not_true_eq_false, not_false_eq_true, decide_true, decide_false, Bool.and_self, Bool.false_and, Bool.and_false, Bool.and_true, Bool.true_and, Bool.not_true, Bool.not_false, ↓reduceIte]) (by simp (disch := first | omega | rfl | assumption) only [rX11_form, gd (pI h 10090 0 9 (gI h 10090 0 9 + nI 1)) (by simp (disch := first | omega | rfl | assumption) only [a2, q_cl, q_ps, q_pn, bI_t, bI_f, gI_same, gI_ne, gR_pI, gJ_pI, gV_pI, gN_pI, gC_pI, gS_pI, gI_pJ, gR_pJ, gV_pJ, gN_pJ, gJ_same, gJ_ne, gI_pR, gJ_pR, gV_pR, gN_pR, gR_same, gR_ne, zin_t, zin_f, x_ltt, x_ltf, x_let, x_lef, x_eqt, x_eqf, n_0, n_1, n_2, n_3, n_4, n_5, n_6, n_7, n_8, n_9, n_10, n_11, n_12, n_16, n_19, n_20, n_24, n_25, n_32, n_40, n_48, n_50, n_60, n_64, n_80, n_96, n_114, n_684, n_1000, n_9330, n_16806, n_1000000, n_5764800, ↓n_m, m_ltI, m_leI, m_lt', m_le', m_eq, m_eq', m_add, m_sub, mm_lt, mm_le, mm_eq, q_sub, nI_add, q_mul, nI_clamp, bz_0, bz_1, q_bzb, b_0, b_1, b_ft, b_tf, ne_eq, not_true_eq_false, not_false_eq_true, decide_true, decide_false, Bool.and_self, Bool.false_and, Bool.and_false, Bool.and_true, Bool.true_and, Bool.not_true, Bool.not_false, ↓reduceIte]) false (by simp [hm, g1]), bX11_form_11, bX11_form_18, bX11_form_21, bX11_form_27, bX11_form_28, bX11_form_34, rX11_form, m_finding, q_cl, q_ps, q_pn, bI_t, bI_f, gI_same, gI_ne, gR_pI, gJ_pI, gV_pI, gN_pI, gC_pI, gS_pI, gI_pJ, gR_pJ, gV_pJ, gN_pJ, gJ_same, gJ_ne, gI_pR, gJ_pR, gV_pR, gN_pR, gR_same, gR_ne, zin_t, zin_f, x_ltt, x_ltf, x_let, x_lef, x_eqt, x_eqf, n_0, n_1, n_2, n_3, n_4, n_5, n_6, n_7, n_8, n_9, n_10, n_11, n_12, n_16, n_19, n_20, n_24, n_25, n_32, n_40, n_48, n_50, n_60, n_64, n_80, n_96, n_114, n_684, n_1000, n_9330, n_16806, n_1000000, n_5764800, ↓n_m, m_ltI, m_leI, m_lt', m_le', m_eq, m_eq', m_add, m_sub, mm_lt, mm_le, mm_eq, q_sub, nI_add, q_mul, nI_clamp, bz_0, bz_1, q_bzb, b_0, b_1, b_ft, b_tf, ne_eq, not_true_eq_false, not_false_eq_true, decide_true, decide_false, Bool.and_self, Bool.false_and, Bool.and_false, Bool.and_true, Bool.true_and, Bool.not_true, Bool.not_false, ↓reduceIte])
      | true =>
        obtain ⟨t, ht, -, rfl⟩ := zin_of g1
        obtain ⟨h1, e1, e2⟩ := m_formOf (G := G) (mu := 0) (by decide) (a := t + 1) (D := d + 59) (by omega) (by omega) mt hw
        rw [show mkI (t + 1) = nI t from mkI_pos (by omega), show fa G 0 (t + 1) w = frm G 0 t w from (if_neg (by omega))] at e1
        refine ⟨nI (wN (frm G 0 t w)), h, h1, ?_, ?_, G, Inv_scr (frX_fr e2 tW_g) hG⟩
        · simp (disch := first | omega | rfl | assumption) only [bX10_form_0, bX10_form_4, bX10_form_15, bX10_form_18, bX10_form_23, bX10_form_29, bX10_form_30, bX10_form_39, bX10_form_48, bX10_form_51, rX10_form, c_rowOf, rowX_w hw, c_noTongue (h := h) _ nl c a1, g1, c.1 10090 2 rfl, c_rowIn (d + 54) ct ht hw, c_numberOf _ (frm_ok mt.1 0 t w ht hw), q_cl, q_ps, q_pn, bI_t, bI_f, gI_same, gI_ne, gR_pI, gJ_pI, gV_pI, gN_pI, gC_pI, gS_pI, gI_pJ, gR_pJ, gV_pJ, gN_pJ, gJ_same, gJ_ne, gI_pR, gJ_pR, gV_pR, gN_pR, gR_same, gR_ne, zin_t, zin_f, x_ltt, x_ltf, x_let, x_lef, x_eqt, x_eqf, n_0, n_1, n_2, n_3, n_4, n_5, n_6, n_7, n_8, n_9, n_10, n_11, n_12, n_16, n_19, n_20, n_24, n_25, n_32, n_40, n_48, n_50, n_60, n_64, n_80, n_96, n_114, n_684, n_1000, n_9330, n_16806, n_1000000, n_5764800, ↓n_m, m_ltI, m_leI, m_lt', m_le', m_eq, m_eq', m_add, m_sub, mm_lt, mm_le, mm_eq, q_sub, nI_add, q_mul, nI_clamp, bz_0, bz_1, q_bzb, b_0, b_1, b_ft, b_tf, ne_eq, not_true_eq_false, not_false_eq_true, decide_true, decide_false, Bool.and_self, Bool.false_and, Bool.and_false, Bool.and_true, Bool.true_and, Bool.not_true, Bool.not_false, ↓reduceIte]
        · simp (disch := first | omega | rfl | assumption) only [rX11_form, gd h a2 true (by simp [g1]), bX11_form_11, bX11_form_18, bX11_form_21, bX11_form_27, bX11_form_28, bX11_form_34, rX11_form, m_isWord, g2, e1, q_cl, q_ps, q_pn, bI_t, bI_f, gI_same, gI_ne, gR_pI, gJ_pI, gV_pI, gN_pI, gC_pI, gS_pI, gI_pJ, gR_pJ, gV_pJ, gN_pJ, gJ_same, gJ_ne, gI_pR, gJ_pR, gV_pR, gN_pR, gR_same, gR_ne, zin_t, zin_f, x_ltt, x_ltf, x_let, x_lef, x_eqt, x_eqf, n_0, n_1, n_2, n_3, n_4, n_5, n_6, n_7, n_8, n_9, n_10, n_11, n_12, n_16, n_19, n_20, n_24, n_25, n_32, n_40, n_48, n_50, n_60, n_64, n_80, n_96, n_114, n_684, n_1000, n_9330, n_16806, n_1000000, n_5764800, ↓n_m, m_ltI, m_leI, m_lt', m_le', m_eq, m_eq', m_add, m_sub, mm_lt, mm_le, mm_eq, q_sub, nI_add, q_mul, nI_clamp, bz_0, bz_1, q_bzb, b_0, b_1, b_ft, b_tf, ne_eq, not_true_eq_false, not_false_eq_true, decide_true, decide_false, Bool.and_self, Bool.false_and, Bool.and_false, Bool.and_true, Bool.true_and, Bool.not_true, Bool.not_false, ↓reduceIte]
theorem op_written {N : Nat} {xs : Nat → Int32} (d : Nat) {h : z_H} (hI : Inv h N xs) (x1 x2 : Int32) : OKc N xs (d + 60) 97 186 [z_I x1, z_I x2] h := by
  obtain ⟨G, hG⟩ := hI
  have m := I_m hG
  have c := I_c hG
  have mt := mT_of hG
  have ct := cT_of hG
  obtain ⟨a1, a2, a3, -⟩ := I_T hG
  have nl : gnT G < 2 ^ 31 := by omega
  cases g1 : z_in x1 (gnT G) with
  | false =>
    refine OK_ref2 hG (-1000001) ?_ (by simp (disch := first | omega | rfl | assumption) only [bX11_written_0, bX11_written_5, bX11_written_12, bX11_written_21, bX11_written_24, bX11_written_30, rX11_written, m_isTongue (h := (pI h 10090 0 9 (gI h 10090 0 9 + nI 1))) _ nl (by simp (disch := first | omega | rfl | assumption) only [a2, q_cl, q_ps, q_pn, bI_t, bI_f, gI_same, gI_ne, gR_pI, gJ_pI, gV_pI, gN_pI, gC_pI, gS_pI, gI_pJ, gR_pJ, gV_pJ, gN_pJ, gJ_same, gJ_ne, gI_pR, gJ_pR, gV_pR, gN_pR, gR_same, gR_ne, zin_t, zin_f, x_ltt, x_ltf, x_let, x_lef, x_eqt, x_eqf, n_0, n_1, n_2, n_3, n_4, n_5, n_6, n_7, n_8, n_9, n_10, n_11, n_12, n_16, n_19, n_20, n_24, n_25, n_32, n_40, n_48, n_50, n_60, n_64, n_80, n_96, n_114, n_684, n_1000, n_9330, n_16806, n_1000000, n_5764800, ↓n_m, m_ltI, m_leI, m_lt', m_le', m_eq, m_eq', m_add, m_sub, mm_lt, mm_le, mm_eq, q_sub, nI_add, q_mul, nI_clamp, bz_0, bz_1, q_bzb, b_0, b_1, b_ft, b_tf, ne_eq, not_true_eq_false, not_false_eq_true, decide_true, decide_false, Bool.and_self, Bool.false_and, Bool.and_false, Bool.and_true, Bool.true_and, Bool.not_true, Bool.not_false, ↓reduceIte]), g1, m_finding, q_cl, q_ps, q_pn, bI_t, bI_f, gI_same, gI_ne, gR_pI, gJ_pI, gV_pI, gN_pI, gC_pI, gS_pI, gI_pJ, gR_pJ, gV_pJ, gN_pJ, gJ_same, gJ_ne, gI_pR, gJ_pR, gV_pR, gN_pR, gR_same, gR_ne, zin_t, zin_f, x_ltt, x_ltf, x_let, x_lef, x_eqt, x_eqf, n_0, n_1, n_2, n_3, n_4, n_5, n_6, n_7, n_8, n_9, n_10, n_11, n_12, n_16, n_19, n_20, n_24, n_25, n_32, n_40, n_48, n_50, n_60, n_64, n_80, n_96, n_114, n_684, n_1000, n_9330, n_16806, n_1000000, n_5764800, ↓n_m, m_ltI, m_leI, m_lt', m_le', m_eq, m_eq', m_add, m_sub, mm_lt, mm_le, mm_eq, q_sub, nI_add, q_mul, nI_clamp, bz_0, bz_1, q_bzb, b_0, b_1, b_ft, b_tf, ne_eq, not_true_eq_false, not_false_eq_true, decide_true, decide_false, Bool.and_self, Bool.false_and, Bool.and_false, Bool.and_true, Bool.true_and, Bool.not_true, Bool.not_false, ↓reduceIte])
    simp (disch := first | omega | rfl | assumption) only [bX10_written_0, bX10_written_4, bX10_written_10, bX10_written_18, bX10_written_24, bX10_written_25, bX10_written_34, bX10_written_49, bX10_written_52, rX10_written, c_rowOf, c_noTongue (h := h) _ nl c a1, g1, c_finding, q_cl, q_ps, q_pn, bI_t, bI_f, gI_same, gI_ne, gR_pI, gJ_pI, gV_pI, gN_pI, gC_pI, gS_pI, gI_pJ, gR_pJ, gV_pJ, gN_pJ, gJ_same, gJ_ne, gI_pR, gJ_pR, gV_pR, gN_pR, gR_same, gR_ne, zin_t, zin_f, x_ltt, x_ltf, x_let, x_lef, x_eqt, x_eqf, n_0, n_1, n_2, n_3, n_4, n_5, n_6, n_7, n_8, n_9, n_10, n_11, n_12, n_16, n_19, n_20, n_24, n_25, n_32, n_40, n_48, n_50, n_60, n_64, n_80, n_96, n_114, n_684, n_1000, n_9330, n_16806, n_1000000, n_5764800, ↓n_m, m_ltI, m_leI, m_lt', m_le', m_eq, m_eq', m_add, m_sub, mm_lt, mm_le, mm_eq, q_sub, nI_add, q_mul, nI_clamp, bz_0, bz_1, q_bzb, b_0, b_1, b_ft, b_tf, ne_eq, not_true_eq_false, not_false_eq_true, decide_true, decide_false, Bool.and_self, Bool.false_and, Bool.and_false, Bool.and_true, Bool.true_and, Bool.not_true, Bool.not_false, ↓reduceIte]
  | true =>
    obtain ⟨t, ht, -, rfl⟩ := zin_of g1
    cases g2 : isX x2 with
    | false => exact OK_ref2 hG (-1000001) (by simp (disch := first | omega | rfl | assumption) only [bX10_written_0, bX10_written_4, bX10_written_10, bX10_written_18, bX10_written_24, bX10_written_25, bX10_written_34, bX10_written_49, bX10_written_52, rX10_written, c_rowOf, rowX_no g2, c_noTongue (h := h) _ nl c a1, g1, c_finding, q_cl, q_ps, q_pn, bI_t, bI_f, gI_same, gI_ne, gR_pI, gJ_pI, gV_pI, gN_pI, gC_pI, gS_pI, gI_pJ, gR_pJ, gV_pJ, gN_pJ, gJ_same, gJ_ne, gI_pR, gJ_pR, gV_pR, gN_pR, gR_same, gR_ne, zin_t, zin_f, x_ltt, x_ltf, x_let, x_lef, x_eqt, x_eqf, n_0, n_1, n_2, n_3, n_4, n_5, n_6, n_7, n_8, n_9, n_10, n_11, n_12, n_16, n_19, n_20, n_24, n_25, n_32, n_40, n_48, n_50, n_60, n_64, n_80, n_96, n_114, n_684, n_1000, n_9330, n_16806, n_1000000, n_5764800, ↓n_m, m_ltI, m_leI, m_lt', m_le', m_eq, m_eq', m_add, m_sub, mm_lt, mm_le, mm_eq, q_sub, nI_add, q_mul, nI_clamp, bz_0, bz_1, q_bzb, b_0, b_1, b_ft, b_tf, ne_eq, not_true_eq_false, not_false_eq_true, decide_true, decide_false, Bool.and_self, Bool.false_and, Bool.and_false, Bool.and_true, Bool.true_and, Bool.not_true, Bool.not_false, ↓reduceIte]) (by simp (disch := first | omega | rfl | assumption) only [bX11_written_0, bX11_written_5, bX11_written_12, bX11_written_21, bX11_written_24, bX11_written_30, rX11_written, m_isTongue (h := (pI h 10090 0 9 (gI h 10090 0 9 + nI 1))) _ nl (by simp (disch := first | omega | rfl | assumption) only [a2, q_cl, q_ps, q_pn, bI_t, bI_f, gI_same, gI_ne, gR_pI, gJ_pI, gV_pI, gN_pI, gC_pI, gS_pI, gI_pJ, gR_pJ, gV_pJ, gN_pJ, gJ_same, gJ_ne, gI_pR, gJ_pR, gV_pR, gN_pR, gR_same, gR_ne, zin_t, zin_f, x_ltt, x_ltf, x_let, x_lef, x_eqt, x_eqf, n_0, n_1, n_2, n_3, n_4, n_5, n_6, n_7, n_8, n_9, n_10, n_11, n_12, n_16, n_19, n_20, n_24, n_25, n_32, n_40, n_48, n_50, n_60, n_64, n_80, n_96, n_114, n_684, n_1000, n_9330, n_16806, n_1000000, n_5764800, ↓n_m, m_ltI, m_leI, m_lt', m_le', m_eq, m_eq', m_add, m_sub, mm_lt, mm_le, mm_eq, q_sub, nI_add, q_mul, nI_clamp, bz_0, bz_1, q_bzb, b_0, b_1, b_ft, b_tf, ne_eq, not_true_eq_false, not_false_eq_true, decide_true, decide_false, Bool.and_self, Bool.false_and, Bool.and_false, Bool.and_true, Bool.true_and, Bool.not_true, Bool.not_false, ↓reduceIte]), g1, m_isWord, g2, m_finding, q_cl, q_ps, q_pn, bI_t, bI_f, gI_same, gI_ne, gR_pI, gJ_pI, gV_pI, gN_pI, gC_pI, gS_pI, gI_pJ, gR_pJ, gV_pJ, gN_pJ, gJ_same, gJ_ne, gI_pR, gJ_pR, gV_pR, gN_pR, gR_same, gR_ne, zin_t, zin_f, x_ltt, x_ltf, x_let, x_lef, x_eqt, x_eqf, n_0, n_1, n_2, n_3, n_4, n_5, n_6, n_7, n_8, n_9, n_10, n_11, n_12, n_16, n_19, n_20, n_24, n_25, n_32, n_40, n_48, n_50, n_60, n_64, n_80, n_96, n_114, n_684, n_1000, n_9330, n_16806, n_1000000, n_5764800, ↓n_m, m_ltI, m_leI, m_lt', m_le', m_eq, m_eq', m_add, m_sub, mm_lt, mm_le, mm_eq, q_sub, nI_add, q_mul, nI_clamp, bz_0, bz_1, q_bzb, b_0, b_1, b_ft, b_tf, ne_eq, not_true_eq_false, not_false_eq_true, decide_true, decide_false, Bool.and_self, Bool.false_and, Bool.and_false, Bool.and_true, Bool.true_and, Bool.not_true, Bool.not_false, ↓reduceIte])
    | true =>
      obtain ⟨w, hw, rfl⟩ := isX_of g2
      have hlt := rowN_lt' hw
      have hlw := wN_lt hw
      obtain ⟨h1, e1, e2⟩ := m_writtenOf (G := G) (mu := 0) (by decide) (D := d + 59) ht (by omega) mt hw
      obtain ⟨b1, b2, b3, b4, b5, b6, b7, b8⟩ := ct.2.2.2.2.2.2 t ht
      have hf := frm_ok mt.1 0 t w ht hw
      refine ⟨nI (wN (wrt G 0 t w)), h, h1, ?_, ?_, G, Inv_scr (frX_fr e2 tW_g) hG⟩
      · simp (disch := first | omega | rfl | assumption) only [bX10_written_0, bX10_written_4, bX10_written_10, bX10_written_18, bX10_written_24, bX10_written_25, bX10_written_34, bX10_written_49, bX10_written_52, rX10_written, c_rowOf, rowX_w hw, c_noTongue (h := h) _ nl c a1, g1, c.1 10090 2 rfl, c.1 9010 0 rfl, c_rowIn (d + 54) ct ht hw, b1, b5, c_signsOf (d + 58) (mt.1.2.2.2.2.2 t ht).2.2 b8 hf, c_numberOf _ (signW_ok (mt.1.2.2.2.2.2 t ht).2.2 hf), q_cl, q_ps, q_pn, bI_t, bI_f, gI_same, gI_ne, gR_pI, gJ_pI, gV_pI, gN_pI, gC_pI, gS_pI, gI_pJ, gR_pJ, gV_pJ, gN_pJ, gJ_same, gJ_ne, gI_pR, gJ_pR, gV_pR, gN_pR, gR_same, gR_ne, zin_t, zin_f, x_ltt, x_ltf, x_let, x_lef, x_eqt, x_eqf, n_0, n_1, n_2, n_3, n_4, n_5, n_6, n_7, n_8, n_9, n_10, n_11, n_12, n_16, n_19, n_20, n_24, n_25, n_32, n_40, n_48, n_50, n_60, n_64, n_80, n_96, n_114, n_684, n_1000, n_9330, n_16806, n_1000000, n_5764800, ↓n_m, m_ltI, m_leI, m_lt', m_le', m_eq, m_eq', m_add, m_sub, mm_lt, mm_le, mm_eq, q_sub, nI_add, q_mul, nI_clamp, bz_0, bz_1, q_bzb, b_0, b_1, b_ft, b_tf, ne_eq, not_true_eq_false, not_false_eq_true, decide_true, decide_false, Bool.and_self, Bool.false_and, Bool.and_false, Bool.and_true, Bool.true_and, Bool.not_true, Bool.not_false, ↓reduceIte]
        rfl
      · simp (disch := first | omega | rfl | assumption) only [bX11_written_0, bX11_written_5, bX11_written_12, bX11_written_21, bX11_written_24, bX11_written_30, rX11_written, m_isTongue (h := h) _ nl a2, g1, m_isWord, g2, e1, q_cl, q_ps, q_pn, bI_t, bI_f, gI_same, gI_ne, gR_pI, gJ_pI, gV_pI, gN_pI, gC_pI, gS_pI, gI_pJ, gR_pJ, gV_pJ, gN_pJ, gJ_same, gJ_ne, gI_pR, gJ_pR, gV_pR, gN_pR, gR_same, gR_ne, zin_t, zin_f, x_ltt, x_ltf, x_let, x_lef, x_eqt, x_eqf, n_0, n_1, n_2, n_3, n_4, n_5, n_6, n_7, n_8, n_9, n_10, n_11, n_12, n_16, n_19, n_20, n_24, n_25, n_32, n_40, n_48, n_50, n_60, n_64, n_80, n_96, n_114, n_684, n_1000, n_9330, n_16806, n_1000000, n_5764800, ↓n_m, m_ltI, m_leI, m_lt', m_le', m_eq, m_eq', m_add, m_sub, mm_lt, mm_le, mm_eq, q_sub, nI_add, q_mul, nI_clamp, bz_0, bz_1, q_bzb, b_0, b_1, b_ft, b_tf, ne_eq, not_true_eq_false, not_false_eq_true, decide_true, decide_false, Bool.and_self, Bool.false_and, Bool.and_false, Bool.and_true, Bool.true_and, Bool.not_true, Bool.not_false, ↓reduceIte]
