/-! ===== signs, and the bits of what holds ===== -/
def signW (sg : Nat → Nat) (w : List Nat) : List Nat := (w.map (fun x => sg (x - 1))).filter (fun x => x != 0)
theorem signW_cons (sg : Nat → Nat) (x : Nat) (w : List Nat) : signW sg (x :: w) = if sg (x - 1) = 0 then signW sg w else sg (x - 1) :: signW sg w := by
  unfold signW
  rw [List.map_cons, List.filter_cons]
  by_cases h : sg (x - 1) = 0 <;> simp [h]
theorem signW_len (sg : Nat → Nat) (w : List Nat) : (signW sg w).length ≤ w.length := by
  unfold signW
  have := List.length_filter_le (fun x => x != 0) (w.map (fun x => sg (x - 1)))
  rwa [List.length_map] at this
def okS (sg : Nat → Nat) : Prop := ∀ s, s < 6 → sg s ≤ 6
theorem signW_ok {sg : Nat → Nat} (hs : okS sg) {w : List Nat} (hw : isW w) : isW (signW sg w) := by
  refine ⟨Nat.le_trans (signW_len sg w) hw.1, fun x hx => ?_⟩
  unfold signW at hx
  obtain ⟨h1, h2⟩ := List.mem_filter.mp hx
  obtain ⟨y, h3, rfl⟩ := List.mem_map.mp h1
  have := hw.2 y h3
  have := hs (y - 1) (by omega)
  simp at h2
  omega
theorem mk_neg {k : Nat} (h : k < 10) : (mkI k < nI 0) = (k = 0) := by
  by_cases h0 : k = 0
  · subst h0; rw [eq_true (rfl : 0 = 0)]; exact eq_true (by decide)
  · rw [eq_false h0, mkI_pos (by omega)]
    exact eq_false (nI_pos (by omega))
theorem mk_inc {k : Nat} : mkI k + nI 1 = nI k := by
  unfold mkI
  show nI k - 1 + 1 = nI k
  rw [Int32.sub_add_cancel]
theorem c_signsOf_loop (d : Nat) {sg : Nat → Nat} (hs : okS sg) {h : z_H} {t : Nat} (hg : ∀ s, s < 6 → gI h 6391 t s = mkI (sg s)) : ∀ (r l o : List Nat) (u : z_V), (∀ x ∈ l ++ r, 1 ≤ x ∧ x ≤ 6) → (l ++ r).length ≤ 8 → (∀ x ∈ o, x < 8) → o.length + r.length ≤ 8 → EX d 5 7 [z_I (nI (rowN (l ++ r))), z_R 6391 t, z_I (nI (rowN o)), z_I (nI (3 * o.length)), z_I (nI (3 * l.length)), u] [] h = some (some (z_I (nI (rowN (o ++ signW sg r)))), h) := by
  intro r
  induction r with
  | nil =>
    intro l o u hw hl _ _
    have e := row_ush hw hl
    rw [bX6_signsOf_7, e]
    by_cases h8 : (24 : Int32) ≤ nI (3 * l.length)
    · rw [if_pos h8, bX6_signsOf_57, show signW sg [] = [] from rfl, List.append_nil]
    · rw [if_neg h8, if_pos (show nI (rowN []) = 0 from rfl), bX6_signsOf_57, show signW sg [] = [] from rfl, List.append_nil]
  | cons x r ih =>
    intro l o u hw hl ho ho8
    have e := row_ush hw hl
    have hx := hw x (List.mem_append_right _ List.mem_cons_self)
    simp only [List.length_cons] at ho8
    have hlt := row_lt hw hl
    have hne : rowN (x :: r) ≠ 0 := by show rowN r * 8 + x ≠ 0; omega
    have e1 : rowN (x :: r) % 8 = x := by show (rowN r * 8 + x) % 8 = x; omega
    have ev : (nI (rowN (x :: r)) &&& 7) - 1 = nI (x - 1) := by rw [q_and7, e1]; exact q_sub (b := 1) (by omega)
    have hs1 := hs (x - 1) (by omega)
    have hrl := rowN_lt o ho
    have h83 : (8 : Nat) ^ o.length = 2 ^ (3 * o.length) := by rw [Nat.pow_mul]
    have i := fun o u => ih (l ++ [x]) o u (by rw [row_mv]; exact hw) (by rw [row_mv]; exact hl)
    rw [row_mv, ← row_on l x] at i
    rw [bX6_signsOf_7, if_neg (row_le24 hl), e, if_neg (by rw [n_z (by omega)]; exact hne), ev, zin_t (by omega) (by omega), if_pos rfl, nI_clamp (by omega), hg (x - 1) (by omega)]
    rw [signW_cons]
    by_cases h0 : sg (x - 1) = 0
    · rw [if_pos (show mkI (sg (x - 1)) < 0 by rw [h0]; decide), bX6_signsOf_51, if_pos h0]
      exact i o _ ho (by omega)
    · rw [if_neg (show ¬ mkI (sg (x - 1)) < 0 by rw [mkI_pos (by omega)]; exact nI_pos (by omega)), bX6_signsOf_51, if_neg h0, show mkI (sg (x - 1)) + 1 = nI (sg (x - 1)) from mk_inc, q_or_add (by rw [← h83]; exact hrl) (by omega), ← h83]
      have e6 : rowN o + 8 ^ o.length * sg (x - 1) = rowN (o ++ [sg (x - 1)]) := by
        rw [rowN_append]
        congr 2
        show sg (x - 1) = 0 * 8 + sg (x - 1)
        omega
      rw [e6, row_on o (sg (x - 1)), i _ _ (fun y hy => by
        rcases List.mem_append.mp hy with z | z
        · exact ho y z
        · rcases List.mem_singleton.mp z with rfl
          omega) (by rw [List.length_append]; simp; omega), List.append_assoc]
      rfl
theorem c_signsOf (d : Nat) {sg : Nat → Nat} (hs : okS sg) {h : z_H} {t : Nat} (hg : ∀ s, s < 6 → gI h 6391 t s = mkI (sg s)) {w : List Nat} (hw : isW w) : Rn (d + 1) 5 [z_I (nI (rowN w)), z_R 6391 t] h = some (some (z_I (nI (rowN (signW sg w)))), h) := by
  rw [rX6_signsOf, bX6_signsOf_0]
  have := c_signsOf_loop d hs hg w [] [] z_U hw.2 hw.1 (fun x hx => by cases hx) (by simpa using hw.1)
  exact this
/-- the reference's signs of a tongue -/
def mSg (h : z_H) (t : Nat) (sg : Nat → Nat) : Prop := ∀ s, s < 6 → gI h 48521 0 (6 * t + s) = mkI (sg s)
theorem m_writtenIn_loop (d : Nat) {h : z_H} (m : mOK h) {sg : Nat → Nat} (hs : okS sg) {t : Nat} (ht : t < 8) (hg : mSg h t sg) {w : List Nat} (hw : isW w) (hW : mW h w) : ∀ (r l : List Nat) (n : Nat) (u : z_V), w = l ++ r → EX d 184 4 [z_R 49100 0, z_I (nI t), z_I (nI n), z_I (nI l.length), u] [] h = some (some (z_I (nI ((signW sg r).foldl (fun a x => a * 7 + x) n))), h) := by
  intro r
  induction r with
  | nil =>
    intro l n u e
    rw [List.append_nil] at e
    subst e
    have := hw.1
    simp (disch := first | omega | rfl | assumption) only [bX11_writtenIn_4, hW.1, bX11_writtenIn_55, q_cl, q_ps, q_pn, bI_t, bI_f, gI_same, gI_ne, gR_pI, gJ_pI, gV_pI, gN_pI, gC_pI, gS_pI, gI_pJ, gR_pJ, gV_pJ, gN_pJ, gJ_same, gJ_ne, gI_pR, gJ_pR, gV_pR, gN_pR, gR_same, gR_ne, zin_t, zin_f, x_ltt, x_ltf, x_let, x_lef, x_eqt, x_eqf, n_0, n_1, n_2, n_3, n_4, n_5, n_6, n_7, n_8, n_9, n_10, n_11, n_12, n_16, n_19, n_20, n_24, n_25, n_32, n_40, n_48, n_50, n_60, n_64, n_80, n_96, n_114, n_684, n_1000, n_9330, n_16806, n_1000000, n_5764800, ↓n_m, m_ltI, m_leI, m_lt', m_le', m_eq, m_eq', m_add, m_sub, mm_lt, mm_le, mm_eq, q_sub, nI_add, q_mul, nI_clamp, bz_0, bz_1, q_bzb, b_0, b_1, b_ft, b_tf, ne_eq, not_true_eq_false, not_false_eq_true, decide_true, decide_false, Bool.and_self, Bool.false_and, Bool.and_false, Bool.and_true, Bool.true_and, Bool.not_true, Bool.not_false, ↓reduceIte]
    rfl
  | cons x r ih =>
    intro l n u e
    have hl : l.length < w.length := by rw [e]; simp
    have h8 := hw.1
    have hx : w[l.length]? = some x := by rw [e, List.getElem?_append_right (Nat.le_refl _), Nat.sub_self]; rfl
    have hx1 := hw.2 x (List.mem_of_getElem? hx)
    have hs1 := hs (x - 1) (by omega)
    have e4 : nI l.length + nI 1 = nI (l ++ [x]).length := by rw [nI_add, List.length_append]; rfl
    have hn := fun n u => ih (l ++ [x]) n u (by rw [e, List.append_assoc]; rfl)
    have e5 : (l ++ [x]).length = l.length + 1 := by simp
    rw [e5] at hn
    rw [signW_cons, bX11_writtenIn_4]
    by_cases h0 : sg (x - 1) = 0
    · simp (disch := first | omega | rfl | assumption) only [hW.1, m 13 rfl, m 36 rfl, hW.2 _ _ hx, hg (x - 1) (by omega), h0, mk_0, bX11_writtenIn_48, q_cl, q_ps, q_pn, bI_t, bI_f, gI_same, gI_ne, gR_pI, gJ_pI, gV_pI, gN_pI, gC_pI, gS_pI, gI_pJ, gR_pJ, gV_pJ, gN_pJ, gJ_same, gJ_ne, gI_pR, gJ_pR, gV_pR, gN_pR, gR_same, gR_ne, zin_t, zin_f, x_ltt, x_ltf, x_let, x_lef, x_eqt, x_eqf, n_0, n_1, n_2, n_3, n_4, n_5, n_6, n_7, n_8, n_9, n_10, n_11, n_12, n_16, n_19, n_20, n_24, n_25, n_32, n_40, n_48, n_50, n_60, n_64, n_80, n_96, n_114, n_684, n_1000, n_9330, n_16806, n_1000000, n_5764800, ↓n_m, m_ltI, m_leI, m_lt', m_le', m_eq, m_eq', m_add, m_sub, mm_lt, mm_le, mm_eq, q_sub, nI_add, q_mul, nI_clamp, bz_0, bz_1, q_bzb, b_0, b_1, b_ft, b_tf, ne_eq, not_true_eq_false, not_false_eq_true, decide_true, decide_false, Bool.and_self, Bool.false_and, Bool.and_false, Bool.and_true, Bool.true_and, Bool.not_true, Bool.not_false, ↓reduceIte]
      exact hn _ _
    · simp (disch := first | omega | rfl | assumption) only [hW.1, m 13 rfl, m 36 rfl, hW.2 _ _ hx, hg (x - 1) (by omega), mkI_pos (show 1 ≤ sg (x - 1) by omega), bX11_writtenIn_39, bX11_writtenIn_48, h0, q_cl, q_ps, q_pn, bI_t, bI_f, gI_same, gI_ne, gR_pI, gJ_pI, gV_pI, gN_pI, gC_pI, gS_pI, gI_pJ, gR_pJ, gV_pJ, gN_pJ, gJ_same, gJ_ne, gI_pR, gJ_pR, gV_pR, gN_pR, gR_same, gR_ne, zin_t, zin_f, x_ltt, x_ltf, x_let, x_lef, x_eqt, x_eqf, n_0, n_1, n_2, n_3, n_4, n_5, n_6, n_7, n_8, n_9, n_10, n_11, n_12, n_16, n_19, n_20, n_24, n_25, n_32, n_40, n_48, n_50, n_60, n_64, n_80, n_96, n_114, n_684, n_1000, n_9330, n_16806, n_1000000, n_5764800, ↓n_m, m_ltI, m_leI, m_lt', m_le', m_eq, m_eq', m_add, m_sub, mm_lt, mm_le, mm_eq, q_sub, nI_add, q_mul, nI_clamp, bz_0, bz_1, q_bzb, b_0, b_1, b_ft, b_tf, ne_eq, not_true_eq_false, not_false_eq_true, decide_true, decide_false, Bool.and_self, Bool.false_and, Bool.and_false, Bool.and_true, Bool.true_and, Bool.not_true, Bool.not_false, ↓reduceIte]
      rw [hn, List.foldl_cons]
      congr 5
      congr 1
      omega
theorem m_writtenIn (d : Nat) {h : z_H} (m : mOK h) {sg : Nat → Nat} (hs : okS sg) {t : Nat} (ht : t < 8) (hg : mSg h t sg) {w : List Nat} (hw : isW w) (hW : mW h w) : Rn (d + 1) 184 [z_R 49100 0, z_I (nI t)] h = some (some (z_I (nI (wN (signW sg w)))), h) := by
  rw [rX11_writtenIn, bX11_writtenIn_0, ← wN_fold]
  exact m_writtenIn_loop d m hs ht hg hw hW w [] 0 z_U rfl
/-! bits -/
def bs (g : Nat → Bool) : Nat → Nat
  | 0 => 0
  | n + 1 => bs g n + (if g n then 2 ^ n else 0)
theorem bs_lt (g : Nat → Bool) : ∀ n, bs g n < 2 ^ n := by
  intro n
  induction n with
  | zero => exact Nat.one_pos
  | succ n ih =>
    show bs g n + (if g n then 2 ^ n else 0) < 2 ^ (n + 1)
    rw [Nat.pow_succ]
    split <;> omega
theorem bs_bit (g : Nat → Bool) : ∀ n k, (bs g n).testBit k = (decide (k < n) && g k) := by
  intro n
  induction n with
  | zero => intro k; simp [bs]
  | succ n ih =>
    intro k
    have hl := bs_lt g n
    show (bs g n + (if g n then 2 ^ n else 0)).testBit k = _
    have e : bs g n + (if g n then 2 ^ n else 0) = 2 ^ n * (if g n then 1 else 0) + bs g n := by split <;> omega
    rw [e, Nat.two_pow_add_eq_or_of_lt hl, Nat.testBit_or, ih k, Nat.testBit_two_pow_mul]
    by_cases hk : k < n
    · have : ¬ k ≥ n := by omega
      simp [hk, this, show k < n + 1 by omega]
    · by_cases hk2 : k = n
      · subst hk2
        cases g k <;> simp
      · have h1 : ¬ k < n + 1 := by omega
        have h2 : (if g n = true then 1 else 0 : Nat).testBit (k - n) = false := Nat.testBit_lt_two_pow (by
          have : 2 ^ 1 ≤ 2 ^ (k - n) := Nat.pow_le_pow_right (by decide) (by omega)
          split <;> omega)
        simp [hk, h1, h2]
theorem bs_step (g : Nat → Bool) {n : Nat} (hn : n < 31) (b : Bool) (hb : b = g n) : nI (bs g n) ||| (bI b <<< (nI n &&& 31)) = nI (bs g (n + 1)) := by
  have e : bI b = nI (if b then 1 else 0) := by cases b <;> rfl
  rw [e, q_or_add (bs_lt g n) (by omega), hb]
  show _ = nI (bs g n + (if g n then 2 ^ n else 0))
  congr 1
  cases g n <;> simp
theorem bs_congr {g g' : Nat → Bool} : ∀ n, (∀ k, k < n → g k = g' k) → bs g n = bs g' n := by
  intro n
  induction n with
  | zero => intro _; rfl
  | succ n ih =>
    intro h
    show bs g n + (if g n then 2 ^ n else 0) = bs g' n + (if g' n then 2 ^ n else 0)
    rw [ih (fun k hk => h k (by omega)), h n (by omega)]
theorem bs_more (g : Nat → Bool) (n : Nat) : ∀ m, (∀ k, n ≤ k → k < n + m → g k = false) → bs g (n + m) = bs g n := by
  intro m
  induction m with
  | zero => intro _; rfl
  | succ m ih =>
    intro h
    show bs g (n + m) + (if g (n + m) then 2 ^ (n + m) else 0) = _
    rw [ih (fun k h1 h2 => h k h1 (by omega)), h (n + m) (by omega) (by omega)]
    rfl
theorem nB_at (g : Nat → Bool) {k : Nat} (hk : k < 8) : nI (nB g / 2 ^ (3 * k)) &&& 1 = bI (g k) := by
  have e1 : (1 : Int32) = nI 1 := rfl
  rw [e1, q_and, show (nB g / 2 ^ (3 * k)) &&& 1 = nB g / 2 ^ (3 * k) % 2 from Nat.and_two_pow_sub_one_eq_mod _ 1]
  have e2 : (nB g).testBit (3 * k) = decide (nB g / 2 ^ (3 * k) % 2 = 1) := Nat.testBit_eq_decide_div_mod_eq
  rw [nB_bit] at e2
  simp only [show 3 * k < 24 by omega, decide_true, Bool.true_and, show 3 * k % 3 = 0 by omega, show 3 * k / 3 = k by omega] at e2
  rw [e2]
  by_cases hz : nB g / 2 ^ (3 * k) % 2 = 1
  · simp [hz]; rfl
  · have : nB g / 2 ^ (3 * k) % 2 = 0 := by omega
    rw [this]; rfl
theorem c_bitsOf_loop (d : Nat) (g : Nat → Bool) (h : z_H) : ∀ (m k : Nat), k + m = 8 → EX d 4 4 [z_I (nI (nB g)), z_I (nI (bs g k)), z_I (nI k)] [] h = some (some (z_I (nI (bs g 8))), h) := by
  have hB := nB_lt g
  intro m
  induction m with
  | zero =>
    intro k hk
    have : k = 8 := by omega
    subst this
    simp (disch := first | omega | rfl | assumption) only [bX6_bitsOf_4, bX6_bitsOf_28, q_cl, q_ps, q_pn, bI_t, bI_f, gI_same, gI_ne, gR_pI, gJ_pI, gV_pI, gN_pI, gC_pI, gS_pI, gI_pJ, gR_pJ, gV_pJ, gN_pJ, gJ_same, gJ_ne, gI_pR, gJ_pR, gV_pR, gN_pR, gR_same, gR_ne, zin_t, zin_f, x_ltt, x_ltf, x_let, x_lef, x_eqt, x_eqf, n_0, n_1, n_2, n_3, n_4, n_5, n_6, n_7, n_8, n_9, n_10, n_11, n_12, n_16, n_19, n_20, n_24, n_25, n_32, n_40, n_48, n_50, n_60, n_64, n_80, n_96, n_114, n_684, n_1000, n_9330, n_16806, n_1000000, n_5764800, ↓n_m, m_ltI, m_leI, m_lt', m_le', m_eq, m_eq', m_add, m_sub, mm_lt, mm_le, mm_eq, q_sub, nI_add, q_mul, nI_clamp, bz_0, bz_1, q_bzb, b_0, b_1, b_ft, b_tf, ne_eq, not_true_eq_false, not_false_eq_true, decide_true, decide_false, Bool.and_self, Bool.false_and, Bool.and_false, Bool.and_true, Bool.true_and, Bool.not_true, Bool.not_false, ↓reduceIte]
  | succ m ih =>
    intro k hk
    have e3 : nI k * 3 = nI (3 * k) := by rw [show (3 : Int32) = nI 3 from rfl, q_mul, Nat.mul_comm]
    rw [bX6_bitsOf_4, if_neg (by rw [show (8 : Int32) = nI 8 from rfl, nI_leI (by omega) (by omega)]; omega), e3, q_shr3 (by omega) (by omega), nB_at g (by omega), bs_step g (by omega) _ rfl, nI_1]
    exact ih (k + 1) (by omega)
theorem c_bitsOf (d : Nat) (g : Nat → Bool) (h : z_H) : Rn (d + 1) 4 [z_I (nI (nB g))] h = some (some (z_I (nI (bs g 8))), h) := by
  rw [rX6_bitsOf, bX6_bitsOf_0]
  exact c_bitsOf_loop d g h 8 0 rfl
