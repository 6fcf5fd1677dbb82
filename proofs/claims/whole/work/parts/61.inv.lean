/-! ===== what belongs together in the heap, and frames ===== -/
/-- 0 findings, 1 vowels, 2 laws, 3 tongues, 4 forms, 5 finds, 6 pairs, 7 roads, 8 waves, 9 arrivals, 10 the list, 11 sheets, 12 scratch, 13 the tape, 14 what never changes, 15 off, 16 stale forms -/
def grp (p i k : Nat) : Nat :=
  if p = 10090 then (if k = 9 then 0 else if k = 8 then 1 else if k = 7 then 2 else 14)
  else if p = 49100 then (if k = 35 then 0 else if k = 0 then 1 else if k = 1 then 2 else if k = 9 then 3 else if k = 14 ∨ k = 15 then 5 else if k = 20 ∨ k = 23 ∨ k = 44 then 6 else if k = 26 then 8 else if k = 30 then 10 else if k = 8 then 13 else if k = 37 ∨ k = 39 then 12 else if k = 40 then 15 else 14)
  else if p = 24415 ∨ p = 3040 ∨ p = 9301 then 2
  else if p = 6000 then (if i < 100 then 2 else 12)
  else if p = 25431 ∨ p = 25441 then (if k < 24 then 2 else 12)
  else if p = 50453 ∨ p = 50461 ∨ p = 50471 then (if k < 48 then 2 else 12)
  else if p = 9010 then (if k = 2 then 3 else if k = 3 ∨ k = 4 then 4 else if k = 5 then 12 else 14)
  else if p = 7080 then (if k = 5 then 4 else if k = 6 then 16 else 3)
  else if p = 8115 ∨ p = 6385 ∨ p = 6391 ∨ p = 8491 ∨ p = 8501 ∨ p = 48511 ∨ p = 48521 then 3
  else if p = 9330131 ∨ p = 9330404 then 4
  else if p = 6020 then (if k < 2 then 5 else 14)
  else if p = 60181 ∨ p = 60191 ∨ p = 60201 ∨ p = 60211 ∨ p = 60531 ∨ p = 60541 ∨ p = 60551 ∨ p = 60561 then 5
  else if p = 8050 then (if k < 3 then 6 else 14)
  else if p = 6311 ∨ p = 6321 ∨ p = 6331 ∨ p = 6571 ∨ p = 6581 ∨ p = 2731 then 6
  else if p = 64231 ∨ p = 64591 ∨ p = 8241 ∨ p = 8601 then 7
  else if p = 11030 then (if k = 0 then 8 else if k = 3 then 9 else if k = 1 then 10 else 14)
  else if p = 8255 ∨ p = 8261 ∨ p = 8271 ∨ p = 8611 ∨ p = 8621 ∨ p = 8631 then 8
  else if p = 64221 then 9
  else if p = 12281 ∨ p = 12641 then 10
  else if p = 3060 then (if k < 2 then 11 else 14)
  else if p = 12351 ∨ p = 4651 ∨ p = 4661 ∨ p = 48671 then 11
  else if p = 40362 ∨ p = 40481 then 13
  else if p = 4070 then (if k = 2 then 13 else if k = 3 then 12 else 14)
  else if p = 8681 ∨ p = 16691 ∨ p = 80701 ∨ p = 8711 ∨ p = 8721 ∨ p = 6741 ∨ p = 64751 ∨ p = 12761 ∨ p = 8121 ∨ p = 9330141 ∨ p = 8151 ∨ p = 8161 ∨ p = 80171 ∨ p = 6341 ∨ p = 96291 ∨ p = 9371 then 12
  else 14
/-- which pools and sites are laws' (2), tongues' (3), forms' (4) -/
def grpP (p : Nat) : Nat := if p = 3040 ∨ p = 9301 ∨ p = 6000 then 2 else if p = 7080 ∨ p = 6385 ∨ p = 6391 then 3 else if p = 9330131 ∨ p = 9330141 ∨ p = 9330404 then 4 else 14
def grpS (s : Nat) : Nat := if s = 51 ∨ s = 30 ∨ s = 31 then 2 else if s = 15 ∨ s = 40 ∨ s = 41 then 3 else if s = 16 ∨ s = 17 ∨ s = 42 then 4 else 14
/-- only things of the groups S have changed -/
def frX (S : List Nat) (h h' : z_H) : Prop :=
  (∀ p i k, grp p i k ∉ S → gI h' p i k = gI h p i k) ∧ (∀ p i k, grp p i k ∉ S → gR h' p i k = gR h p i k) ∧ (∀ p i k, grp p i k ∉ S → gJ h' p i k = gJ h p i k) ∧ (∀ p i, grpP p ∉ S → gV h' p i = gV h p i) ∧ (∀ s, grpS s ∉ S → gN h' s = gN h s) ∧ (2 ∉ S → 3 ∉ S → 4 ∉ S → gC h' = gC h ∧ gS h' = gS h)
theorem frX_rfl (S : List Nat) (h : z_H) : frX S h h := ⟨fun _ _ _ _ => rfl, fun _ _ _ _ => rfl, fun _ _ _ _ => rfl, fun _ _ _ => rfl, fun _ _ => rfl, fun _ _ _ => ⟨rfl, rfl⟩⟩
theorem frX_trans {S : List Nat} {a b c : z_H} (h1 : frX S a b) (h2 : frX S b c) : frX S a c := by
  obtain ⟨a1, a2, a3, a4, a5, a6⟩ := h1
  obtain ⟨b1, b2, b3, b4, b5, b6⟩ := h2
  exact ⟨fun p i k q => (b1 p i k q).trans (a1 p i k q), fun p i k q => (b2 p i k q).trans (a2 p i k q), fun p i k q => (b3 p i k q).trans (a3 p i k q), fun p i q => (b4 p i q).trans (a4 p i q), fun s q => (b5 s q).trans (a5 s q), fun x y z => ⟨(b6 x y z).1.trans (a6 x y z).1, (b6 x y z).2.trans (a6 x y z).2⟩⟩
theorem frX_mono {S T : List Nat} (hST : ∀ x ∈ S, x ∈ T) {a b : z_H} (h : frX S a b) : frX T a b := by
  obtain ⟨a1, a2, a3, a4, a5, a6⟩ := h
  exact ⟨fun p i k q => a1 p i k (fun z => q (hST _ z)), fun p i k q => a2 p i k (fun z => q (hST _ z)), fun p i k q => a3 p i k (fun z => q (hST _ z)), fun p i q => a4 p i (fun z => q (hST _ z)), fun s q => a5 s (fun z => q (hST _ z)), fun x y z => a6 (fun q => x (hST _ q)) (fun q => y (hST _ q)) (fun q => z (hST _ q))⟩
/-- from a frame over ints alone -/
theorem frX_fr {P : Nat → Nat → Nat → Prop} {S : List Nat} {h h' : z_H} (f : fr P h h') (hP : ∀ p i k, P p i k → grp p i k ∈ S) : frX S h h' := by
  obtain ⟨f1, f2⟩ := f
  refine ⟨fun p i k q => f2 p i k (fun z => q (hP p i k z)), fun p i k _ => ?_, fun p i k _ => ?_, fun p i _ => ?_, fun s _ => ?_, fun _ _ _ => ⟨?_, ?_⟩⟩
  · unfold gR; rw [f1]
  · unfold gJ; rw [f1]
  · unfold gV; rw [f1]
  · unfold gN; rw [f1]
  · unfold gC; rw [f1]
  · unfold gS; rw [f1]
theorem frX_pI {S : List Nat} {p i k : Nat} (hg : grp p i k ∈ S) (h : z_H) (v : Int32) : frX S h (pI h p i k v) := frX_fr (P := fun q j n => q = p ∧ j = i ∧ n = k) (fr_pI h v ⟨rfl, rfl, rfl⟩) (fun q j n z => by obtain ⟨rfl, rfl, rfl⟩ := z; exact hg)
/-! the class's own parts that never change -/
def cAr (p k : Nat) : Bool := [(10090, 0), (10090, 1), (10090, 2), (10090, 3), (10090, 4), (10090, 5), (10090, 6), (9010, 0), (9010, 1), (9010, 6), (9010, 7), (9010, 8), (6020, 2), (6020, 3), (6020, 4), (6020, 5), (11030, 2), (11030, 4), (11030, 5), (11030, 6), (11030, 7), (11030, 8), (11030, 9), (11030, 10), (8050, 3), (8050, 4), (8050, 5), (8050, 6), (4070, 0), (4070, 1)].contains (p, k)
def cOK (h : z_H) : Prop := (∀ p k, cAr p k = true → gR h p 0 k = 1) ∧ gR h 8050 0 7 = 101 ∧ ∀ s, s < 4 → gR h 4425 0 s = s + 1 ∧ gR h 3060 s 2 = s + 1
theorem cAr_g : ∀ p k, cAr p k = true → grp p 0 k = 14 := by
  intro p k h
  have : (p, k) ∈ [(10090, 0), (10090, 1), (10090, 2), (10090, 3), (10090, 4), (10090, 5), (10090, 6), (9010, 0), (9010, 1), (9010, 6), (9010, 7), (9010, 8), (6020, 2), (6020, 3), (6020, 4), (6020, 5), (11030, 2), (11030, 4), (11030, 5), (11030, 6), (11030, 7), (11030, 8), (11030, 9), (11030, 10), (8050, 3), (8050, 4), (8050, 5), (8050, 6), (4070, 0), (4070, 1)] := List.contains_iff_mem.mp h
  have hall : ∀ x ∈ [(10090, 0), (10090, 1), (10090, 2), (10090, 3), (10090, 4), (10090, 5), (10090, 6), (9010, 0), (9010, 1), (9010, 6), (9010, 7), (9010, 8), (6020, 2), (6020, 3), (6020, 4), (6020, 5), (11030, 2), (11030, 4), (11030, 5), (11030, 6), (11030, 7), (11030, 8), (11030, 9), (11030, 10), (8050, 3), (8050, 4), (8050, 5), (8050, 6), (4070, 0), (4070, 1)], grp x.1 0 x.2 = 14 := by decide
  exact hall (p, k) this
theorem mAr_g : ∀ k, mAr k = true → grp 49100 0 k = 14 := by
  intro k h
  have hall : ∀ x ∈ [2, 3, 4, 5, 6, 7, 10, 11, 12, 13, 16, 17, 18, 19, 21, 22, 24, 25, 27, 28, 29, 31, 32, 33, 34, 36, 38, 41, 42, 43, 45, 46, 47, 48], grp 49100 0 x = 14 := by decide
  exact hall k (List.contains_iff_mem.mp h)
theorem frX_mOK {S : List Nat} (h14 : 14 ∉ S) {h h' : z_H} (f : frX S h h') (m : mOK h) : mOK h' := fun k hk => (f.2.1 _ _ _ (by rw [mAr_g k hk]; exact h14)).trans (m k hk)
theorem frX_cOK {S : List Nat} (h14 : 14 ∉ S) {h h' : z_H} (f : frX S h h') (m : cOK h) : cOK h' := by
  obtain ⟨m1, m2, m3⟩ := m
  refine ⟨fun p k hk => (f.2.1 _ _ _ (by rw [cAr_g p k hk]; exact h14)).trans (m1 p k hk), (f.2.1 _ _ _ (by exact h14)).trans m2, fun s hs => ⟨(f.2.1 _ _ _ (by exact h14)).trans (m3 s hs).1, (f.2.1 _ _ _ (by exact h14)).trans (m3 s hs).2⟩⟩
/-! ghosts: 0 vowels, 1 how many laws, 2 laws, 3 how many tongues, 4 above + 1, 5 chains, 6 own laws, 7 signs + 1 -/
abbrev Gh : Type := Nat × Nat × (Nat → Lw) × Nat × (Nat → Nat) × (Nat → Nat) × (Nat → List Nat) × (Nat → Nat → Nat)
abbrev gvV (G : Gh) : Nat := G.1
abbrev gnL (G : Gh) : Nat := G.2.1
abbrev gLF (G : Gh) : Nat → Lw := G.2.2.1
abbrev gnT (G : Gh) : Nat := G.2.2.2.1
abbrev gab (G : Gh) : Nat → Nat := G.2.2.2.2.1
abbrev gch (G : Gh) : Nat → Nat := G.2.2.2.2.2.1
abbrev gow (G : Gh) : Nat → List Nat := G.2.2.2.2.2.2.1
abbrev gsg (G : Gh) : Nat → Nat → Nat := G.2.2.2.2.2.2.2
def iVw (h : z_H) (V : Nat) : Prop := gI h 10090 0 8 = nI V ∧ gI h 49100 0 0 = nI V ∧ V < 64
def kdL (L : Lw) : Nat := if L 1 = 0 then 1 else if L 1 < 7 then 0 else if L 0 ≤ 6 ∧ L 1 = 8 * L 0 then 3 else 2
def mLs (h : z_H) (j : Nat) (L : Lw) : Prop := gI h 25431 0 j = mkI (L 0) ∧ gI h 25441 0 j = nI (L 1) ∧ gI h 50453 0 (2 * j) = nI (L 2) ∧ gI h 50453 0 (2 * j + 1) = nI (L 5) ∧ gI h 50461 0 (2 * j) = mkI (L 3) ∧ gI h 50471 0 (2 * j) = mkI (L 4) ∧ gI h 50461 0 (2 * j + 1) = mkI (L 6) ∧ gI h 50471 0 (2 * j + 1) = mkI (L 7)
theorem mLs_mL {h : z_H} {j : Nat} {L : Lw} (m : mLs h j L) : mL h j L := ⟨m.1, m.2.1, m.2.2.1, m.2.2.2.1, fun _ => ⟨m.2.2.2.2.1, m.2.2.2.2.2.1⟩, fun _ => ⟨m.2.2.2.2.2.2.1, m.2.2.2.2.2.2.2⟩⟩
def lwJ (h : z_H) (V j : Nat) (L : Lw) : Prop := nmL L ∧ gR h 24415 0 j = j + 1 ∧ gI h 3040 j 0 = nI j ∧ gR h 3040 j 1 = j + 1 ∧ gR h 3040 j 2 = j + 1 ∧ fcL h 9301 j L ∧ gI h 9301 j 0 = nI (kdL L) ∧ cC h j V L ∧ mLs h j L
def iLaw (h : z_H) (V n : Nat) (LF : Nat → Lw) : Prop := gI h 10090 0 7 = nI n ∧ gI h 49100 0 1 = nI n ∧ n ≤ 24 ∧ (∀ j, j < n → lwJ h V j (LF j)) ∧ gN h 51 = n ∧ gN h 30 = n ∧ gN h 31 = n ∧ ∀ i, n ≤ i → i < 100 → gV h 3040 i = false ∧ gV h 9301 i = false ∧ gV h 6000 i = false
def tgT (h : z_H) (nL t : Nat) (a c : Nat) (ow : List Nat) (sg : Nat → Nat) : Prop :=
  gR h 8115 0 t = t + 1 ∧ gI h 7080 t 0 = mkI a ∧ gI h 7080 t 1 = nI c ∧ gR h 7080 t 2 = t + 1 ∧ gR h 7080 t 3 = t + 1 ∧ gI h 7080 t 4 = nI ow.length ∧ ow.length ≤ 6 ∧ (∀ (i x : Nat), ow[i]? = some x → x < nL ∧ gR h 6385 t i = x + 1 ∧ gI h 48511 0 (6 * t + i) = nI x) ∧ okS sg ∧ (∀ s, s < 6 → gI h 6391 t s = mkI (sg s)) ∧ gI h 8491 0 t = mkI a ∧ gI h 8501 0 t = nI ow.length ∧ mSg h t sg
def iTon (h : z_H) (G : Gh) : Prop := gI h 9010 0 2 = nI (gnT G) ∧ gI h 49100 0 9 = nI (gnT G) ∧ gnT G ≤ 8 ∧ (∀ t, t < gnT G → tgT h (gnL G) t (gab G t) (gch G t) (gow G t) (gsg G t)) ∧ (∀ t, gab G t ≤ t ∧ gch G t = (if gab G t = 0 then 0 else gch G (gab G t - 1)) + 2 ^ t) ∧ (∀ t, gnT G ≤ t → t < 8 → gI h 8501 0 t = 0) ∧ gN h 15 = gnT G ∧ gN h 40 = gnT G ∧ gN h 41 = gnT G ∧ ∀ i, gnT G ≤ i → gV h 7080 i = false ∧ gV h 6385 i = false ∧ gV h 6391 i = false
/-! frames of the groups -/
theorem iVw_fr {S : List Nat} (h1 : 1 ∉ S) {h h' : z_H} (f : frX S h h') {V : Nat} (m : iVw h V) : iVw h' V := ⟨(f.1 _ _ _ (by exact h1)).trans m.1, (f.1 _ _ _ (by exact h1)).trans m.2.1, m.2.2⟩
theorem g_6000 {r k : Nat} (hr : r < 100) : grp 6000 r k = 2 := by
  show (if r < 100 then 2 else 12) = 2
  rw [if_pos hr]
theorem g_25 {k : Nat} (hk : k < 24) : grp 25431 0 k = 2 ∧ grp 25441 0 k = 2 := by
  constructor <;> (show (if k < 24 then 2 else 12) = 2; rw [if_pos hk])
theorem g_50 {k : Nat} (hk : k < 48) : grp 50453 0 k = 2 ∧ grp 50461 0 k = 2 ∧ grp 50471 0 k = 2 := by
  refine ⟨?_, ?_, ?_⟩ <;> (show (if k < 48 then 2 else 12) = 2; rw [if_pos hk])
theorem lwJ_fr {S : List Nat} (h2 : 2 ∉ S) {h h' : z_H} (f : frX S h h') {V j : Nat} (hj : j < 24) {L : Lw} (m : lwJ h V j L) : lwJ h' V j L := by
  obtain ⟨a1, a2, a3, a4, a5, ⟨c1, c2, c3, c4, c5, c6, c7, c8⟩, a7, ⟨d0, d1, d2, d3, d4, d5⟩, e1, e2, e3, e4, e5, e6, e7, e8⟩ := m
  have g6 : ∀ k, grp 6000 j k ∉ S := fun k => by rw [g_6000 (by omega)]; exact h2
  have g1 := g_25 (k := j) hj
  have g2 := g_50 (k := 2 * j) (by omega)
  have g3 := g_50 (k := 2 * j + 1) (by omega)
  have f1 := f.1
  have f2 := f.2.1
  refine ⟨a1, (f2 _ _ _ (by exact h2)).trans a2, (f1 _ _ _ (by exact h2)).trans a3, (f2 _ _ _ (by exact h2)).trans a4, (f2 _ _ _ (by exact h2)).trans a5, ⟨(f1 _ _ _ (by exact h2)).trans c1, (f1 _ _ _ (by exact h2)).trans c2, (f1 _ _ _ (by exact h2)).trans c3, (f1 _ _ _ (by exact h2)).trans c4, (f1 _ _ _ (by exact h2)).trans c5, (f1 _ _ _ (by exact h2)).trans c6, (f1 _ _ _ (by exact h2)).trans c7, (f1 _ _ _ (by exact h2)).trans c8⟩, (f1 _ _ _ (by exact h2)).trans a7, ⟨(f1 _ _ _ (g6 _)).trans d0, (f1 _ _ _ (g6 _)).trans d1, (f1 _ _ _ (g6 _)).trans d2, (f1 _ _ _ (g6 _)).trans d3, (f1 _ _ _ (g6 _)).trans d4, (f1 _ _ _ (g6 _)).trans d5⟩, (f1 _ _ _ (by rw [g1.1]; exact h2)).trans e1, (f1 _ _ _ (by rw [g1.2]; exact h2)).trans e2, (f1 _ _ _ (by rw [g2.1]; exact h2)).trans e3, (f1 _ _ _ (by rw [g3.1]; exact h2)).trans e4, (f1 _ _ _ (by rw [g2.2.1]; exact h2)).trans e5, (f1 _ _ _ (by rw [g2.2.2]; exact h2)).trans e6, (f1 _ _ _ (by rw [g3.2.1]; exact h2)).trans e7, (f1 _ _ _ (by rw [g3.2.2]; exact h2)).trans e8⟩
theorem iLaw_fr {S : List Nat} (h2 : 2 ∉ S) {h h' : z_H} (f : frX S h h') {V n : Nat} {LF : Nat → Lw} (m : iLaw h V n LF) : iLaw h' V n LF := by
  obtain ⟨a1, a2, a3, a4, a5, a6, a7, a8⟩ := m
  refine ⟨(f.1 _ _ _ (by exact h2)).trans a1, (f.1 _ _ _ (by exact h2)).trans a2, a3, fun j hj => lwJ_fr h2 f (by omega) (a4 j hj), (f.2.2.2.2.1 _ (by exact h2)).trans a5, (f.2.2.2.2.1 _ (by exact h2)).trans a6, (f.2.2.2.2.1 _ (by exact h2)).trans a7, fun i h1 h3 => ?_⟩
  obtain ⟨b1, b2, b3⟩ := a8 i h1 h3
  exact ⟨(f.2.2.2.1 _ _ (by exact h2)).trans b1, (f.2.2.2.1 _ _ (by exact h2)).trans b2, (f.2.2.2.1 _ _ (by exact h2)).trans b3⟩
theorem tgT_fr {S : List Nat} (h3 : 3 ∉ S) {h h' : z_H} (f : frX S h h') {nL t a c : Nat} {ow : List Nat} {sg : Nat → Nat} (m : tgT h nL t a c ow sg) : tgT h' nL t a c ow sg := by
  obtain ⟨a1, a2, a3, a4, a5, a6, a7, a8, a9, b1, b2, b3, b4⟩ := m
  have f1 := f.1
  have f2 := f.2.1
  exact ⟨(f2 _ _ _ (by exact h3)).trans a1, (f1 _ _ _ (by exact h3)).trans a2, (f1 _ _ _ (by exact h3)).trans a3, (f2 _ _ _ (by exact h3)).trans a4, (f2 _ _ _ (by exact h3)).trans a5, (f1 _ _ _ (by exact h3)).trans a6, a7, fun i x hx => ⟨(a8 i x hx).1, (f2 _ _ _ (by exact h3)).trans (a8 i x hx).2.1, (f1 _ _ _ (by exact h3)).trans (a8 i x hx).2.2⟩, a9, fun s hs => (f1 _ _ _ (by exact h3)).trans (b1 s hs), (f1 _ _ _ (by exact h3)).trans b2, (f1 _ _ _ (by exact h3)).trans b3, fun s hs => (f1 _ _ _ (by exact h3)).trans (b4 s hs)⟩
theorem iTon_fr {S : List Nat} (h3 : 3 ∉ S) {h h' : z_H} (f : frX S h h') {G : Gh} (m : iTon h G) : iTon h' G := by
  obtain ⟨a1, a2, a3, a4, a5, a6, a7, a8, a9, b1⟩ := m
  refine ⟨(f.1 _ _ _ (by exact h3)).trans a1, (f.1 _ _ _ (by exact h3)).trans a2, a3, fun t ht => tgT_fr h3 f (a4 t ht), a5, fun t h1 h2 => (f.1 _ _ _ (by exact h3)).trans (a6 t h1 h2), (f.2.2.2.2.1 _ (by exact h3)).trans a7, (f.2.2.2.2.1 _ (by exact h3)).trans a8, (f.2.2.2.2.1 _ (by exact h3)).trans a9, fun i h1 => ?_⟩
  obtain ⟨c1, c2, c3⟩ := b1 i h1
  exact ⟨(f.2.2.2.1 _ _ (by exact h3)).trans c1, (f.2.2.2.1 _ _ (by exact h3)).trans c2, (f.2.2.2.1 _ _ (by exact h3)).trans c3⟩
