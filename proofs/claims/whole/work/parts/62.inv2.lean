/-! ===== pure meanings: forms, stems, waves, the fewest laws ===== -/
/-- own laws over a word; the law mu - 1 is muted -/
def ownR (V : Nat) (LF : Nat → Lw) (mu : Nat) (ls : List Nat) (w : List Nat) : List Nat := ls.foldl (fun w j => if j + 1 = mu then w else runW V (LF j) w) w
def frmF (G : Gh) (mu : Nat) : Nat → Nat → List Nat → List Nat
  | 0, _, w => w
  | f + 1, t, w => ownR (gvV G) (gLF G) mu (gow G t) (if gab G t = 0 then w else frmF G mu f (gab G t - 1) w)
/-- the form of a word in the tongue t -/
def frm (G : Gh) (mu t : Nat) (w : List Nat) : List Nat := frmF G mu (t + 1) t w
theorem frmF_fuel (G : Gh) (mu : Nat) (ha : ∀ t, gab G t ≤ t) : ∀ (f g t : Nat) (w : List Nat), t < f → t < g → frmF G mu f t w = frmF G mu g t w := by
  intro f
  induction f with
  | zero => intro g t w h; omega
  | succ f ih =>
    intro g t w h1 h2
    obtain ⟨g, rfl⟩ : ∃ k, g = k + 1 := ⟨g - 1, by omega⟩
    show ownR _ _ mu _ (if gab G t = 0 then w else frmF G mu f (gab G t - 1) w) = ownR _ _ mu _ (if gab G t = 0 then w else frmF G mu g (gab G t - 1) w)
    by_cases h0 : gab G t = 0
    · rw [if_pos h0, if_pos h0]
    · have := ha t
      rw [if_neg h0, if_neg h0, ih g (gab G t - 1) w (by omega) (by omega)]
theorem frm_eq (G : Gh) (mu : Nat) (ha : ∀ t, gab G t ≤ t) (t : Nat) (w : List Nat) : frm G mu t w = ownR (gvV G) (gLF G) mu (gow G t) (if gab G t = 0 then w else frm G mu (gab G t - 1) w) := by
  show ownR _ _ mu _ (if gab G t = 0 then w else frmF G mu t (gab G t - 1) w) = _
  by_cases h0 : gab G t = 0
  · rw [if_pos h0, if_pos h0]
  · have := ha t
    rw [if_neg h0, if_neg h0]
    congr 1
    exact frmF_fuel G mu ha t _ _ w (by omega) (by omega)
/-- what is written -/
def wrt (G : Gh) (mu t : Nat) (w : List Nat) : List Nat := signW (gsg G t) (frm G mu t w)
/-- the s-th stem -/
def stF : Nat → Nat → List Nat
  | 0, _ => []
  | f + 1, s => (if s < 6 then [] else stF f (s / 6 - 1)) ++ [s % 6 + 1]
def stW (s : Nat) : List Nat := stF (s + 1) s
/-- a simple law by its number -/
def sL (s : Nat) : Lw := smL (s / 114 + 1) (if s / 19 % 6 < s / 114 + 1 then s / 19 % 6 else s / 19 % 6 + 1) (s % 19)
def mkAll (V n s : Nat) (ws pt : Nat → List Nat) : Bool := (List.range n).all (fun p => runW V (sL s) (ws p) == pt p)
def fstS (V n : Nat) (ws pt : Nat → List Nat) : Option Nat := (List.range 684).find? (fun s => mkAll V n s ws pt)
def same (n : Nat) (ws pt : Nat → List Nat) : Bool := (List.range n).all (fun p => ws p == pt p)
def skR (V n : Nat) (pf pt : Nat → List Nat) : Option (List Nat) :=
  if same n pf pt then some []
  else match fstS V n pf pt with
    | some s => some [s]
    | none => match (List.range 684).find? (fun s => (fstS V n (fun p => runW V (sL s) (pf p)) pt).isSome) with
      | none => none
      | some s => some [s, ((fstS V n (fun p => runW V (sL s) (pf p)) pt).getD 0)]
/-- waves: the year in which one comes to a place; 1000000: never -/
def opn (sh : Nat → Nat) (p y : Nat) : Bool := sh p == 1000 || decide (y < sh p)
def arI (sh : Nat → Nat) (p0 y0 : Nat) : Nat → Nat := fun p => if p = p0 ∧ opn sh p0 y0 = true then y0 else 1000000
def arE (rd sh : Nat → Nat) (a b : Nat) (c : Nat → Nat) : Nat → Nat := if c a < 1000000 ∧ 0 < rd (8 * a + b) ∧ opn sh b (c a + rd (8 * a + b)) = true ∧ c a + rd (8 * a + b) < c b then (fun p => if p = b then c a + rd (8 * a + b) else c p) else c
def arB (rd sh : Nat → Nat) (a : Nat) : Nat → (Nat → Nat) → (Nat → Nat)
  | 0, c => c
  | n + 1, c => arE rd sh a n (arB rd sh a n c)
def arR (rd sh : Nat → Nat) : Nat → (Nat → Nat) → (Nat → Nat)
  | 0, c => c
  | n + 1, c => arB rd sh n 8 (arR rd sh n c)
def arN (rd sh : Nat → Nat) : Nat → (Nat → Nat) → (Nat → Nat)
  | 0, c => c
  | n + 1, c => arR rd sh 8 (arN rd sh n c)
def arr (rd sh : Nat → Nat) (p0 y0 : Nat) : Nat → Nat := arN rd sh 8 (arI sh p0 y0)
/-! ===== the rest of the invariant ===== -/
def numO (o : Option (List Nat)) : Int32 := match o with
  | none => -1
  | some w => nI (wN w)
def rowO (o : Option (List Nat)) : Int32 := match o with
  | none => -1
  | some w => nI (rowN w)
def okO (o : Option (List Nat)) : Prop := ∀ w, o = some w → isW w
def iFd (h : z_H) (e : Int32) : Prop := gI h 10090 0 9 = gI h 49100 0 35 + e
def iOff (h : z_H) : Prop := gI h 49100 0 40 = -1
def iTap (h : z_H) : Prop := ∃ (n : Nat) (tb : Nat → Nat), n ≤ 40 ∧ gI h 4070 0 2 = nI n ∧ gI h 49100 0 8 = nI n ∧ ∀ k, k < n → tb k < 256 ∧ gI h 40362 0 k = nI (tb k) ∧ gI h 40481 0 k = nI (tb k)
def iShe (h : z_H) : Prop := ∀ s, s < 4 → ∃ b z : Nat, (b = 0 ∨ b = 8 ∨ b = 16 ∨ b = 32) ∧ z ≤ 12 ∧ gI h 3060 s 0 = nI b ∧ gI h 4651 0 s = nI b ∧ gI h 3060 s 1 = nI z ∧ gI h 4661 0 s = nI z ∧ ∀ k, k < 12 → gI h 12351 s k = gI h 48671 0 (12 * s + k)
def iFnG (h : z_H) (nT nM nF : Nat) (fm ft fy : Nat → Nat) (fw : Nat → Option (List Nat)) : Prop := nM ≤ 10 ∧ nF ≤ 60 ∧ gI h 6020 0 0 = nI nM ∧ gI h 49100 0 14 = nI nM ∧ gI h 6020 0 1 = nI nF ∧ gI h 49100 0 15 = nI nF ∧ (∀ k, k < nF → fm k < 10 ∧ ft k < nT ∧ fy k < 1000 ∧ okO (fw k) ∧ gI h 60181 0 k = nI (fm k) ∧ gI h 60531 0 k = nI (fm k) ∧ gI h 60191 0 k = nI (ft k) ∧ gI h 60541 0 k = nI (ft k) ∧ gI h 60211 0 k = nI (fy k) ∧ gI h 60561 0 k = nI (fy k) ∧ gI h 60201 0 k = rowO (fw k) ∧ gI h 60551 0 k = numO (fw k)) ∧ ∀ k, k + 1 < nF → fy k ≤ fy (k + 1)
def iFnd (h : z_H) (nT : Nat) : Prop := ∃ (nM nF : Nat) (fm ft fy : Nat → Nat) (fw : Nat → Option (List Nat)), iFnG h nT nM nF fm ft fy fw
def s_fr (s : Nat) : Nat := s / 114
def s_to (s : Nat) : Nat := if s / 19 % 6 < s / 114 + 1 then s / 19 % 6 else s / 19 % 6 + 1
/-- what the class has found, and the reference -/
def cSk (h : z_H) (o : Option (List Nat)) : Prop := match o with
  | none => gI h 8050 0 1 = -1
  | some l => gI h 8050 0 1 = nI l.length ∧ ∀ (i s : Nat), l[i]? = some s → s < 684 ∧ gI h 6311 0 (3 * i) = nI (s_fr s) ∧ gI h 6311 0 (3 * i + 1) = mkI (s_to s) ∧ gI h 6311 0 (3 * i + 2) = nI (s % 19)
def mSk (h : z_H) (o : Option (List Nat)) : Prop := match o with
  | none => gI h 49100 0 44 = -1
  | some l => gI h 49100 0 44 = nI l.length ∧ ∀ (i s : Nat), l[i]? = some s → s < 684 ∧ gI h 2731 0 i = nI s
def iPrG (h : z_H) (V n : Nat) (pf pt : Nat → List Nat) : Prop := n ≤ 6 ∧ gI h 8050 0 0 = nI n ∧ gI h 49100 0 20 = nI n ∧ (∀ k, k < n → isW (pf k) ∧ isW (pt k) ∧ gI h 6321 0 k = nI (rowN (pf k)) ∧ gI h 6331 0 k = nI (rowN (pt k)) ∧ gI h 6571 0 k = nI (wN (pf k)) ∧ gI h 6581 0 k = nI (wN (pt k))) ∧ (gI h 8050 0 2 = 1 ∨ (gI h 8050 0 2 = 0 ∧ cSk h (skR V n pf pt))) ∧ (gI h 49100 0 23 = 0 ∨ (gI h 49100 0 23 = 1 ∧ mSk h (skR V n pf pt)))
def iPr (h : z_H) (V : Nat) : Prop := ∃ (n : Nat) (pf pt : Nat → List Nat), iPrG h V n pf pt
def comI (y : Nat) : Int32 := if y < 1000000 then nI y else -1
def iLdG (h : z_H) (nL : Nat) (rd sh : Nat → Nat) (n : Nat) (wl wp wy : Nat → Nat) : Prop := (∀ k, k < 64 → rd k < 10 ∧ gI h 64231 0 k = nI (rd k) ∧ gI h 64591 0 k = nI (rd k)) ∧ (∀ a, a < 8 → rd (9 * a) = 0) ∧ (∀ p, p < 8 → sh p ≤ 1000 ∧ gI h 8241 0 p = nI (sh p) ∧ gI h 8601 0 p = nI (sh p)) ∧ n ≤ 8 ∧ gI h 11030 0 0 = nI n ∧ gI h 49100 0 26 = nI n ∧ (∀ k, k < n → wl k < nL ∧ wp k < 8 ∧ wy k < 1000 ∧ gR h 8255 0 k = wl k + 1 ∧ gI h 8261 0 k = nI (wp k) ∧ gI h 8271 0 k = nI (wy k) ∧ gI h 8611 0 k = nI (wl k) ∧ gI h 8621 0 k = nI (wp k) ∧ gI h 8631 0 k = nI (wy k)) ∧ (gI h 11030 0 3 = 1 ∨ (gI h 11030 0 3 = 0 ∧ ∀ k, k < n → ∀ p, p < 8 → gI h 64221 0 (8 * k + p) = comI (arr rd sh (wp k) (wy k) p)))
def iLd (h : z_H) (nL : Nat) : Prop := ∃ (rd sh : Nat → Nat) (n : Nat) (wl wp wy : Nat → Nat), iLdG h nL rd sh n wl wp wy
def iLiG (h : z_H) (n : Nat) (lw : Nat → List Nat) : Prop := n ≤ 12 ∧ gI h 11030 0 1 = nI n ∧ gI h 49100 0 30 = nI n ∧ ∀ k, k < n → isW (lw k) ∧ gI h 12281 0 k = nI (rowN (lw k)) ∧ gI h 12641 0 k = nI (wN (lw k))
def iLi (h : z_H) : Prop := ∃ (n : Nat) (lw : Nat → List Nat), iLiG h n lw
/-- forms: of each stem the form, and above it what is written -/
def pkJ (G : Gh) (t s : Nat) : Int64 := Int64.ofNat (rowN (wrt G 0 t (stW s)) * 2 ^ 24 + rowN (frm G 0 t (stW s)))
def cF (h : z_H) : Nat → Nat
  | 0 => 0
  | n + 1 => cF h n + (if gR h 7080 n 5 = 0 then 0 else 1)
def iFm (h : z_H) (G : Gh) : Prop := ((gR h 9010 0 3 = 0 ∧ gN h 16 = 0 ∧ gN h 17 = 0 ∧ gV h 9330131 0 = false ∧ gV h 9330141 0 = false) ∨ (gR h 9010 0 3 = 1 ∧ gR h 9010 0 4 = 1 ∧ gN h 16 = 1 ∧ gN h 17 = 1 ∧ ∀ s, s < 9330 → gI h 9330131 0 s = nI (rowN (stW s)))) ∧ gN h 42 = cF h 8 ∧ (∀ i, gN h 42 ≤ i → gV h 9330404 i = false) ∧ (∀ t, gR h 7080 t 5 ≤ gN h 42) ∧ (∀ t t', gR h 7080 t 5 ≠ 0 → gR h 7080 t 5 = gR h 7080 t' 5 → t = t') ∧ (∀ t, gnT G ≤ t → gR h 7080 t 5 = 0) ∧ ∀ t, t < gnT G → (gI h 7080 t 6 = 1 ∨ (gI h 7080 t 6 = 0 ∧ gR h 7080 t 5 ≠ 0 ∧ ∀ s, s < 9330 → gJ h 9330404 (gR h 7080 t 5 - 1) s = pkJ G t s))
/-- room: cells and slots -/
def iRm (h : z_H) : Prop := gC h ≤ 200 + 3 * gN h 51 + 3 * gN h 15 + gN h 42 + 2 * gN h 16 ∧ gS h ≤ 4000 + 18 * gN h 51 + 19 * gN h 15 + 9330 * gN h 42 + 18660 * gN h 16
def iSc (h : z_H) (N : Nat) (xs : Nat → Int32) : Prop := gN h 7 = N ∧ ∀ k, gI h 7 0 k = xs k
/-- what stands between two calls -/
def InvG (h : z_H) (N : Nat) (xs : Nat → Int32) (G : Gh) (e : Int32) : Prop := mOK h ∧ cOK h ∧ iSc h N xs ∧ iFd h e ∧ iOff h ∧ iTap h ∧ iShe h ∧ iRm h ∧ iVw h (gvV G) ∧ iLaw h (gvV G) (gnL G) (gLF G) ∧ iTon h G ∧ iFm h G ∧ iFnd h (gnT G) ∧ iPr h (gvV G) ∧ iLd h (gnL G) ∧ iLi h
def Inv (h : z_H) (N : Nat) (xs : Nat → Int32) : Prop := ∃ G, InvG h N xs G 0
/-! frames -/
section
variable {S : List Nat} {h h' : z_H} (f : frX S h h')
theorem iFd_fr (f : frX S h h') (n : 0 ∉ S) {e : Int32} (m : iFd h e) : iFd h' e := (f.1 _ _ _ (by exact n)).trans (m.trans (congrArg (· + e) (f.1 49100 0 35 (by exact n)).symm))
theorem iOff_fr (f : frX S h h') (n : 15 ∉ S) (m : iOff h) : iOff h' := (f.1 _ _ _ (by exact n)).trans m
theorem iTap_fr (f : frX S h h') (n : 13 ∉ S) (m : iTap h) : iTap h' := by
  obtain ⟨k, tb, a1, a2, a3, a4⟩ := m
  exact ⟨k, tb, a1, (f.1 _ _ _ (by exact n)).trans a2, (f.1 _ _ _ (by exact n)).trans a3, fun i hi => ⟨(a4 i hi).1, (f.1 _ _ _ (by exact n)).trans (a4 i hi).2.1, (f.1 _ _ _ (by exact n)).trans (a4 i hi).2.2⟩⟩
theorem iShe_fr (f : frX S h h') (n : 11 ∉ S) (m : iShe h) : iShe h' := by
  intro s hs
  obtain ⟨b, z, a1, a2, a3, a4, a5, a6, a7⟩ := m s hs
  exact ⟨b, z, a1, a2, (f.1 _ _ _ (by exact n)).trans a3, (f.1 _ _ _ (by exact n)).trans a4, (f.1 _ _ _ (by exact n)).trans a5, (f.1 _ _ _ (by exact n)).trans a6, fun k hk => (f.1 _ _ _ (by exact n)).trans ((a7 k hk).trans (f.1 48671 0 (12 * s + k) (by exact n)).symm)⟩
theorem iFnG_fr (f : frX S h h') (n : 5 ∉ S) {nT nM nF : Nat} {fm ft fy : Nat → Nat} {fw : Nat → Option (List Nat)} (m : iFnG h nT nM nF fm ft fy fw) : iFnG h' nT nM nF fm ft fy fw := by
  obtain ⟨a1, a2, a3, a4, a5, a6, a7, a8⟩ := m
  refine ⟨a1, a2, (f.1 _ _ _ (by exact n)).trans a3, (f.1 _ _ _ (by exact n)).trans a4, (f.1 _ _ _ (by exact n)).trans a5, (f.1 _ _ _ (by exact n)).trans a6, fun k hk => ?_, a8⟩
  obtain ⟨b1, b2, b3, b4, b5, b6, b7, b8, b9, c1, c2, c3⟩ := a7 k hk
  exact ⟨b1, b2, b3, b4, (f.1 _ _ _ (by exact n)).trans b5, (f.1 _ _ _ (by exact n)).trans b6, (f.1 _ _ _ (by exact n)).trans b7, (f.1 _ _ _ (by exact n)).trans b8, (f.1 _ _ _ (by exact n)).trans b9, (f.1 _ _ _ (by exact n)).trans c1, (f.1 _ _ _ (by exact n)).trans c2, (f.1 _ _ _ (by exact n)).trans c3⟩
theorem iFnd_fr (f : frX S h h') (n : 5 ∉ S) {nT : Nat} (m : iFnd h nT) : iFnd h' nT := by
  obtain ⟨nM, nF, fm, ft, fy, fw, z⟩ := m
  exact ⟨nM, nF, fm, ft, fy, fw, iFnG_fr f n z⟩
theorem cSk_fr (f : frX S h h') (n : 6 ∉ S) {o : Option (List Nat)} (m : cSk h o) : cSk h' o := by
  cases o with
  | none => exact (f.1 _ _ _ (by exact n)).trans m
  | some l => exact ⟨(f.1 _ _ _ (by exact n)).trans m.1, fun i s hs => ⟨(m.2 i s hs).1, (f.1 _ _ _ (by exact n)).trans (m.2 i s hs).2.1, (f.1 _ _ _ (by exact n)).trans (m.2 i s hs).2.2.1, (f.1 _ _ _ (by exact n)).trans (m.2 i s hs).2.2.2⟩⟩
theorem mSk_fr (f : frX S h h') (n : 6 ∉ S) {o : Option (List Nat)} (m : mSk h o) : mSk h' o := by
  cases o with
  | none => exact (f.1 _ _ _ (by exact n)).trans m
  | some l => exact ⟨(f.1 _ _ _ (by exact n)).trans m.1, fun i s hs => ⟨(m.2 i s hs).1, (f.1 _ _ _ (by exact n)).trans (m.2 i s hs).2⟩⟩
theorem iPrG_fr (f : frX S h h') (n : 6 ∉ S) {V k : Nat} {pf pt : Nat → List Nat} (m : iPrG h V k pf pt) : iPrG h' V k pf pt := by
  obtain ⟨a1, a2, a3, a4, a5, a6⟩ := m
  refine ⟨a1, (f.1 _ _ _ (by exact n)).trans a2, (f.1 _ _ _ (by exact n)).trans a3, fun k hk => ?_, ?_, ?_⟩
  · obtain ⟨b1, b2, b3, b4, b5, b6⟩ := a4 k hk
    exact ⟨b1, b2, (f.1 _ _ _ (by exact n)).trans b3, (f.1 _ _ _ (by exact n)).trans b4, (f.1 _ _ _ (by exact n)).trans b5, (f.1 _ _ _ (by exact n)).trans b6⟩
  · rcases a5 with z | ⟨z1, z2⟩
    · exact Or.inl ((f.1 _ _ _ (by exact n)).trans z)
    · exact Or.inr ⟨(f.1 _ _ _ (by exact n)).trans z1, cSk_fr f n z2⟩
  · rcases a6 with z | ⟨z1, z2⟩
    · exact Or.inl ((f.1 _ _ _ (by exact n)).trans z)
    · exact Or.inr ⟨(f.1 _ _ _ (by exact n)).trans z1, mSk_fr f n z2⟩
theorem iPr_fr (f : frX S h h') (n : 6 ∉ S) {V : Nat} (m : iPr h V) : iPr h' V := by
  obtain ⟨k, pf, pt, z⟩ := m
  exact ⟨k, pf, pt, iPrG_fr f n z⟩
theorem iLdG_fr (f : frX S h h') (n7 : 7 ∉ S) (n8 : 8 ∉ S) (n9 : 9 ∉ S) {nL n : Nat} {rd sh wl wp wy : Nat → Nat} (m : iLdG h nL rd sh n wl wp wy) : iLdG h' nL rd sh n wl wp wy := by
  obtain ⟨a1, a2, a3, a4, a5, a6, a7, a8⟩ := m
  refine ⟨fun k hk => ⟨(a1 k hk).1, (f.1 _ _ _ (by exact n7)).trans (a1 k hk).2.1, (f.1 _ _ _ (by exact n7)).trans (a1 k hk).2.2⟩, a2, fun k hk => ⟨(a3 k hk).1, (f.1 _ _ _ (by exact n7)).trans (a3 k hk).2.1, (f.1 _ _ _ (by exact n7)).trans (a3 k hk).2.2⟩, a4, (f.1 _ _ _ (by exact n8)).trans a5, (f.1 _ _ _ (by exact n8)).trans a6, fun k hk => ?_, ?_⟩
  · obtain ⟨b1, b2, b3, b4, b5, b6, b7, b8, b9⟩ := a7 k hk
    exact ⟨b1, b2, b3, (f.2.1 _ _ _ (by exact n8)).trans b4, (f.1 _ _ _ (by exact n8)).trans b5, (f.1 _ _ _ (by exact n8)).trans b6, (f.1 _ _ _ (by exact n8)).trans b7, (f.1 _ _ _ (by exact n8)).trans b8, (f.1 _ _ _ (by exact n8)).trans b9⟩
  · rcases a8 with z | ⟨z1, z2⟩
    · exact Or.inl ((f.1 _ _ _ (by exact n9)).trans z)
    · exact Or.inr ⟨(f.1 _ _ _ (by exact n9)).trans z1, fun k hk p hp => (f.1 _ _ _ (by exact n9)).trans (z2 k hk p hp)⟩
theorem iLd_fr (f : frX S h h') (n7 : 7 ∉ S) (n8 : 8 ∉ S) (n9 : 9 ∉ S) {nL : Nat} (m : iLd h nL) : iLd h' nL := by
  obtain ⟨rd, sh, n, wl, wp, wy, z⟩ := m
  exact ⟨rd, sh, n, wl, wp, wy, iLdG_fr f n7 n8 n9 z⟩
theorem iLiG_fr (f : frX S h h') (n : 10 ∉ S) {k : Nat} {lw : Nat → List Nat} (m : iLiG h k lw) : iLiG h' k lw := by
  obtain ⟨a1, a2, a3, a4⟩ := m
  exact ⟨a1, (f.1 _ _ _ (by exact n)).trans a2, (f.1 _ _ _ (by exact n)).trans a3, fun k hk => ⟨(a4 k hk).1, (f.1 _ _ _ (by exact n)).trans (a4 k hk).2.1, (f.1 _ _ _ (by exact n)).trans (a4 k hk).2.2⟩⟩
theorem iLi_fr (f : frX S h h') (n : 10 ∉ S) (m : iLi h) : iLi h' := by
  obtain ⟨k, lw, z⟩ := m
  exact ⟨k, lw, iLiG_fr f n z⟩
theorem cF_congr {a b : z_H} (e : ∀ t, gR b 7080 t 5 = gR a 7080 t 5) : ∀ n, cF b n = cF a n := by
  intro n
  induction n with
  | zero => rfl
  | succ n ih =>
    show cF b n + (if gR b 7080 n 5 = 0 then 0 else 1) = cF a n + (if gR a 7080 n 5 = 0 then 0 else 1)
    rw [ih, e n]
theorem iFm_fr (f : frX S h h') (n : 4 ∉ S) (n16 : 16 ∉ S) {G : Gh} (m : iFm h G) : iFm h' G := by
  obtain ⟨a1, a2, a3, a4, a5, a6, a7⟩ := m
  obtain ⟨f1, f2, f3, f4, f5, f6⟩ := f
  have e5 : ∀ t, gR h' 7080 t 5 = gR h 7080 t 5 := fun t => f2 _ _ _ (by exact n)
  have e42 : gN h' 42 = gN h 42 := f5 _ (by exact n)
  refine ⟨?_, ?_, ?_, ?_, ?_, ?_, ?_⟩
  · rcases a1 with ⟨z1, z2, z3, z4, z5⟩ | ⟨z1, z2, z3, z4, z5⟩
    · exact Or.inl ⟨(f2 _ _ _ (by exact n)).trans z1, (f5 _ (by exact n)).trans z2, (f5 _ (by exact n)).trans z3, (f4 _ _ (by exact n)).trans z4, (f4 _ _ (by exact n)).trans z5⟩
    · exact Or.inr ⟨(f2 _ _ _ (by exact n)).trans z1, (f2 _ _ _ (by exact n)).trans z2, (f5 _ (by exact n)).trans z3, (f5 _ (by exact n)).trans z4, fun s hs => (f1 _ _ _ (by exact n)).trans (z5 s hs)⟩
  · rw [e42, cF_congr e5]; exact a2
  · intro i hi
    rw [e42] at hi
    exact (f4 _ _ (by exact n)).trans (a3 i hi)
  · intro t; rw [e5, e42]; exact a4 t
  · intro t t' h1 h2; rw [e5] at h1; rw [e5, e5] at h2; exact a5 t t' h1 h2
  · intro t ht; rw [e5]; exact a6 t ht
  · intro t ht
    rcases a7 t ht with z | ⟨z1, z2, z3⟩
    · exact Or.inl ((f1 _ _ _ (by exact n16)).trans z)
    · refine Or.inr ⟨(f1 _ _ _ (by exact n16)).trans z1, by rw [e5]; exact z2, fun s hs => ?_⟩
      rw [e5]
      exact (f3 _ _ _ (by exact n)).trans (z3 s hs)
theorem iRm_fr (f : frX S h h') (n2 : 2 ∉ S) (n3 : 3 ∉ S) (n4 : 4 ∉ S) (m : iRm h) : iRm h' := by
  obtain ⟨f1, f2, f3, f4, f5, f6⟩ := f
  obtain ⟨e1, e2⟩ := f6 n2 n3 n4
  unfold iRm
  rw [e1, e2, f5 51 (by exact n2), f5 15 (by exact n3), f5 42 (by exact n4), f5 16 (by exact n4)]
  exact m
theorem iSc_fr (f : frX S h h') (n : 14 ∉ S) {N : Nat} {xs : Nat → Int32} (m : iSc h N xs) : iSc h' N xs := ⟨(f.2.2.2.2.1 _ (by exact n)).trans m.1, fun k => (f.1 _ _ _ (by exact n)).trans (m.2 k)⟩
end
/-- only scratch has changed -/
theorem Inv_scr {h h' : z_H} {N : Nat} {xs : Nat → Int32} {G : Gh} {e : Int32} (f : frX [12] h h') (m : InvG h N xs G e) : InvG h' N xs G e := by
  obtain ⟨a1, a2, a3, a4, a5, a6, a7, a8, a9, b1, b2, b3, b4, b5, b6, b7⟩ := m
  exact ⟨frX_mOK (by decide) f a1, frX_cOK (by decide) f a2, iSc_fr f (by decide) a3, iFd_fr f (by decide) a4, iOff_fr f (by decide) a5, iTap_fr f (by decide) a6, iShe_fr f (by decide) a7, iRm_fr f (by decide) (by decide) (by decide) a8, iVw_fr (by decide) f a9, iLaw_fr (by decide) f b1, iTon_fr (by decide) f b2, iFm_fr f (by decide) (by decide) b3, iFnd_fr f (by decide) b4, iPr_fr f (by decide) b5, iLd_fr f (by decide) (by decide) (by decide) b6, iLi_fr f (by decide) b7⟩
/-- findings are counted: the class first, then the reference -/
theorem Inv_cf {h : z_H} {N : Nat} {xs : Nat → Int32} {G : Gh} (m : InvG h N xs G 0) : InvG (pI h 10090 0 9 (gI h 10090 0 9 + 1)) N xs G 1 := by
  have f : frX [0] h (pI h 10090 0 9 (gI h 10090 0 9 + 1)) := frX_pI (by decide) h _
  obtain ⟨a1, a2, a3, a4, a5, a6, a7, a8, a9, b1, b2, b3, b4, b5, b6, b7⟩ := m
  refine ⟨frX_mOK (by decide) f a1, frX_cOK (by decide) f a2, iSc_fr f (by decide) a3, ?_, iOff_fr f (by decide) a5, iTap_fr f (by decide) a6, iShe_fr f (by decide) a7, iRm_fr f (by decide) (by decide) (by decide) a8, iVw_fr (by decide) f a9, iLaw_fr (by decide) f b1, iTon_fr (by decide) f b2, iFm_fr f (by decide) (by decide) b3, iFnd_fr f (by decide) b4, iPr_fr f (by decide) b5, iLd_fr f (by decide) (by decide) (by decide) b6, iLi_fr f (by decide) b7⟩
  unfold iFd at a4 ⊢
  rw [gI_same, gI_ne (by omega), a4, Int32.add_zero]
theorem Inv_mf {h : z_H} {N : Nat} {xs : Nat → Int32} {G : Gh} (m : InvG h N xs G 1) : InvG (pI h 49100 0 35 (gI h 49100 0 35 + 1)) N xs G 0 := by
  have f : frX [0] h (pI h 49100 0 35 (gI h 49100 0 35 + 1)) := frX_pI (by decide) h _
  obtain ⟨a1, a2, a3, a4, a5, a6, a7, a8, a9, b1, b2, b3, b4, b5, b6, b7⟩ := m
  refine ⟨frX_mOK (by decide) f a1, frX_cOK (by decide) f a2, iSc_fr f (by decide) a3, ?_, iOff_fr f (by decide) a5, iTap_fr f (by decide) a6, iShe_fr f (by decide) a7, iRm_fr f (by decide) (by decide) (by decide) a8, iVw_fr (by decide) f a9, iLaw_fr (by decide) f b1, iTon_fr (by decide) f b2, iFm_fr f (by decide) (by decide) b3, iFnd_fr f (by decide) b4, iPr_fr f (by decide) b5, iLd_fr f (by decide) (by decide) (by decide) b6, iLi_fr f (by decide) b7⟩
  unfold iFd at a4 ⊢
  rw [gI_same, gI_ne (by omega), a4, Int32.add_zero]
