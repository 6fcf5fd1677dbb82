/-! ===== running a method: to the end, if it ends ===== -/
def exn (call : Nat → List z_V → z_H → Option z_A) (y : Nat) : Nat → z_K
  | 0, _, _, _, _ => none
  | n + 1, pc, l, s, h => match z_code y pc with
    | none => none
    | some it => st1 call pc it l s h (exn call y n)
theorem exn_succ (call : Nat → List z_V → z_H → Option z_A) (y n pc : Nat) (l s : List z_V) (h : z_H) : exn call y (n + 1) pc l s h = (match z_code y pc with
    | none => none
    | some it => st1 call pc it l s h (exn call y n)) := rfl
/-- the calls of which heaps only grow -/
def z_gr (call : Nat → List z_V → z_H → Option z_A) : Prop := ∀ y a h r h', call y a h = some (r, h') → z_le h h'
theorem exn_le {call : Nat → List z_V → z_H → Option z_A} (hc : z_gr call) {y : Nat} : ∀ (n pc : Nat) (l s : List z_V) (h : z_H) (r : Option z_V) (h' : z_H), exn call y n pc l s h = some (r, h') → z_le h h' := by
  intro n
  induction n with
  | zero => intro pc l s h r h' e; cases e
  | succ n ih =>
    intro pc l s h r h' e
    rw [exn_succ] at e
    cases hz : z_code y pc with
    | none => rw [hz] at e; cases e
    | some it =>
      rw [hz] at e
      rcases st1_sel call hc pc it l s h with ⟨c, h1, h2⟩ | ⟨pc1, l1, s1, h1, q, h2⟩
      · exact h2 r h' ((h1 _).symm.trans e)
      · exact z_le_trans q (ih pc1 l1 s1 h1 r h' ((h2 _).symm.trans e))
theorem exn_mono {call : Nat → List z_V → z_H → Option z_A} (hc : z_gr call) {y : Nat} : ∀ (n pc : Nat) (l s : List z_V) (h : z_H) (r : z_A), exn call y n pc l s h = some r → exn call y (n + 1) pc l s h = some r := by
  intro n
  induction n with
  | zero => intro pc l s h r e; cases e
  | succ n ih =>
    intro pc l s h r e
    rw [exn_succ] at e ⊢
    cases hz : z_code y pc with
    | none => rw [hz] at e; cases e
    | some it =>
      rw [hz] at e
      rcases st1_sel call hc pc it l s h with ⟨c, h1, h2⟩ | ⟨pc1, l1, s1, h1, q, h2⟩
      · exact (h1 _).trans ((h1 _).symm.trans e)
      · exact (h2 _).trans (ih pc1 l1 s1 h1 r ((h2 _).symm.trans e))
theorem exn_le_mono {call : Nat → List z_V → z_H → Option z_A} (hc : z_gr call) {y n m pc : Nat} {l s : List z_V} {h : z_H} {r : z_A} (hm : n ≤ m) (e : exn call y n pc l s h = some r) : exn call y m pc l s h = some r := by
  induction hm with
  | refl => exact e
  | step _ ih => exact exn_mono hc _ _ _ _ _ _ ih
/-- what a run comes to in the end -/
noncomputable def z_lim (call : Nat → List z_V → z_H → Option z_A) (y : Nat) : z_K := fun pc l s h =>
  haveI := Classical.propDecidable (∃ n r, exn call y n pc l s h = some r)
  if e : ∃ n r, exn call y n pc l s h = some r then some (Classical.choose (Classical.choose_spec e)) else none
theorem z_lim_some {call : Nat → List z_V → z_H → Option z_A} (hc : z_gr call) {y pc : Nat} {l s : List z_V} {h : z_H} {r : z_A} : z_lim call y pc l s h = some r ↔ ∃ n, exn call y n pc l s h = some r := by
  unfold z_lim
  constructor
  · intro q
    split at q
    · next e =>
      have h1 := Classical.choose_spec (Classical.choose_spec e)
      rw [Option.some.inj q] at h1
      exact ⟨_, h1⟩
    · cases q
  · rintro ⟨n, q⟩
    have e : ∃ n r, exn call y n pc l s h = some r := ⟨n, r, q⟩
    rw [dif_pos e]
    have h1 := Classical.choose_spec (Classical.choose_spec e)
    have h2 := exn_le_mono hc (Nat.le_max_left n (Classical.choose e)) q
    have h3 := exn_le_mono hc (Nat.le_max_right n (Classical.choose e)) h1
    rw [← h3, h2]
theorem z_lim_eq {call : Nat → List z_V → z_H → Option z_A} (hc : z_gr call) (y pc : Nat) (l s : List z_V) (h : z_H) : z_lim call y pc l s h = (match z_code y pc with
    | none => none
    | some it => st1 call pc it l s h (z_lim call y)) := by
  apply Option.ext
  intro r
  rw [z_lim_some hc]
  cases hz : z_code y pc with
  | none =>
    constructor
    · rintro ⟨n, e⟩
      cases n with
      | zero => cases e
      | succ n => rw [exn_succ, hz] at e; cases e
    · intro e; cases e
  | some it =>
    rcases st1_sel call hc pc it l s h with ⟨c, h1, h2⟩ | ⟨pc1, l1, s1, h1, q, h2⟩
    · constructor
      · rintro ⟨n, e⟩
        cases n with
        | zero => cases e
        | succ n => rw [exn_succ, hz] at e; exact (h1 _).trans ((h1 _).symm.trans e)
      · intro e
        exact ⟨1, by rw [exn_succ, hz]; exact (h1 _).trans ((h1 _).symm.trans e)⟩
    · constructor
      · rintro ⟨n, e⟩
        cases n with
        | zero => cases e
        | succ n =>
          rw [exn_succ, hz] at e
          exact (h2 _).trans ((z_lim_some hc).mpr ⟨n, (h2 _).symm.trans e⟩)
      · intro e
        obtain ⟨n, e1⟩ := (z_lim_some hc).mp ((h2 _).symm.trans e)
        exact ⟨n + 1, by rw [exn_succ, hz]; exact (h2 _).trans e1⟩
theorem z_lim_le {call : Nat → List z_V → z_H → Option z_A} (hc : z_gr call) {y pc : Nat} {l s : List z_V} {h h' : z_H} {r : Option z_V} (e : z_lim call y pc l s h = some (r, h')) : z_le h h' := by
  obtain ⟨n, e⟩ := (z_lim_some hc).mp e
  exact exn_le hc n pc l s h r h' e
/-- arguments as locals: a long takes two -/
def z_sp : List z_V → List z_V
  | [] => []
  | v :: r => match v with
    | Sum.inr (Sum.inl x) => z_L x :: z_U :: z_sp r
    | _ => v :: z_sp r
def z_ent (n : Nat) (a : List z_V) : List z_V := z_sp a ++ List.replicate (n - (z_sp a).length) z_U
/-- methods, with calls at most d deep -/
noncomputable def Rn : Nat → Nat → List z_V → z_H → Option z_A
  | 0, _, _, _ => none
  | d + 1, y, a, h => bif Nat.ble (z_sp a).length (z_ml y) then z_lim (Rn d) y 0 (z_ent (z_ml y) a) [] h else none
theorem Rn_gr : ∀ d, z_gr (Rn d) := by
  intro d
  induction d with
  | zero => intro y a h r h' e; cases e
  | succ d ih =>
    intro y a h r h' e
    have e2 : (bif Nat.ble (z_sp a).length (z_ml y) then z_lim (Rn d) y 0 (z_ent (z_ml y) a) [] h else none) = some (r, h') := e
    cases hb : Nat.ble (z_sp a).length (z_ml y) with
    | false => rw [hb] at e2; cases e2
    | true => rw [hb] at e2; exact z_lim_le ih e2
/-- a method from a place on -/
noncomputable def EX (d y : Nat) : z_K := z_lim (Rn d) y
theorem EX_eq (d y pc : Nat) (l s : List z_V) (h : z_H) : EX d y pc l s h = (match z_code y pc with
    | none => none
    | some it => st1 (Rn d) pc it l s h (EX d y)) := z_lim_eq (Rn_gr d) y pc l s h
theorem Rn_eq (d y : Nat) (a : List z_V) (h : z_H) : Rn (d + 1) y a h = (bif Nat.ble (z_sp a).length (z_ml y) then EX d y 0 (z_ent (z_ml y) a) [] h else none) := rfl
/-- a stretch of instructions, one behind another -/
def runL (call : Nat → List z_V → z_H → Option z_A) : List z_It → Nat → List z_V → List z_V → z_H → z_K → Option z_A
  | [], pc, l, s, h, K => K pc l s h
  | it :: r, pc, l, s, h, K => st1 call pc it l s h (fun pc' l' s' h' => bif Nat.beq pc' (pc + it.1) then runL call r pc' l' s' h' K else K pc' l' s' h')
def z_d1 : DecidableEq (Int32 × Int64 × List (Int32 × Nat)) := inferInstance
def z_d2 : DecidableEq (Nat × Nat × Int32 × Int64 × List (Int32 × Nat)) := haveI := z_d1; inferInstance
def z_d3 : DecidableEq (Nat × Nat × Nat × Nat × Int32 × Int64 × List (Int32 × Nat)) := haveI := z_d2; inferInstance
def z_ieq : DecidableEq z_It := haveI := z_d3; (inferInstance : DecidableEq (Nat × Instr × Nat × Nat × Nat × Nat × Int32 × Int64 × List (Int32 × Nat)))
def z_oeq (a : Option z_It) (it : z_It) : Bool := match a with
  | none => false
  | some x => @decide (x = it) (z_ieq x it)
theorem z_oeq_spec {a : Option z_It} {it : z_It} (h : z_oeq a it = true) : a = some it := by
  cases a with
  | none => cases h
  | some x => exact congrArg some (@of_decide_eq_true (x = it) (z_ieq x it) h)
/-- the stretch stands in the code -/
def z_has (y : Nat) : Nat → List z_It → Bool
  | _, [] => true
  | pc, it :: r => z_oeq (z_code y pc) it && z_has y (pc + it.1) r
theorem EX_L (d y : Nat) : ∀ (is : List z_It) (pc : Nat), z_has y pc is = true → ∀ (l s : List z_V) (h : z_H), EX d y pc l s h = runL (Rn d) is pc l s h (EX d y) := by
  intro is
  induction is with
  | nil => intro pc _ l s h; rfl
  | cons it r ih =>
    intro pc hh l s h
    have hh2 : (z_oeq (z_code y pc) it && z_has y (pc + it.1) r) = true := hh
    simp only [Bool.and_eq_true] at hh2
    rw [EX_eq, z_oeq_spec hh2.1]
    show st1 (Rn d) pc it l s h (EX d y) = st1 (Rn d) pc it l s h (fun pc' l' s' h' => bif Nat.beq pc' (pc + it.1) then runL (Rn d) r pc' l' s' h' (EX d y) else EX d y pc' l' s' h')
    rcases st1_sel (Rn d) (Rn_gr d) pc it l s h with ⟨c, h1, h2⟩ | ⟨pc1, l1, s1, h1, q, h2⟩
    · exact (h1 _).trans (h1 _).symm
    · refine (h2 _).trans (Eq.trans ?_ (h2 _).symm)
      show EX d y pc1 l1 s1 h1 = (bif Nat.beq pc1 (pc + it.1) then runL (Rn d) r pc1 l1 s1 h1 (EX d y) else EX d y pc1 l1 s1 h1)
      cases hb : Nat.beq pc1 (pc + it.1) with
      | false => rfl
      | true =>
        have e : pc1 = pc + it.1 := Nat.eq_of_beq_eq_true hb
        rw [e]
        exact ih (pc + it.1) hh2.2 l1 s1 h1
