/-! ===== the script stays as it is ===== -/
def z_l7 (h h' : z_H) : Prop := (∀ k, gI h' 7 0 k = gI h 7 0 k) ∧ gN h' 7 = gN h 7
theorem z_l7_rfl (h : z_H) : z_l7 h h := ⟨fun _ => rfl, rfl⟩
theorem z_l7_trans {a b c : z_H} (h1 : z_l7 a b) (h2 : z_l7 b c) : z_l7 a c := ⟨fun k => (h2.1 k).trans (h1.1 k), h2.2.trans h1.2⟩
theorem z_l7_pJ (h : z_H) (p i k : Nat) (v : Int64) : z_l7 h (pJ h p i k v) := z_l7_rfl h
theorem z_l7_pR (h : z_H) (p i k : Nat) (v : Nat) : z_l7 h (pR h p i k v) := z_l7_rfl h
theorem z_l7_pI {p : Nat} (hp : p ≠ 7) (h : z_H) (i k : Nat) (v : Int32) : z_l7 h (pI h p i k v) := ⟨fun n => by rw [gI_pI, if_neg (fun z => hp z.1.symm)], rfl⟩
theorem z_l7_pA {p : Nat} (hp : p ≠ 7) (h : z_H) (i : Nat) (v : Nat → Int32) : z_l7 h (pA h p i v) := ⟨fun n => by rw [gI_pA, if_neg (fun z => hp z.1.symm)], rfl⟩
theorem z_l7_nw {p s : Nat} (hp : p ≠ 7) (hs : s ≠ 7) (h : z_H) (i n : Nat) : z_l7 h (nw h p i n s) := ⟨fun k => by rw [gI_nw, if_neg (fun z => hp z.1.symm)], by rw [gN_nw, if_neg (fun z => hs z.symm)]⟩
/-- what a step does with what comes behind it: nothing, or it goes on at one state -/
def z_s7 (h : z_H) (F : z_K → Option z_A) : Prop := (∃ c : Option z_A, (∀ K, F K = c) ∧ ∀ r h', c = some (r, h') → z_l7 h h') ∨ ∃ pc l s h', z_l7 h h' ∧ ∀ K, F K = K pc l s h'
theorem z7_sn {h : z_H} {F : z_K → Option z_A} (e : ∀ K, F K = none) : z_s7 h F := Or.inl ⟨none, e, fun _ _ q => by cases q⟩
theorem z7_sk {h : z_H} {F : z_K → Option z_A} (pc : Nat) (l s : List z_V) (h' : z_H) (q : z_l7 h h') (e : ∀ K, F K = K pc l s h') : z_s7 h F := Or.inr ⟨pc, l, s, h', q, e⟩
theorem z7_si {h : z_H} {F G : z_K → Option z_A} (b : Prop) [Decidable b] (h1 : b → z_s7 h F) (h2 : ¬ b → z_s7 h G) : z_s7 h (fun K => if b then F K else G K) := by
  by_cases q : b
  · have : (fun K => if b then F K else G K) = F := by funext K; rw [if_pos q]
    rw [this]; exact h1 q
  · have : (fun K => if b then F K else G K) = G := by funext K; rw [if_neg q]
    rw [this]; exact h2 q
theorem z7_sb {h : z_H} {F G : z_K → Option z_A} (b : Bool) (h1 : b = true → z_s7 h F) (h2 : b = false → z_s7 h G) : z_s7 h (fun K => bif b then F K else G K) := by
  cases b
  · exact h2 rfl
  · exact h1 rfl
section
variable (pc : Nat) (l s : List z_V) (h : z_H)
theorem s7_none : z_s7 h (fun _ => none) := z7_sn fun _ => rfl
theorem s7_il (i : Nat) : z_s7 h (fun K => o_il K pc l s h i) := by
  unfold o_il
  rcases z_ld l i with x | x | ⟨p, j⟩ | _ | _
  · exact z7_sk _ _ _ _ (z_l7_rfl h) fun _ => rfl
  all_goals exact z7_sn fun _ => rfl
theorem s7_ll (i : Nat) : z_s7 h (fun K => o_ll K pc l s h i) := by
  unfold o_ll
  rcases z_ld l i with x | x | ⟨p, j⟩ | _ | _
  · exact z7_sn fun _ => rfl
  · exact z7_sk _ _ _ _ (z_l7_rfl h) fun _ => rfl
  all_goals exact z7_sn fun _ => rfl
theorem s7_al (i : Nat) : z_s7 h (fun K => o_al K pc l s h i) := by
  unfold o_al
  rcases z_ld l i with x | x | ⟨p, j⟩ | _ | _
  · exact z7_sn fun _ => rfl
  · exact z7_sn fun _ => rfl
  · exact z7_sk _ _ _ _ (z_l7_rfl h) fun _ => rfl
  · exact z7_sk _ _ _ _ (z_l7_rfl h) fun _ => rfl
  · exact z7_sn fun _ => rfl
theorem s7_is (i : Nat) : z_s7 h (fun K => o_is K pc l s h i) := by
  unfold o_is
  rcases s with _ | ⟨x | x | ⟨p, j⟩ | _ | _, s'⟩
  case cons.inl => exact z7_sb _ (fun _ => z7_sk _ _ _ _ (z_l7_rfl h) fun _ => rfl) (fun _ => s7_none h)
  all_goals exact z7_sn fun _ => rfl
theorem s7_ls (i : Nat) : z_s7 h (fun K => o_ls K pc l s h i) := by
  unfold o_ls
  rcases s with _ | ⟨x | x | ⟨p, j⟩ | _ | _, s'⟩
  case cons.inr.inl => exact z7_sb _ (fun _ => z7_sk _ _ _ _ (z_l7_rfl h) fun _ => rfl) (fun _ => s7_none h)
  all_goals exact z7_sn fun _ => rfl
theorem s7_as (i : Nat) : z_s7 h (fun K => o_as K pc l s h i) := by
  unfold o_as
  rcases s with _ | ⟨x | x | ⟨p, j⟩ | _ | _, s'⟩
  case cons.inr.inr.inl => exact z7_sb _ (fun _ => z7_sk _ _ _ _ (z_l7_rfl h) fun _ => rfl) (fun _ => s7_none h)
  case cons.inr.inr.inr.false => exact z7_sb _ (fun _ => z7_sk _ _ _ _ (z_l7_rfl h) fun _ => rfl) (fun _ => s7_none h)
  all_goals exact z7_sn fun _ => rfl
theorem s7_ic (i : Nat) (v : Int32) : z_s7 h (fun K => o_ic K pc l s h i v) := by
  unfold o_ic
  rcases z_ld l i with x | x | ⟨p, j⟩ | _ | _
  · exact z7_sb _ (fun _ => z7_sk _ _ _ _ (z_l7_rfl h) fun _ => rfl) (fun _ => s7_none h)
  all_goals exact z7_sn fun _ => rfl
theorem s7_b (f : Int32 → Int32 → Int32) : z_s7 h (fun K => o_b K pc l s h f) := by
  unfold o_b
  rcases s with _ | ⟨x | x | ⟨p, j⟩ | _ | _, _ | ⟨y | y | ⟨p', j'⟩ | _ | _, s'⟩⟩ <;> first | exact z7_sn fun _ => rfl | exact z7_sk _ _ _ _ (z_l7_rfl h) fun _ => rfl
theorem s7_d (f : Int32 → Int32 → Int32) : z_s7 h (fun K => o_d K pc l s h f) := by
  unfold o_d
  rcases s with _ | ⟨x | x | ⟨p, j⟩ | _ | _, _ | ⟨y | y | ⟨p', j'⟩ | _ | _, s'⟩⟩ <;> first | exact z7_sn fun _ => rfl | exact z7_sb _ (fun _ => s7_none h) (fun _ => z7_sk _ _ _ _ (z_l7_rfl h) fun _ => rfl)
theorem s7_bl (f : Int64 → Int64 → Int64) : z_s7 h (fun K => o_bl K pc l s h f) := by
  unfold o_bl
  rcases s with _ | ⟨x | x | ⟨p, j⟩ | _ | _, _ | ⟨y | y | ⟨p', j'⟩ | _ | _, s'⟩⟩ <;> first | exact z7_sn fun _ => rfl | exact z7_sk _ _ _ _ (z_l7_rfl h) fun _ => rfl
theorem s7_sl (f : Int64 → Int32 → Int64) : z_s7 h (fun K => o_sl K pc l s h f) := by
  unfold o_sl
  rcases s with _ | ⟨x | x | ⟨p, j⟩ | _ | _, _ | ⟨y | y | ⟨p', j'⟩ | _ | _, s'⟩⟩ <;> first | exact z7_sn fun _ => rfl | exact z7_sk _ _ _ _ (z_l7_rfl h) fun _ => rfl
theorem s7_lc : z_s7 h (fun K => o_lc K pc l s h) := by
  unfold o_lc
  rcases s with _ | ⟨x | x | ⟨p, j⟩ | _ | _, _ | ⟨y | y | ⟨p', j'⟩ | _ | _, s'⟩⟩ <;> first | exact z7_sn fun _ => rfl | exact z7_sk _ _ _ _ (z_l7_rfl h) fun _ => rfl
theorem s7_u (f : Int32 → Int32) : z_s7 h (fun K => o_u K pc l s h f) := by
  unfold o_u
  rcases s with _ | ⟨x | x | ⟨p, j⟩ | _ | _, s'⟩ <;> first | exact z7_sn fun _ => rfl | exact z7_sk _ _ _ _ (z_l7_rfl h) fun _ => rfl
theorem s7_i2l : z_s7 h (fun K => o_i2l K pc l s h) := by
  unfold o_i2l
  rcases s with _ | ⟨x | x | ⟨p, j⟩ | _ | _, s'⟩ <;> first | exact z7_sn fun _ => rfl | exact z7_sk _ _ _ _ (z_l7_rfl h) fun _ => rfl
theorem s7_l2i : z_s7 h (fun K => o_l2i K pc l s h) := by
  unfold o_l2i
  rcases s with _ | ⟨x | x | ⟨p, j⟩ | _ | _, s'⟩ <;> first | exact z7_sn fun _ => rfl | exact z7_sk _ _ _ _ (z_l7_rfl h) fun _ => rfl
theorem s7_dup : z_s7 h (fun K => o_dup K pc l s h) := by
  unfold o_dup
  rcases s with _ | ⟨v, s'⟩
  · exact z7_sn fun _ => rfl
  · exact z7_sb _ (fun _ => z7_sk _ _ _ _ (z_l7_rfl h) fun _ => rfl) (fun _ => s7_none h)
theorem s7_pop : z_s7 h (fun K => o_pop K pc l s h) := by
  unfold o_pop
  rcases s with _ | ⟨v, s'⟩
  · exact z7_sn fun _ => rfl
  · exact z7_sb _ (fun _ => z7_sk _ _ _ _ (z_l7_rfl h) fun _ => rfl) (fun _ => s7_none h)
theorem s7_dup2 : z_s7 h (fun K => o_dup2 K pc l s h) := by
  unfold o_dup2
  rcases s with _ | ⟨v, _ | ⟨w, s'⟩⟩
  · exact z7_sn fun _ => rfl
  · exact z7_sn fun _ => rfl
  · exact z7_sb _ (fun _ => z7_sk _ _ _ _ (z_l7_rfl h) fun _ => rfl) (fun _ => s7_none h)
theorem s7_cmp (c : Jvm.ClassFile.Cond) (x y : Int32) {F G : z_K → Option z_A} (h1 : z_s7 h F) (h2 : z_s7 h G) : z_s7 h (fun K => z_cmp c x y (F K) (G K)) := by
  unfold z_cmp
  cases c <;> exact z7_si _ (fun _ => h1) (fun _ => h2)
theorem s7_if2 (c : Jvm.ClassFile.Cond) (t : Nat) : z_s7 h (fun K => o_if2 K pc l s h c t) := by
  unfold o_if2
  rcases s with _ | ⟨x | x | ⟨p, j⟩ | _ | _, _ | ⟨y | y | ⟨p', j'⟩ | _ | _, s'⟩⟩ <;> first | exact z7_sn fun _ => rfl | exact s7_cmp h c _ _ (z7_sk _ _ _ _ (z_l7_rfl h) fun _ => rfl) (z7_sk _ _ _ _ (z_l7_rfl h) fun _ => rfl)
theorem s7_if1 (c : Jvm.ClassFile.Cond) (t : Nat) : z_s7 h (fun K => o_if1 K pc l s h c t) := by
  unfold o_if1
  rcases s with _ | ⟨x | x | ⟨p, j⟩ | _ | _, s'⟩ <;> first | exact z7_sn fun _ => rfl | exact s7_cmp h c _ _ (z7_sk _ _ _ _ (z_l7_rfl h) fun _ => rfl) (z7_sk _ _ _ _ (z_l7_rfl h) fun _ => rfl)
theorem s7_nul (t e : Nat) : z_s7 h (fun K => o_nul K l s h t e) := by
  unfold o_nul
  rcases s with _ | ⟨x | x | ⟨p, j⟩ | _ | _, s'⟩ <;> first | exact z7_sn fun _ => rfl | exact z7_sk _ _ _ _ (z_l7_rfl h) fun _ => rfl
theorem s7_swi (x : Int32) (ts : List (Int32 × Nat)) (d : Nat) (s' : List z_V) : z_s7 h (fun K => z_sw x (K d l s' h) ts (fun t => K t l s' h)) := by
  induction ts with
  | nil => exact z7_sk _ _ _ _ (z_l7_rfl h) fun _ => rfl
  | cons t r ih => exact z7_si (F := fun K => K t.2 l s' h) _ (fun _ => z7_sk _ _ _ _ (z_l7_rfl h) fun _ => rfl) (fun _ => ih)
theorem s7_sw (d : Nat) (ts : List (Int32 × Nat)) : z_s7 h (fun K => o_sw K l s h d ts) := by
  unfold o_sw
  rcases s with _ | ⟨x | x | ⟨p, j⟩ | _ | _, s'⟩
  case cons.inl => exact s7_swi l h x ts d s'
  all_goals exact z7_sn fun _ => rfl
theorem s7_gf (q k c e : Nat) : z_s7 h (fun K => o_gf K pc l s h q k c e) := by
  unfold o_gf
  rcases s with _ | ⟨x | x | ⟨p, j⟩ | _ | _, s'⟩
  case cons.inr.inr.inl =>
    refine z7_sb _ (fun _ => ?_) (fun _ => s7_none h)
    match e with
    | 0 => exact z7_sk _ _ _ _ (z_l7_rfl h) fun _ => rfl
    | 1 => exact z7_si _ (fun _ => z7_sk _ _ _ _ (z_l7_rfl h) fun _ => rfl) (fun _ => z7_sk _ _ _ _ (z_l7_rfl h) fun _ => rfl)
    | n + 2 => exact z7_si _ (fun _ => z7_sk _ _ _ _ (z_l7_rfl h) fun _ => rfl) (fun _ => s7_none h)
  all_goals exact z7_sn fun _ => rfl
theorem s7_pf (q k c : Nat) (hq : q ≠ 7) : z_s7 h (fun K => o_pf K pc l s h q k c) := by
  unfold o_pf
  rcases s with _ | ⟨x | x | ⟨p, j⟩ | _ | _, _ | ⟨y | y | ⟨p', j'⟩ | _ | _, s'⟩⟩
  case cons.inl.cons.inr.inr.inl =>
    refine z7_sb _ (fun hb => ?_) (fun _ => s7_none h)
    have hp : p' ≠ 7 := fun z => hq ((Nat.eq_of_beq_eq_true hb).symm.trans z)
    match c with
    | 0 => exact z7_sk _ _ _ _ (z_l7_pI hp h _ _ _) fun _ => rfl
    | 1 => exact z7_si _ (fun _ => z7_sk _ _ _ _ (z_l7_pI hp h _ _ _) fun _ => rfl) (fun _ => s7_none h)
    | _ + 2 => exact s7_none h
  case cons.inr.inr.inl.cons.inr.inr.inl => exact z7_sb _ (fun _ => z7_sk _ _ _ _ (z_l7_pR h _ _ _ _) fun _ => rfl) (fun _ => s7_none h)
  all_goals exact z7_sn fun _ => rfl
theorem s7_ia (kd : Nat) : z_s7 h (fun K => o_ia K pc l s h kd) := by
  unfold o_ia
  rcases s with _ | ⟨x | x | ⟨p, j⟩ | _ | _, _ | ⟨y | y | ⟨p', j'⟩ | _ | _, s'⟩⟩
  case cons.inl.cons.inr.inr.inl =>
    refine z7_sb _ (fun _ => ?_) (fun _ => z7_sb _ (fun _ => ?_) (fun _ => z7_sb _ (fun _ => ?_) (fun _ => s7_none h)))
    · exact z7_si _ (fun _ => z7_sk _ _ _ _ (z_l7_rfl h) fun _ => rfl) (fun _ => s7_none h)
    · exact z7_si _ (fun _ => z7_sk _ _ _ _ (z_l7_rfl h) fun _ => rfl) (fun _ => s7_none h)
    · exact z7_si _ (fun _ => z7_sk _ _ _ _ (z_l7_rfl h) fun _ => rfl) (fun _ => s7_none h)
  all_goals exact z7_sn fun _ => rfl
theorem s7_ist (kd : Nat) (ok : Int32 → Bool) (hk : kd ≠ 7) : z_s7 h (fun K => o_ist K pc l s h kd ok) := by
  unfold o_ist
  rcases s with _ | ⟨x | x | ⟨p, j⟩ | _ | _, _ | ⟨y | y | ⟨p', j'⟩ | _ | _, _ | ⟨w | w | ⟨p1, j1⟩ | _ | _, s'⟩⟩⟩
  case cons.inl.cons.inl.cons.inr.inr.inl =>
    refine z7_sb _ (fun hb => ?_) (fun _ => s7_none h)
    have hp : p1 ≠ 7 := fun z => hk (by rw [z] at hb; exact (Nat.eq_of_beq_eq_true hb).symm)
    exact z7_si _ (fun _ => z7_sk _ _ _ _ (z_l7_pI hp h _ _ _) fun _ => rfl) (fun _ => s7_none h)
  all_goals exact z7_sn fun _ => rfl
theorem s7_ja : z_s7 h (fun K => o_ja K pc l s h) := by
  unfold o_ja
  rcases s with _ | ⟨x | x | ⟨p, j⟩ | _ | _, _ | ⟨y | y | ⟨p', j'⟩ | _ | _, s'⟩⟩
  case cons.inl.cons.inr.inr.inl =>
    refine z7_sb _ (fun _ => ?_) (fun _ => s7_none h)
    exact z7_si _ (fun _ => z7_sk _ _ _ _ (z_l7_rfl h) fun _ => rfl) (fun _ => s7_none h)
  all_goals exact z7_sn fun _ => rfl
theorem s7_jst : z_s7 h (fun K => o_jst K pc l s h) := by
  unfold o_jst
  rcases s with _ | ⟨x | x | ⟨p, j⟩ | _ | _, _ | ⟨y | y | ⟨p', j'⟩ | _ | _, _ | ⟨w | w | ⟨p1, j1⟩ | _ | _, s'⟩⟩⟩
  case cons.inr.inl.cons.inl.cons.inr.inr.inl =>
    refine z7_sb _ (fun _ => ?_) (fun _ => s7_none h)
    exact z7_si _ (fun _ => z7_sk _ _ _ _ (z_l7_pJ h _ _ _ _) fun _ => rfl) (fun _ => s7_none h)
  all_goals exact z7_sn fun _ => rfl
theorem s7_aa (q c e : Nat) : z_s7 h (fun K => o_aa K pc l s h q c e) := by
  unfold o_aa
  rcases s with _ | ⟨x | x | ⟨p, j⟩ | _ | _, _ | ⟨y | y | ⟨p', j'⟩ | _ | _, s'⟩⟩
  case cons.inl.cons.inr.inr.inl =>
    refine z7_sb _ (fun _ => ?_) (fun _ => s7_none h)
    refine z7_si _ (fun _ => ?_) (fun _ => s7_none h)
    match e with
    | 0 => exact s7_none h
    | 1 => exact z7_si _ (fun _ => z7_sk _ _ _ _ (z_l7_rfl h) fun _ => rfl) (fun _ => z7_sk _ _ _ _ (z_l7_rfl h) fun _ => rfl)
    | 2 => exact z7_si _ (fun _ => z7_sk _ _ _ _ (z_l7_rfl h) fun _ => rfl) (fun _ => s7_none h)
    | _ + 3 => exact s7_none h
  all_goals exact z7_sn fun _ => rfl
theorem s7_ast (q c : Nat) : z_s7 h (fun K => o_ast K pc l s h q c) := by
  unfold o_ast
  rcases s with _ | ⟨x | x | ⟨p, j⟩ | _ | _, _ | ⟨y | y | ⟨p', j'⟩ | _ | _, _ | ⟨w | w | ⟨p1, j1⟩ | _ | _, s'⟩⟩⟩
  case cons.inr.inr.inl.cons.inl.cons.inr.inr.inl =>
    refine z7_sb _ (fun _ => ?_) (fun _ => s7_none h)
    exact z7_si _ (fun _ => z7_sk _ _ _ _ (z_l7_pR h _ _ _ _) fun _ => rfl) (fun _ => s7_none h)
  all_goals exact z7_sn fun _ => rfl
theorem s7_len : z_s7 h (fun K => o_len K pc l s h) := by
  unfold o_len
  rcases s with _ | ⟨x | x | ⟨p, j⟩ | _ | _, s'⟩
  case cons.inr.inr.inl => exact z7_sb _ (fun _ => z7_sk _ _ _ _ (z_l7_rfl h) fun _ => rfl) (fun _ => z7_sb _ (fun _ => z7_sk _ _ _ _ (z_l7_rfl h) fun _ => rfl) (fun _ => z7_sb _ (fun _ => z7_sk _ _ _ _ (z_l7_rfl h) fun _ => rfl) (fun _ => s7_none h)))
  all_goals exact z7_sn fun _ => rfl
theorem s7_new (p t b : Nat) (hp : p ≠ 7) (ht : t ≠ 7) : z_s7 h (fun K => o_new K pc l s h p t b) := by
  unfold o_new
  exact z7_si _ (fun _ => s7_none h) (fun _ => z7_sk _ _ _ _ (z_l7_nw hp ht h _ _) fun _ => rfl)
theorem s7_na (p t b : Nat) (hp : p ≠ 7) (ht : t ≠ 7) : z_s7 h (fun K => o_na K pc l s h p t b) := by
  unfold o_na
  rcases s with _ | ⟨x | x | ⟨p0, j⟩ | _ | _, s'⟩
  case cons.inl => exact z7_sb _ (fun _ => z7_si _ (fun _ => s7_none h) (fun _ => z7_sk _ _ _ _ (z_l7_nw hp ht h _ _) fun _ => rfl)) (fun _ => s7_none h)
  all_goals exact z7_sn fun _ => rfl
theorem s7_cln (p t b : Nat) (hp : p ≠ 7) (ht : t ≠ 7) : z_s7 h (fun K => o_cln K pc l s h p t b) := by
  unfold o_cln
  rcases s with _ | ⟨x | x | ⟨q, j⟩ | _ | _, s'⟩
  case cons.inr.inr.inl => exact z7_sb _ (fun _ => z7_si _ (fun _ => s7_none h) (fun _ => z7_sk _ _ _ _ (z_l7_trans (z_l7_nw hp ht h _ _) (z_l7_pA hp _ _ _)) fun _ => rfl)) (fun _ => s7_none h)
  all_goals exact z7_sn fun _ => rfl
theorem s7_cst : z_s7 h (fun K => o_cst K pc l s h) := by
  unfold o_cst
  rcases s with _ | ⟨x | x | ⟨q, j⟩ | _ | _, s'⟩
  case cons.inr.inr.inl => exact z7_sb _ (fun _ => z7_sk _ _ _ _ (z_l7_rfl h) fun _ => rfl) (fun _ => s7_none h)
  all_goals exact z7_sn fun _ => rfl
theorem s7_cpy : z_s7 h (fun K => o_cpy K pc l s h) := by
  have key : ∀ s, (∀ K, o_cpy K pc l s h = none) ∨ ∃ n d q j a p i s', s = Sum.inl n :: Sum.inl d :: Sum.inr (Sum.inr (Sum.inl (q, j))) :: Sum.inl a :: Sum.inr (Sum.inr (Sum.inl (p, i))) :: s' := by
    intro s
    unfold o_cpy
    split
    · exact Or.inr ⟨_, _, _, _, _, _, _, _, rfl⟩
    · exact Or.inl fun _ => rfl
  rcases key s with hn | ⟨n, d, q, j, a, p, i, s', rfl⟩
  · exact z7_sn hn
  · unfold o_cpy
    refine z7_sb _ (fun hb => ?_) (fun _ => s7_none h)
    have hq : q ≠ 7 := fun z => by
      rw [z] at hb
      simp [z_kd] at hb
    exact z7_si _ (fun _ => z7_sk _ _ _ _ (z_l7_pA hq h _ _) fun _ => rfl) (fun _ => s7_none h)
theorem s7_call (call : Nat → List z_V → z_H → Option z_A) (hc : ∀ y a h r h', call y a h = some (r, h') → z_l7 h h') (y n q : Nat) : z_s7 h (fun K => o_call K pc l s h call y n q) := by
  unfold o_call
  refine z7_sb _ (fun _ => ?_) (fun _ => s7_none h)
  rcases hr : call y (s.take n).reverse h with _ | ⟨v, h'⟩
  · exact z7_sn fun _ => rfl
  · exact z7_sk _ _ _ _ (hc _ _ _ _ _ hr) fun _ => rfl
theorem s7_oin : z_s7 h (fun K => o_oin K pc l s h) := by
  unfold o_oin
  rcases s with _ | ⟨x | x | ⟨q, j⟩ | _ | _, s'⟩
  case cons.inr.inr.inl => exact z7_sb _ (fun _ => z7_sk _ _ _ _ (z_l7_rfl h) fun _ => rfl) (fun _ => s7_none h)
  all_goals exact z7_sn fun _ => rfl
theorem s7_tf (k : Nat) : z_s7 h (fun K => o_tf K pc l s h k) := by
  unfold o_tf
  rcases s with _ | ⟨x | x | ⟨p, j⟩ | _ | _, s'⟩
  case cons.inr.inr.inl =>
    refine z7_sb _ (fun _ => ?_) (fun _ => s7_none h)
    match k with
    | 0 => exact z7_sk _ _ _ _ (z_l7_rfl h) fun _ => rfl
    | _ + 1 => exact z7_sk _ _ _ _ (z_l7_rfl h) fun _ => rfl
  all_goals exact z7_sn fun _ => rfl
theorem s7_ret (a : Nat) : z_s7 h (fun _ => o_ret s h a) := by
  refine Or.inl ⟨_, fun _ => rfl, fun r h' e => ?_⟩
  unfold o_ret at e
  split at e
  · split at e
    · cases e; exact z_l7_rfl h
    · split at e
      · cases e; exact z_l7_rfl h
      · cases e
  · cases e
theorem s7_art : z_s7 h (fun _ => o_art s h) := by
  refine Or.inl ⟨_, fun _ => rfl, fun r h' e => ?_⟩
  unfold o_art at e
  split at e
  · cases e; exact z_l7_rfl h
  · cases e
theorem s7_vrt : z_s7 h (fun _ => o_vrt s h) := by
  refine Or.inl ⟨_, fun _ => rfl, fun r h' e => ?_⟩
  unfold o_vrt at e
  split at e
  · cases e; exact z_l7_rfl h
  · cases e
end
/-- no field of the script, no new one -/
def good7 (it : z_It) : Bool := match it with
  | (_, ins, a, b, c, _, _, _, _) =>
    match ins with
    | .putfield _ => a != 7
    | .new _ => a != 7 && b != 7
    | .newarray _ => a != 7 && b != 7
    | .anewarray _ => a != 7 && b != 7
    | .invokevirtual _ => a == 0 || (b != 7 && c != 7)
    | _ => true
set_option maxHeartbeats 4000000 in
theorem st1_s7 (call : Nat → List z_V → z_H → Option z_A) (hc : ∀ y a h r h', call y a h = some (r, h') → z_l7 h h') (pc : Nat) (it : z_It) (l s : List z_V) (h : z_H) (hg : good7 it = true) : z_s7 h (fun K => st1 call pc it l s h K) := by
  obtain ⟨n, ins, a, b, c, e, v, w, ts⟩ := it
  cases ins
  case iload_n i => exact s7_il _ l s h _
  case iload i => exact s7_il _ l s h _
  case lload_n i => exact s7_ll _ l s h _
  case aload_n i => exact s7_al _ l s h _
  case aload i => exact s7_al _ l s h _
  case istore_n i => exact s7_is _ l s h _
  case istore i => exact s7_is _ l s h _
  case lstore_n i => exact s7_ls _ l s h _
  case astore_n i => exact s7_as _ l s h _
  case astore i => exact s7_as _ l s h _
  case iinc i k => exact s7_ic _ l s h _ _
  case ldc k =>
    match a with
    | 0 => exact z7_sk _ _ _ _ (z_l7_rfl h) fun _ => rfl
    | _ + 1 => exact z7_sk _ _ _ _ (z_l7_rfl h) fun _ => rfl
  case dup => exact s7_dup _ l s h
  case dup2 => exact s7_dup2 _ l s h
  case pop => exact s7_pop _ l s h
  case idiv => exact s7_d _ l s h _
  case irem => exact s7_d _ l s h _
  case lcmp => exact s7_lc _ l s h
  case i2l => exact s7_i2l _ l s h
  case l2i => exact s7_l2i _ l s h
  case if_icmp cd k => exact s7_if2 _ l s h _ _
  case ifCond cd k => exact s7_if1 _ l s h _ _
  case ifnull k => exact s7_nul l s h _ _
  case ifnonnull k => exact s7_nul l s h _ _
  case tableswitch d lo hi o => exact s7_sw l s h _ _
  case getfield k => exact z7_sb _ (fun _ => s7_tf _ l s h _) (fun _ => s7_gf _ l s h _ _ _ _)
  case putfield k => exact s7_pf _ l s h _ _ _ (bne_iff_ne.mp hg)
  case iaload => exact s7_ia _ l s h _
  case caload => exact s7_ia _ l s h _
  case baload => exact s7_ia _ l s h _
  case iastore => exact s7_ist _ l s h _ _ (by decide)
  case castore => exact s7_ist _ l s h _ _ (by decide)
  case bastore => exact s7_ist _ l s h _ _ (by decide)
  case laload => exact s7_ja _ l s h
  case lastore => exact s7_jst _ l s h
  case aaload => exact s7_aa _ l s h _ _ _
  case aastore => exact s7_ast _ l s h _ _
  case arraylength => exact s7_len _ l s h
  case new k =>
    have hg' : (a != 7 && b != 7) = true := hg
    rw [Bool.and_eq_true, bne_iff_ne, bne_iff_ne] at hg'
    exact s7_new _ l s h _ _ _ hg'.1 hg'.2
  case newarray k =>
    have hg' : (a != 7 && b != 7) = true := hg
    rw [Bool.and_eq_true, bne_iff_ne, bne_iff_ne] at hg'
    exact s7_na _ l s h _ _ _ hg'.1 hg'.2
  case anewarray k =>
    have hg' : (a != 7 && b != 7) = true := hg
    rw [Bool.and_eq_true, bne_iff_ne, bne_iff_ne] at hg'
    exact s7_na _ l s h _ _ _ hg'.1 hg'.2
  case checkcast k => exact s7_cst _ l s h
  case invokestatic k =>
    match a with
    | 0 => exact s7_call _ l s h call hc _ _ _
    | _ + 1 => exact s7_cpy _ l s h
  case invokevirtual k =>
    match a with
    | 0 => exact s7_call _ l s h call hc _ _ _
    | a + 1 =>
      have hg' : ((a + 1 == 0) || (b != 7 && c != 7)) = true := hg
      rw [show ((a + 1 == 0) : Bool) = false from rfl, Bool.false_or, Bool.and_eq_true, bne_iff_ne, bne_iff_ne] at hg'
      exact s7_cln _ l s h _ _ _ hg'.1 hg'.2
  case invokespecial k =>
    match a with
    | 0 => exact s7_call _ l s h call hc _ _ _
    | 1 => exact s7_call _ l s h call hc _ _ _
    | _ + 2 => exact s7_oin _ l s h
  case ireturn => exact s7_ret s h _
  case areturn => exact s7_art s h
  case return_ => exact s7_vrt s h
  all_goals first
    | exact z7_sn fun _ => rfl
    | exact z7_sk _ _ _ _ (z_l7_rfl h) fun _ => rfl
    | exact s7_b _ l s h _
    | exact s7_bl _ l s h _
    | exact s7_sl _ l s h _
    | exact s7_u _ l s h _
theorem cds7 : z_cds.all (fun l => l.all (fun q => good7 q.2)) = true := by decide +kernel
theorem code7 {y pc : Nat} {it : z_It} (h : z_code y pc = some it) : good7 it = true := by
  unfold z_code at h
  have hm := z_lookup_mem _ h
  rw [List.getD_eq_getElem?_getD] at hm
  cases hx : z_cds[y]? with
  | none => rw [hx] at hm; cases hm
  | some l =>
    rw [hx] at hm
    exact List.all_eq_true.mp (List.all_eq_true.mp cds7 l (List.mem_of_getElem? hx)) (pc, it) hm
def z_g7 (call : Nat → List z_V → z_H → Option z_A) : Prop := ∀ y a h r h', call y a h = some (r, h') → z_l7 h h'
theorem exn_l7 {call : Nat → List z_V → z_H → Option z_A} (hc : z_g7 call) {y : Nat} : ∀ (n pc : Nat) (l s : List z_V) (h : z_H) (r : Option z_V) (h' : z_H), exn call y n pc l s h = some (r, h') → z_l7 h h' := by
  intro n
  induction n with
  | zero => intro pc l s h r h' e; cases e
  | succ n ih =>
    intro pc l s h r h' e
    rw [exn_succ] at e
    cases hz : z_code y pc with
    | none => rw [hz] at e; cases e
    | some it =>
      rw [hz] at e
      rcases st1_s7 call hc pc it l s h (code7 hz) with ⟨c, h1, h2⟩ | ⟨pc1, l1, s1, h1, q, h2⟩
      · exact h2 r h' ((h1 _).symm.trans e)
      · exact z_l7_trans q (ih pc1 l1 s1 h1 r h' ((h2 _).symm.trans e))
theorem Rn_g7 : ∀ d, z_g7 (Rn d) := by
  intro d
  induction d with
  | zero => intro y a h r h' e; cases e
  | succ d ih =>
    intro y a h r h' e
    have e2 : (bif Nat.ble (z_sp a).length (z_ml y) then z_lim (Rn d) y 0 (z_ent (z_ml y) a) [] h else none) = some (r, h') := e
    cases hb : Nat.ble (z_sp a).length (z_ml y) with
    | false => rw [hb] at e2; cases e2
    | true =>
      rw [hb] at e2
      obtain ⟨n, e3⟩ := (z_lim_some (Rn_gr d)).mp e2
      exact exn_l7 ih n _ _ _ _ _ _ e3
