/-! ===== a step has one way on; running to the end; the equations of running ===== -/
def z_le (h h' : z_H) : Prop := gC h ≤ gC h' ∧ gS h ≤ gS h' ∧ ∀ p i, gV h p i = true → gV h' p i = true
theorem z_le_rfl (h : z_H) : z_le h h := ⟨Nat.le_refl _, Nat.le_refl _, fun _ _ q => q⟩
theorem z_le_trans {a b c : z_H} (h1 : z_le a b) (h2 : z_le b c) : z_le a c := ⟨Nat.le_trans h1.1 h2.1, Nat.le_trans h1.2.1 h2.2.1, fun p i q => h2.2.2 p i (h1.2.2 p i q)⟩
theorem z_le_pI (h : z_H) (p i k : Nat) (v : Int32) : z_le h (pI h p i k v) := z_le_rfl h
theorem z_le_pJ (h : z_H) (p i k : Nat) (v : Int64) : z_le h (pJ h p i k v) := z_le_rfl h
theorem z_le_pR (h : z_H) (p i k : Nat) (v : Nat) : z_le h (pR h p i k v) := z_le_rfl h
theorem z_le_pA (h : z_H) (p i : Nat) (v : Nat → Int32) : z_le h (pA h p i v) := z_le_rfl h
theorem z_le_nw (h : z_H) (p i n s : Nat) : z_le h (nw h p i n s) := by
  refine ⟨Nat.le_succ _, Nat.le_add_right _ _, fun p' i' q => ?_⟩
  show (if p' = p ∧ i' = i then true else h.2.2.2.1 p' i') = true
  split
  · rfl
  · exact q
/-- what a step does with what comes behind it: nothing, or it goes on at one state -/
def z_sel (h : z_H) (F : z_K → Option z_A) : Prop := (∃ c : Option z_A, (∀ K, F K = c) ∧ ∀ r h', c = some (r, h') → z_le h h') ∨ ∃ pc l s h', z_le h h' ∧ ∀ K, F K = K pc l s h'
theorem z_sn {h : z_H} {F : z_K → Option z_A} (e : ∀ K, F K = none) : z_sel h F := Or.inl ⟨none, e, fun _ _ q => by cases q⟩
theorem z_sk {h : z_H} {F : z_K → Option z_A} (pc : Nat) (l s : List z_V) (h' : z_H) (q : z_le h h') (e : ∀ K, F K = K pc l s h') : z_sel h F := Or.inr ⟨pc, l, s, h', q, e⟩
theorem z_si {h : z_H} {F G : z_K → Option z_A} (b : Prop) [Decidable b] (h1 : b → z_sel h F) (h2 : ¬ b → z_sel h G) : z_sel h (fun K => if b then F K else G K) := by
  by_cases q : b
  · have : (fun K => if b then F K else G K) = F := by funext K; rw [if_pos q]
    rw [this]; exact h1 q
  · have : (fun K => if b then F K else G K) = G := by funext K; rw [if_neg q]
    rw [this]; exact h2 q
theorem z_sb {h : z_H} {F G : z_K → Option z_A} (b : Bool) (h1 : b = true → z_sel h F) (h2 : b = false → z_sel h G) : z_sel h (fun K => bif b then F K else G K) := by
  cases b
  · exact h2 rfl
  · exact h1 rfl
section
variable (pc : Nat) (l s : List z_V) (h : z_H)
theorem sl_none : z_sel h (fun _ => none) := z_sn fun _ => rfl
theorem sl_il (i : Nat) : z_sel h (fun K => o_il K pc l s h i) := by
  unfold o_il
  rcases z_ld l i with x | x | ⟨p, j⟩ | _ | _
  · exact z_sk _ _ _ _ (z_le_rfl h) fun _ => rfl
  all_goals exact z_sn fun _ => rfl
theorem sl_ll (i : Nat) : z_sel h (fun K => o_ll K pc l s h i) := by
  unfold o_ll
  rcases z_ld l i with x | x | ⟨p, j⟩ | _ | _
  · exact z_sn fun _ => rfl
  · exact z_sk _ _ _ _ (z_le_rfl h) fun _ => rfl
  all_goals exact z_sn fun _ => rfl
theorem sl_al (i : Nat) : z_sel h (fun K => o_al K pc l s h i) := by
  unfold o_al
  rcases z_ld l i with x | x | ⟨p, j⟩ | _ | _
  · exact z_sn fun _ => rfl
  · exact z_sn fun _ => rfl
  · exact z_sk _ _ _ _ (z_le_rfl h) fun _ => rfl
  · exact z_sk _ _ _ _ (z_le_rfl h) fun _ => rfl
  · exact z_sn fun _ => rfl
theorem sl_is (i : Nat) : z_sel h (fun K => o_is K pc l s h i) := by
  unfold o_is
  rcases s with _ | ⟨x | x | ⟨p, j⟩ | _ | _, s'⟩
  case cons.inl => exact z_sb _ (fun _ => z_sk _ _ _ _ (z_le_rfl h) fun _ => rfl) (fun _ => sl_none h)
  all_goals exact z_sn fun _ => rfl
theorem sl_ls (i : Nat) : z_sel h (fun K => o_ls K pc l s h i) := by
  unfold o_ls
  rcases s with _ | ⟨x | x | ⟨p, j⟩ | _ | _, s'⟩
  case cons.inr.inl => exact z_sb _ (fun _ => z_sk _ _ _ _ (z_le_rfl h) fun _ => rfl) (fun _ => sl_none h)
  all_goals exact z_sn fun _ => rfl
theorem sl_as (i : Nat) : z_sel h (fun K => o_as K pc l s h i) := by
  unfold o_as
  rcases s with _ | ⟨x | x | ⟨p, j⟩ | _ | _, s'⟩
  case cons.inr.inr.inl => exact z_sb _ (fun _ => z_sk _ _ _ _ (z_le_rfl h) fun _ => rfl) (fun _ => sl_none h)
  case cons.inr.inr.inr.false => exact z_sb _ (fun _ => z_sk _ _ _ _ (z_le_rfl h) fun _ => rfl) (fun _ => sl_none h)
  all_goals exact z_sn fun _ => rfl
theorem sl_ic (i : Nat) (v : Int32) : z_sel h (fun K => o_ic K pc l s h i v) := by
  unfold o_ic
  rcases z_ld l i with x | x | ⟨p, j⟩ | _ | _
  · exact z_sb _ (fun _ => z_sk _ _ _ _ (z_le_rfl h) fun _ => rfl) (fun _ => sl_none h)
  all_goals exact z_sn fun _ => rfl
theorem sl_b (f : Int32 → Int32 → Int32) : z_sel h (fun K => o_b K pc l s h f) := by
  unfold o_b
  rcases s with _ | ⟨x | x | ⟨p, j⟩ | _ | _, _ | ⟨y | y | ⟨p', j'⟩ | _ | _, s'⟩⟩ <;> first | exact z_sn fun _ => rfl | exact z_sk _ _ _ _ (z_le_rfl h) fun _ => rfl
theorem sl_d (f : Int32 → Int32 → Int32) : z_sel h (fun K => o_d K pc l s h f) := by
  unfold o_d
  rcases s with _ | ⟨x | x | ⟨p, j⟩ | _ | _, _ | ⟨y | y | ⟨p', j'⟩ | _ | _, s'⟩⟩ <;> first | exact z_sn fun _ => rfl | exact z_sb _ (fun _ => sl_none h) (fun _ => z_sk _ _ _ _ (z_le_rfl h) fun _ => rfl)
theorem sl_bl (f : Int64 → Int64 → Int64) : z_sel h (fun K => o_bl K pc l s h f) := by
  unfold o_bl
  rcases s with _ | ⟨x | x | ⟨p, j⟩ | _ | _, _ | ⟨y | y | ⟨p', j'⟩ | _ | _, s'⟩⟩ <;> first | exact z_sn fun _ => rfl | exact z_sk _ _ _ _ (z_le_rfl h) fun _ => rfl
theorem sl_sl (f : Int64 → Int32 → Int64) : z_sel h (fun K => o_sl K pc l s h f) := by
  unfold o_sl
  rcases s with _ | ⟨x | x | ⟨p, j⟩ | _ | _, _ | ⟨y | y | ⟨p', j'⟩ | _ | _, s'⟩⟩ <;> first | exact z_sn fun _ => rfl | exact z_sk _ _ _ _ (z_le_rfl h) fun _ => rfl
theorem sl_lc : z_sel h (fun K => o_lc K pc l s h) := by
  unfold o_lc
  rcases s with _ | ⟨x | x | ⟨p, j⟩ | _ | _, _ | ⟨y | y | ⟨p', j'⟩ | _ | _, s'⟩⟩ <;> first | exact z_sn fun _ => rfl | exact z_sk _ _ _ _ (z_le_rfl h) fun _ => rfl
theorem sl_u (f : Int32 → Int32) : z_sel h (fun K => o_u K pc l s h f) := by
  unfold o_u
  rcases s with _ | ⟨x | x | ⟨p, j⟩ | _ | _, s'⟩ <;> first | exact z_sn fun _ => rfl | exact z_sk _ _ _ _ (z_le_rfl h) fun _ => rfl
theorem sl_i2l : z_sel h (fun K => o_i2l K pc l s h) := by
  unfold o_i2l
  rcases s with _ | ⟨x | x | ⟨p, j⟩ | _ | _, s'⟩ <;> first | exact z_sn fun _ => rfl | exact z_sk _ _ _ _ (z_le_rfl h) fun _ => rfl
theorem sl_l2i : z_sel h (fun K => o_l2i K pc l s h) := by
  unfold o_l2i
  rcases s with _ | ⟨x | x | ⟨p, j⟩ | _ | _, s'⟩ <;> first | exact z_sn fun _ => rfl | exact z_sk _ _ _ _ (z_le_rfl h) fun _ => rfl
theorem sl_dup : z_sel h (fun K => o_dup K pc l s h) := by
  unfold o_dup
  rcases s with _ | ⟨v, s'⟩
  · exact z_sn fun _ => rfl
  · exact z_sb _ (fun _ => z_sk _ _ _ _ (z_le_rfl h) fun _ => rfl) (fun _ => sl_none h)
theorem sl_pop : z_sel h (fun K => o_pop K pc l s h) := by
  unfold o_pop
  rcases s with _ | ⟨v, s'⟩
  · exact z_sn fun _ => rfl
  · exact z_sb _ (fun _ => z_sk _ _ _ _ (z_le_rfl h) fun _ => rfl) (fun _ => sl_none h)
theorem sl_dup2 : z_sel h (fun K => o_dup2 K pc l s h) := by
  unfold o_dup2
  rcases s with _ | ⟨v, _ | ⟨w, s'⟩⟩
  · exact z_sn fun _ => rfl
  · exact z_sn fun _ => rfl
  · exact z_sb _ (fun _ => z_sk _ _ _ _ (z_le_rfl h) fun _ => rfl) (fun _ => sl_none h)
theorem sl_cmp (c : Jvm.ClassFile.Cond) (x y : Int32) {F G : z_K → Option z_A} (h1 : z_sel h F) (h2 : z_sel h G) : z_sel h (fun K => z_cmp c x y (F K) (G K)) := by
  unfold z_cmp
  cases c <;> exact z_si _ (fun _ => h1) (fun _ => h2)
theorem sl_if2 (c : Jvm.ClassFile.Cond) (t : Nat) : z_sel h (fun K => o_if2 K pc l s h c t) := by
  unfold o_if2
  rcases s with _ | ⟨x | x | ⟨p, j⟩ | _ | _, _ | ⟨y | y | ⟨p', j'⟩ | _ | _, s'⟩⟩ <;> first | exact z_sn fun _ => rfl | exact sl_cmp h c _ _ (z_sk _ _ _ _ (z_le_rfl h) fun _ => rfl) (z_sk _ _ _ _ (z_le_rfl h) fun _ => rfl)
theorem sl_if1 (c : Jvm.ClassFile.Cond) (t : Nat) : z_sel h (fun K => o_if1 K pc l s h c t) := by
  unfold o_if1
  rcases s with _ | ⟨x | x | ⟨p, j⟩ | _ | _, s'⟩ <;> first | exact z_sn fun _ => rfl | exact sl_cmp h c _ _ (z_sk _ _ _ _ (z_le_rfl h) fun _ => rfl) (z_sk _ _ _ _ (z_le_rfl h) fun _ => rfl)
theorem sl_nul (t e : Nat) : z_sel h (fun K => o_nul K l s h t e) := by
  unfold o_nul
  rcases s with _ | ⟨x | x | ⟨p, j⟩ | _ | _, s'⟩ <;> first | exact z_sn fun _ => rfl | exact z_sk _ _ _ _ (z_le_rfl h) fun _ => rfl
theorem sl_swi (x : Int32) (ts : List (Int32 × Nat)) (d : Nat) (s' : List z_V) : z_sel h (fun K => z_sw x (K d l s' h) ts (fun t => K t l s' h)) := by
  induction ts with
  | nil => exact z_sk _ _ _ _ (z_le_rfl h) fun _ => rfl
  | cons t r ih => exact z_si (F := fun K => K t.2 l s' h) _ (fun _ => z_sk _ _ _ _ (z_le_rfl h) fun _ => rfl) (fun _ => ih)
theorem sl_sw (d : Nat) (ts : List (Int32 × Nat)) : z_sel h (fun K => o_sw K l s h d ts) := by
  unfold o_sw
  rcases s with _ | ⟨x | x | ⟨p, j⟩ | _ | _, s'⟩
  case cons.inl => exact sl_swi l h x ts d s'
  all_goals exact z_sn fun _ => rfl
theorem sl_gf (q k c e : Nat) : z_sel h (fun K => o_gf K pc l s h q k c e) := by
  unfold o_gf
  rcases s with _ | ⟨x | x | ⟨p, j⟩ | _ | _, s'⟩
  case cons.inr.inr.inl =>
    refine z_sb _ (fun _ => ?_) (fun _ => sl_none h)
    match e with
    | 0 => exact z_sk _ _ _ _ (z_le_rfl h) fun _ => rfl
    | 1 => exact z_si _ (fun _ => z_sk _ _ _ _ (z_le_rfl h) fun _ => rfl) (fun _ => z_sk _ _ _ _ (z_le_rfl h) fun _ => rfl)
    | n + 2 => exact z_si _ (fun _ => z_sk _ _ _ _ (z_le_rfl h) fun _ => rfl) (fun _ => sl_none h)
  all_goals exact z_sn fun _ => rfl
theorem sl_pf (q k c : Nat) : z_sel h (fun K => o_pf K pc l s h q k c) := by
  unfold o_pf
  rcases s with _ | ⟨x | x | ⟨p, j⟩ | _ | _, _ | ⟨y | y | ⟨p', j'⟩ | _ | _, s'⟩⟩
  case cons.inl.cons.inr.inr.inl =>
    refine z_sb _ (fun _ => ?_) (fun _ => sl_none h)
    match c with
    | 0 => exact z_sk _ _ _ _ (z_le_pI h _ _ _ _) fun _ => rfl
    | 1 => exact z_si _ (fun _ => z_sk _ _ _ _ (z_le_pI h _ _ _ _) fun _ => rfl) (fun _ => sl_none h)
    | _ + 2 => exact sl_none h
  case cons.inr.inr.inl.cons.inr.inr.inl => exact z_sb _ (fun _ => z_sk _ _ _ _ (z_le_pR h _ _ _ _) fun _ => rfl) (fun _ => sl_none h)
  all_goals exact z_sn fun _ => rfl
theorem sl_ia (kd : Nat) : z_sel h (fun K => o_ia K pc l s h kd) := by
  unfold o_ia
  rcases s with _ | ⟨x | x | ⟨p, j⟩ | _ | _, _ | ⟨y | y | ⟨p', j'⟩ | _ | _, s'⟩⟩
  case cons.inl.cons.inr.inr.inl =>
    refine z_sb _ (fun _ => ?_) (fun _ => z_sb _ (fun _ => ?_) (fun _ => z_sb _ (fun _ => ?_) (fun _ => sl_none h)))
    · exact z_si _ (fun _ => z_sk _ _ _ _ (z_le_rfl h) fun _ => rfl) (fun _ => sl_none h)
    · exact z_si _ (fun _ => z_sk _ _ _ _ (z_le_rfl h) fun _ => rfl) (fun _ => sl_none h)
    · exact z_si _ (fun _ => z_sk _ _ _ _ (z_le_rfl h) fun _ => rfl) (fun _ => sl_none h)
  all_goals exact z_sn fun _ => rfl
theorem sl_ist (kd : Nat) (ok : Int32 → Bool) : z_sel h (fun K => o_ist K pc l s h kd ok) := by
  unfold o_ist
  rcases s with _ | ⟨x | x | ⟨p, j⟩ | _ | _, _ | ⟨y | y | ⟨p', j'⟩ | _ | _, _ | ⟨w | w | ⟨p1, j1⟩ | _ | _, s'⟩⟩⟩
  case cons.inl.cons.inl.cons.inr.inr.inl =>
    refine z_sb _ (fun _ => ?_) (fun _ => sl_none h)
    exact z_si _ (fun _ => z_sk _ _ _ _ (z_le_pI h _ _ _ _) fun _ => rfl) (fun _ => sl_none h)
  all_goals exact z_sn fun _ => rfl
theorem sl_ja : z_sel h (fun K => o_ja K pc l s h) := by
  unfold o_ja
  rcases s with _ | ⟨x | x | ⟨p, j⟩ | _ | _, _ | ⟨y | y | ⟨p', j'⟩ | _ | _, s'⟩⟩
  case cons.inl.cons.inr.inr.inl =>
    refine z_sb _ (fun _ => ?_) (fun _ => sl_none h)
    exact z_si _ (fun _ => z_sk _ _ _ _ (z_le_rfl h) fun _ => rfl) (fun _ => sl_none h)
  all_goals exact z_sn fun _ => rfl
theorem sl_jst : z_sel h (fun K => o_jst K pc l s h) := by
  unfold o_jst
  rcases s with _ | ⟨x | x | ⟨p, j⟩ | _ | _, _ | ⟨y | y | ⟨p', j'⟩ | _ | _, _ | ⟨w | w | ⟨p1, j1⟩ | _ | _, s'⟩⟩⟩
  case cons.inr.inl.cons.inl.cons.inr.inr.inl =>
    refine z_sb _ (fun _ => ?_) (fun _ => sl_none h)
    exact z_si _ (fun _ => z_sk _ _ _ _ (z_le_pJ h _ _ _ _) fun _ => rfl) (fun _ => sl_none h)
  all_goals exact z_sn fun _ => rfl
theorem sl_aa (q c e : Nat) : z_sel h (fun K => o_aa K pc l s h q c e) := by
  unfold o_aa
  rcases s with _ | ⟨x | x | ⟨p, j⟩ | _ | _, _ | ⟨y | y | ⟨p', j'⟩ | _ | _, s'⟩⟩
  case cons.inl.cons.inr.inr.inl =>
    refine z_sb _ (fun _ => ?_) (fun _ => sl_none h)
    refine z_si _ (fun _ => ?_) (fun _ => sl_none h)
    match e with
    | 0 => exact sl_none h
    | 1 => exact z_si _ (fun _ => z_sk _ _ _ _ (z_le_rfl h) fun _ => rfl) (fun _ => z_sk _ _ _ _ (z_le_rfl h) fun _ => rfl)
    | 2 => exact z_si _ (fun _ => z_sk _ _ _ _ (z_le_rfl h) fun _ => rfl) (fun _ => sl_none h)
    | _ + 3 => exact sl_none h
  all_goals exact z_sn fun _ => rfl
theorem sl_ast (q c : Nat) : z_sel h (fun K => o_ast K pc l s h q c) := by
  unfold o_ast
  rcases s with _ | ⟨x | x | ⟨p, j⟩ | _ | _, _ | ⟨y | y | ⟨p', j'⟩ | _ | _, _ | ⟨w | w | ⟨p1, j1⟩ | _ | _, s'⟩⟩⟩
  case cons.inr.inr.inl.cons.inl.cons.inr.inr.inl =>
    refine z_sb _ (fun _ => ?_) (fun _ => sl_none h)
    exact z_si _ (fun _ => z_sk _ _ _ _ (z_le_pR h _ _ _ _) fun _ => rfl) (fun _ => sl_none h)
  all_goals exact z_sn fun _ => rfl
theorem sl_len : z_sel h (fun K => o_len K pc l s h) := by
  unfold o_len
  rcases s with _ | ⟨x | x | ⟨p, j⟩ | _ | _, s'⟩
  case cons.inr.inr.inl => exact z_sb _ (fun _ => z_sk _ _ _ _ (z_le_rfl h) fun _ => rfl) (fun _ => z_sb _ (fun _ => z_sk _ _ _ _ (z_le_rfl h) fun _ => rfl) (fun _ => z_sb _ (fun _ => z_sk _ _ _ _ (z_le_rfl h) fun _ => rfl) (fun _ => sl_none h)))
  all_goals exact z_sn fun _ => rfl
theorem sl_new (p t b : Nat) : z_sel h (fun K => o_new K pc l s h p t b) := by
  unfold o_new
  exact z_si _ (fun _ => sl_none h) (fun _ => z_sk _ _ _ _ (z_le_nw h _ _ _ _) fun _ => rfl)
theorem sl_na (p t b : Nat) : z_sel h (fun K => o_na K pc l s h p t b) := by
  unfold o_na
  rcases s with _ | ⟨x | x | ⟨p, j⟩ | _ | _, s'⟩
  case cons.inl => exact z_sb _ (fun _ => z_si _ (fun _ => sl_none h) (fun _ => z_sk _ _ _ _ (z_le_nw h _ _ _ _) fun _ => rfl)) (fun _ => sl_none h)
  all_goals exact z_sn fun _ => rfl
theorem sl_cln (p t b : Nat) : z_sel h (fun K => o_cln K pc l s h p t b) := by
  unfold o_cln
  rcases s with _ | ⟨x | x | ⟨q, j⟩ | _ | _, s'⟩
  case cons.inr.inr.inl => exact z_sb _ (fun _ => z_si _ (fun _ => sl_none h) (fun _ => z_sk _ _ _ _ (z_le_trans (z_le_nw h _ _ _ _) (z_le_pA _ _ _ _)) fun _ => rfl)) (fun _ => sl_none h)
  all_goals exact z_sn fun _ => rfl
theorem sl_cst : z_sel h (fun K => o_cst K pc l s h) := by
  unfold o_cst
  rcases s with _ | ⟨x | x | ⟨q, j⟩ | _ | _, s'⟩
  case cons.inr.inr.inl => exact z_sb _ (fun _ => z_sk _ _ _ _ (z_le_rfl h) fun _ => rfl) (fun _ => sl_none h)
  all_goals exact z_sn fun _ => rfl
theorem sl_cpy : z_sel h (fun K => o_cpy K pc l s h) := by
  have key : ∀ s, (∀ K, o_cpy K pc l s h = none) ∨ ∃ n d q j a p i s', s = Sum.inl n :: Sum.inl d :: Sum.inr (Sum.inr (Sum.inl (q, j))) :: Sum.inl a :: Sum.inr (Sum.inr (Sum.inl (p, i))) :: s' := by
    intro s
    unfold o_cpy
    split
    · exact Or.inr ⟨_, _, _, _, _, _, _, _, rfl⟩
    · exact Or.inl fun _ => rfl
  rcases key s with hn | ⟨n, d, q, j, a, p, i, s', rfl⟩
  · exact z_sn hn
  · unfold o_cpy
    refine z_sb _ (fun _ => ?_) (fun _ => sl_none h)
    exact z_si _ (fun _ => z_sk _ _ _ _ (z_le_pA h _ _ _) fun _ => rfl) (fun _ => sl_none h)
theorem sl_call (call : Nat → List z_V → z_H → Option z_A) (hc : ∀ y a h r h', call y a h = some (r, h') → z_le h h') (y n q : Nat) : z_sel h (fun K => o_call K pc l s h call y n q) := by
  unfold o_call
  refine z_sb _ (fun _ => ?_) (fun _ => sl_none h)
  rcases hr : call y (s.take n).reverse h with _ | ⟨v, h'⟩
  · exact z_sn fun _ => rfl
  · exact z_sk _ _ _ _ (hc _ _ _ _ _ hr) fun _ => rfl
theorem sl_oin : z_sel h (fun K => o_oin K pc l s h) := by
  unfold o_oin
  rcases s with _ | ⟨x | x | ⟨q, j⟩ | _ | _, s'⟩
  case cons.inr.inr.inl => exact z_sb _ (fun _ => z_sk _ _ _ _ (z_le_rfl h) fun _ => rfl) (fun _ => sl_none h)
  all_goals exact z_sn fun _ => rfl
theorem sl_tf (k : Nat) : z_sel h (fun K => o_tf K pc l s h k) := by
  unfold o_tf
  rcases s with _ | ⟨x | x | ⟨p, j⟩ | _ | _, s'⟩
  case cons.inr.inr.inl =>
    refine z_sb _ (fun _ => ?_) (fun _ => sl_none h)
    match k with
    | 0 => exact z_sk _ _ _ _ (z_le_rfl h) fun _ => rfl
    | _ + 1 => exact z_sk _ _ _ _ (z_le_rfl h) fun _ => rfl
  all_goals exact z_sn fun _ => rfl
theorem sl_ret (a : Nat) : z_sel h (fun _ => o_ret s h a) := by
  refine Or.inl ⟨_, fun _ => rfl, fun r h' e => ?_⟩
  unfold o_ret at e
  split at e
  · split at e
    · cases e; exact z_le_rfl h
    · split at e
      · cases e; exact z_le_rfl h
      · cases e
  · cases e
theorem sl_art : z_sel h (fun _ => o_art s h) := by
  refine Or.inl ⟨_, fun _ => rfl, fun r h' e => ?_⟩
  unfold o_art at e
  split at e
  · cases e; exact z_le_rfl h
  · cases e
theorem sl_vrt : z_sel h (fun _ => o_vrt s h) := by
  refine Or.inl ⟨_, fun _ => rfl, fun r h' e => ?_⟩
  unfold o_vrt at e
  split at e
  · cases e; exact z_le_rfl h
  · cases e
end
set_option maxHeartbeats 4000000 in
theorem st1_sel (call : Nat → List z_V → z_H → Option z_A) (hc : ∀ y a h r h', call y a h = some (r, h') → z_le h h') (pc : Nat) (it : z_It) (l s : List z_V) (h : z_H) : z_sel h (fun K => st1 call pc it l s h K) := by
  obtain ⟨n, ins, a, b, c, e, v, w, ts⟩ := it
  cases ins
  case iload_n i => exact sl_il _ l s h _
  case iload i => exact sl_il _ l s h _
  case lload_n i => exact sl_ll _ l s h _
  case aload_n i => exact sl_al _ l s h _
  case aload i => exact sl_al _ l s h _
  case istore_n i => exact sl_is _ l s h _
  case istore i => exact sl_is _ l s h _
  case lstore_n i => exact sl_ls _ l s h _
  case astore_n i => exact sl_as _ l s h _
  case astore i => exact sl_as _ l s h _
  case iinc i k => exact sl_ic _ l s h _ _
  case ldc k =>
    match a with
    | 0 => exact z_sk _ _ _ _ (z_le_rfl h) fun _ => rfl
    | _ + 1 => exact z_sk _ _ _ _ (z_le_rfl h) fun _ => rfl
  case dup => exact sl_dup _ l s h
  case dup2 => exact sl_dup2 _ l s h
  case pop => exact sl_pop _ l s h
  case idiv => exact sl_d _ l s h _
  case irem => exact sl_d _ l s h _
  case lcmp => exact sl_lc _ l s h
  case i2l => exact sl_i2l _ l s h
  case l2i => exact sl_l2i _ l s h
  case if_icmp cd k => exact sl_if2 _ l s h _ _
  case ifCond cd k => exact sl_if1 _ l s h _ _
  case ifnull k => exact sl_nul l s h _ _
  case ifnonnull k => exact sl_nul l s h _ _
  case tableswitch d lo hi o => exact sl_sw l s h _ _
  case getfield k => exact z_sb _ (fun _ => sl_tf _ l s h _) (fun _ => sl_gf _ l s h _ _ _ _)
  case putfield k => exact sl_pf _ l s h _ _ _
  case iaload => exact sl_ia _ l s h _
  case caload => exact sl_ia _ l s h _
  case baload => exact sl_ia _ l s h _
  case iastore => exact sl_ist _ l s h _ _
  case castore => exact sl_ist _ l s h _ _
  case bastore => exact sl_ist _ l s h _ _
  case laload => exact sl_ja _ l s h
  case lastore => exact sl_jst _ l s h
  case aaload => exact sl_aa _ l s h _ _ _
  case aastore => exact sl_ast _ l s h _ _
  case arraylength => exact sl_len _ l s h
  case new k => exact sl_new _ l s h _ _ _
  case newarray k => exact sl_na _ l s h _ _ _
  case anewarray k => exact sl_na _ l s h _ _ _
  case checkcast k => exact sl_cst _ l s h
  case invokestatic k =>
    match a with
    | 0 => exact sl_call _ l s h call hc _ _ _
    | _ + 1 => exact sl_cpy _ l s h
  case invokevirtual k =>
    match a with
    | 0 => exact sl_call _ l s h call hc _ _ _
    | _ + 1 => exact sl_cln _ l s h _ _ _
  case invokespecial k =>
    match a with
    | 0 => exact sl_call _ l s h call hc _ _ _
    | 1 => exact sl_call _ l s h call hc _ _ _
    | _ + 2 => exact sl_oin _ l s h
  case ireturn => exact sl_ret s h _
  case areturn => exact sl_art s h
  case return_ => exact sl_vrt s h
  all_goals first
    | exact z_sn fun _ => rfl
    | exact z_sk _ _ _ _ (z_le_rfl h) fun _ => rfl
    | exact sl_b _ l s h _
    | exact sl_bl _ l s h _
    | exact sl_sl _ l s h _
    | exact sl_u _ l s h _
