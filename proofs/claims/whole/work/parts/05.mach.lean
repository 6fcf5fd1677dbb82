/-! ===== an own machine: values, a flat heap of pools, one instruction, many instructions ===== -/
abbrev z_V : Type := Int32 ⊕ (Int64 ⊕ ((Nat × Nat) ⊕ Bool))
abbrev z_I (x : Int32) : z_V := Sum.inl x
abbrev z_L (x : Int64) : z_V := Sum.inr (Sum.inl x)
abbrev z_R (p i : Nat) : z_V := Sum.inr (Sum.inr (Sum.inl (p, i)))
abbrev z_N : z_V := Sum.inr (Sum.inr (Sum.inr false))
abbrev z_U : z_V := Sum.inr (Sum.inr (Sum.inr true))
/-- ints, longs, references (0: null, n+1: the n-th of its pool), which cells live, how many each site made, cells, slots -/
abbrev z_H : Type := (Nat → Nat → Nat → Int32) × (Nat → Nat → Nat → Int64) × (Nat → Nat → Nat → Nat) × (Nat → Nat → Bool) × (Nat → Nat) × Nat × Nat
def gI (h : z_H) (p i k : Nat) : Int32 := h.1 p i k
def gJ (h : z_H) (p i k : Nat) : Int64 := h.2.1 p i k
def gR (h : z_H) (p i k : Nat) : Nat := h.2.2.1 p i k
def gV (h : z_H) (p i : Nat) : Bool := h.2.2.2.1 p i
def gN (h : z_H) (s : Nat) : Nat := h.2.2.2.2.1 s
def gC (h : z_H) : Nat := h.2.2.2.2.2.1
def gS (h : z_H) : Nat := h.2.2.2.2.2.2
def z_u3 {α : Type} (f : Nat → Nat → Nat → α) (p i k : Nat) (v : α) : Nat → Nat → Nat → α := fun p' i' k' => if p' = p ∧ i' = i ∧ k' = k then v else f p' i' k'
def z_u2 {α : Type} (f : Nat → Nat → Nat → α) (p i : Nat) (v : Nat → α) : Nat → Nat → Nat → α := fun p' i' k' => if p' = p ∧ i' = i then v k' else f p' i' k'
def pI (h : z_H) (p i k : Nat) (v : Int32) : z_H := (z_u3 h.1 p i k v, h.2)
def pJ (h : z_H) (p i k : Nat) (v : Int64) : z_H := (h.1, z_u3 h.2.1 p i k v, h.2.2)
def pR (h : z_H) (p i k : Nat) (v : Nat) : z_H := (h.1, h.2.1, z_u3 h.2.2.1 p i k v, h.2.2.2)
/-- a whole row of ints anew -/
def pA (h : z_H) (p i : Nat) (v : Nat → Int32) : z_H := (z_u2 h.1 p i v, h.2)
/-- a cell of n slots, new, all 0, counted at the site s -/
def nw (h : z_H) (p i n s : Nat) : z_H :=
  (z_u2 h.1 p i (fun _ => 0), z_u2 h.2.1 p i (fun _ => 0), z_u2 h.2.2.1 p i (fun _ => 0), (fun p' i' => if p' = p ∧ i' = i then true else h.2.2.2.1 p' i'), (fun s' => if s' = s then h.2.2.2.2.1 s + 1 else h.2.2.2.2.1 s'), h.2.2.2.2.2.1 + 1, h.2.2.2.2.2.2 + n)
/-- a pool's number: length * 1000 + its own number * 10 + its kind -/
abbrev z_kd (p : Nat) : Nat := p % 10
abbrev z_sq (p : Nat) : Nat := p / 10 % 100
abbrev z_ln (p : Nat) : Nat := p / 1000
def z_in (i : Int32) (n : Nat) : Bool := !decide (i < 0) && decide (i.toNatClampNeg < n)
def z_bz (x : Int32) : Bool := x == 0 || x == 1
/-- what a call gives: its answer, the heap -/
abbrev z_A : Type := Option z_V × z_H
abbrev z_K : Type := Nat → List z_V → List z_V → z_H → Option z_A
abbrev z_It : Type := Nat × Instr × Nat × Nat × Nat × Nat × Int32 × Int64 × List (Int32 × Nat)
def z_ld (l : List z_V) (i : Nat) : z_V := l.getD i z_U
/-- no long begins right ahead of a place -/
def z_nl (l : List z_V) (i : Nat) : Bool := match i with
  | 0 => true
  | j + 1 => match z_ld l j with
    | Sum.inr (Sum.inl _) => false
    | _ => true
def z_cat (v : z_V) : Nat := match v with
  | Sum.inr (Sum.inl _) => 2
  | _ => 1
def z_cs (s : List z_V) : Nat := match s with
  | [] => 0
  | v :: r => z_cat v + z_cs r
/-- the texts of the class's constants -/
def z_tx (k : Nat) : String := ["abcdefVC", ">", "abcdef", "-", "/", "abcdefVC#", "_", "!"].getD k ""
def z_tl : List Nat := [8, 1, 6, 1, 1, 9, 1, 1]
def z_t8 : List (List Int32) := [[97, 98, 99, 100, 101, 102, 86, 67], [62], [97, 98, 99, 100, 101, 102], [45], [47], [97, 98, 99, 100, 101, 102, 86, 67, 35], [95], [33]]
def z_tn (k : Nat) : Nat := z_tl.getD k 0
def z_tc (k j : Nat) : Int32 := (z_t8.getD k []).getD j 0
section
variable (K : z_K) (pc : Nat) (l s : List z_V) (h : z_H)
def o_il (i : Nat) : Option z_A := match z_ld l i with
  | Sum.inl x => K pc l (z_I x :: s) h
  | _ => none
def o_ll (i : Nat) : Option z_A := match z_ld l i with
  | Sum.inr (Sum.inl x) => K pc l (z_L x :: s) h
  | _ => none
def o_al (i : Nat) : Option z_A := match z_ld l i with
  | Sum.inr (Sum.inr (Sum.inl (p, j))) => K pc l (z_R p j :: s) h
  | Sum.inr (Sum.inr (Sum.inr false)) => K pc l (z_N :: s) h
  | _ => none
def o_is (i : Nat) : Option z_A := match s with
  | Sum.inl x :: s' => bif z_nl l i && Nat.blt i l.length then K pc (l.set i (z_I x)) s' h else none
  | _ => none
def o_ls (i : Nat) : Option z_A := match s with
  | Sum.inr (Sum.inl x) :: s' => bif z_nl l i && Nat.blt (i + 1) l.length then K pc ((l.set i (z_L x)).set (i + 1) z_U) s' h else none
  | _ => none
def o_as (i : Nat) : Option z_A := match s with
  | Sum.inr (Sum.inr (Sum.inl (p, j))) :: s' => bif z_nl l i && Nat.blt i l.length then K pc (l.set i (z_R p j)) s' h else none
  | Sum.inr (Sum.inr (Sum.inr false)) :: s' => bif z_nl l i && Nat.blt i l.length then K pc (l.set i z_N) s' h else none
  | _ => none
def o_ic (i : Nat) (v : Int32) : Option z_A := match z_ld l i with
  | Sum.inl x => bif z_nl l i && Nat.blt i l.length then K pc (l.set i (z_I (x + v))) s h else none
  | _ => none
def o_b (f : Int32 → Int32 → Int32) : Option z_A := match s with
  | Sum.inl y :: Sum.inl x :: s' => K pc l (z_I (f x y) :: s') h
  | _ => none
def o_d (f : Int32 → Int32 → Int32) : Option z_A := match s with
  | Sum.inl y :: Sum.inl x :: s' => bif y == 0 then none else K pc l (z_I (f x y) :: s') h
  | _ => none
def o_bl (f : Int64 → Int64 → Int64) : Option z_A := match s with
  | Sum.inr (Sum.inl y) :: Sum.inr (Sum.inl x) :: s' => K pc l (z_L (f x y) :: s') h
  | _ => none
def o_sl (f : Int64 → Int32 → Int64) : Option z_A := match s with
  | Sum.inl y :: Sum.inr (Sum.inl x) :: s' => K pc l (z_L (f x y) :: s') h
  | _ => none
def o_lc : Option z_A := match s with
  | Sum.inr (Sum.inl y) :: Sum.inr (Sum.inl x) :: s' => K pc l (z_I (lg_cmp x y) :: s') h
  | _ => none
def o_u (f : Int32 → Int32) : Option z_A := match s with
  | Sum.inl x :: s' => K pc l (z_I (f x) :: s') h
  | _ => none
def o_i2l : Option z_A := match s with
  | Sum.inl x :: s' => K pc l (z_L x.toInt64 :: s') h
  | _ => none
def o_l2i : Option z_A := match s with
  | Sum.inr (Sum.inl x) :: s' => K pc l (z_I x.toInt32 :: s') h
  | _ => none
def o_dup : Option z_A := match s with
  | v :: s' => bif Nat.beq (z_cat v) 1 then K pc l (v :: v :: s') h else none
  | _ => none
def o_pop : Option z_A := match s with
  | v :: s' => bif Nat.beq (z_cat v) 1 then K pc l s' h else none
  | _ => none
def o_dup2 : Option z_A := match s with
  | v :: w :: s' => bif Nat.beq (z_cat v) 1 && Nat.beq (z_cat w) 1 then K pc l (v :: w :: v :: w :: s') h else none
  | _ => none
def z_cmp (c : Jvm.ClassFile.Cond) (x y : Int32) (a b : Option z_A) : Option z_A := match c with
  | .eq => if x = y then a else b
  | .ne => if x ≠ y then a else b
  | .lt => if x < y then a else b
  | .ge => if y ≤ x then a else b
  | .gt => if y < x then a else b
  | .le => if x ≤ y then a else b
def o_if2 (c : Jvm.ClassFile.Cond) (t : Nat) : Option z_A := match s with
  | Sum.inl y :: Sum.inl x :: s' => z_cmp c x y (K t l s' h) (K pc l s' h)
  | _ => none
def o_if1 (c : Jvm.ClassFile.Cond) (t : Nat) : Option z_A := match s with
  | Sum.inl x :: s' => z_cmp c x 0 (K t l s' h) (K pc l s' h)
  | _ => none
def o_nul (t e : Nat) : Option z_A := match s with
  | Sum.inr (Sum.inr (Sum.inl _)) :: s' => K e l s' h
  | Sum.inr (Sum.inr (Sum.inr false)) :: s' => K t l s' h
  | _ => none
def z_sw (x : Int32) (d : Option z_A) (ts : List (Int32 × Nat)) (k : Nat → Option z_A) : Option z_A := match ts with
  | [] => d
  | t :: r => if x = t.1 then k t.2 else z_sw x d r k
def o_sw (d : Nat) (ts : List (Int32 × Nat)) : Option z_A := match s with
  | Sum.inl x :: s' => z_sw x (K d l s' h) ts (fun t => K t l s' h)
  | _ => none
/-- a field: its object's pool, its place, the pool of what it refers to, how (0: an int; 1: any or null; 2 + n: set once, to the owner's place + n) -/
def o_gf (q k c e : Nat) : Option z_A := match s with
  | Sum.inr (Sum.inr (Sum.inl (p, i))) :: s' => bif Nat.beq p q then
      (match e with
      | 0 => K pc l (z_I (gI h p i k) :: s') h
      | 1 => if gR h p i k = 0 then K pc l (z_N :: s') h else K pc l (z_R c (gR h p i k - 1) :: s') h
      | n + 2 => if gR h p i k = i + n + 1 then K pc l (z_R c (i + n) :: s') h else none)
    else none
  | _ => none
def o_pf (q k c : Nat) : Option z_A := match s with
  | Sum.inl x :: Sum.inr (Sum.inr (Sum.inl (p, i))) :: s' => bif Nat.beq p q then
      (match c with
      | 0 => K pc l s' (pI h p i k x)
      | 1 => if z_bz x then K pc l s' (pI h p i k x) else none
      | _ => none)
    else none
  | Sum.inr (Sum.inr (Sum.inl (p1, j))) :: Sum.inr (Sum.inr (Sum.inl (p, i))) :: s' => bif Nat.beq p q && Nat.beq p1 c && Nat.blt 1 c then K pc l s' (pR h p i k (j + 1)) else none
  | _ => none
/-- a text's fields: its bytes, its coder -/
def o_tf (k : Nat) : Option z_A := match s with
  | Sum.inr (Sum.inr (Sum.inl (p, i))) :: s' => bif Nat.beq p 8 && Nat.blt i 8 then (match k with
      | 0 => K pc l (z_R 9 i :: s') h
      | _ => K pc l (z_I 0 :: s') h)
    else none
  | _ => none
/-- loads of ints: the kinds of arrays that it may be of -/
def o_ia (kd : Nat) : Option z_A := match s with
  | Sum.inl i :: Sum.inr (Sum.inr (Sum.inl (p, j))) :: s' => bif Nat.beq (z_kd p) kd then (if z_in i (z_ln p) then K pc l (z_I (gI h p j i.toNatClampNeg) :: s') h else none)
      else bif Nat.beq p 7 && Nat.beq kd 1 then (if z_in i (gN h 7) then K pc l (z_I (gI h 7 0 i.toNatClampNeg) :: s') h else none)
      else bif Nat.beq p 9 && Nat.beq kd 3 then (if z_in i (z_tn j) then K pc l (z_I (z_tc j i.toNatClampNeg) :: s') h else none) else none
  | _ => none
def o_ist (kd : Nat) (ok : Int32 → Bool) : Option z_A := match s with
  | Sum.inl x :: Sum.inl i :: Sum.inr (Sum.inr (Sum.inl (p, j))) :: s' => bif Nat.beq (z_kd p) kd then (if z_in i (z_ln p) && ok x then K pc l s' (pI h p j i.toNatClampNeg x) else none) else none
  | _ => none
def o_ja : Option z_A := match s with
  | Sum.inl i :: Sum.inr (Sum.inr (Sum.inl (p, j))) :: s' => bif Nat.beq (z_kd p) 4 then (if z_in i (z_ln p) then K pc l (z_L (gJ h p j i.toNatClampNeg) :: s') h else none) else none
  | _ => none
def o_jst : Option z_A := match s with
  | Sum.inr (Sum.inl x) :: Sum.inl i :: Sum.inr (Sum.inr (Sum.inl (p, j))) :: s' => bif Nat.beq (z_kd p) 4 then (if z_in i (z_ln p) then K pc l s' (pJ h p j i.toNatClampNeg x) else none) else none
  | _ => none
/-- loads of references: the array's pool, its elements' pool, how (1: any or null; 2: set once, to its own place) -/
def o_aa (q c e : Nat) : Option z_A := match s with
  | Sum.inl i :: Sum.inr (Sum.inr (Sum.inl (p, j))) :: s' => bif Nat.beq p q then (if z_in i (z_ln p) then
      (match e with
      | 1 => if gR h p j i.toNatClampNeg = 0 then K pc l (z_N :: s') h else K pc l (z_R c (gR h p j i.toNatClampNeg - 1) :: s') h
      | 2 => if gR h p j i.toNatClampNeg = i.toNatClampNeg + 1 then K pc l (z_R c i.toNatClampNeg :: s') h else none
      | _ => none) else none) else none
  | _ => none
def o_ast (q c : Nat) : Option z_A := match s with
  | Sum.inr (Sum.inr (Sum.inl (p1, k))) :: Sum.inl i :: Sum.inr (Sum.inr (Sum.inl (p, j))) :: s' => bif Nat.beq p q && Nat.beq p1 c then (if z_in i (z_ln p) then K pc l s' (pR h p j i.toNatClampNeg (k + 1)) else none) else none
  | _ => none
def o_len : Option z_A := match s with
  | Sum.inr (Sum.inr (Sum.inl (p, j))) :: s' => bif Nat.beq (z_kd p) 1 then K pc l (z_I (Int32.ofNat (z_ln p)) :: s') h
      else bif Nat.beq p 7 then K pc l (z_I (Int32.ofNat (gN h 7)) :: s') h
      else bif Nat.beq p 9 then K pc l (z_I (Int32.ofNat (z_tn j)) :: s') h else none
  | _ => none
def o_new (p t b : Nat) : Option z_A :=
  if gV h p (b + gN h t) then none else K pc l (z_R p (b + gN h t) :: s) (nw h p (b + gN h t) (z_ln p) t)
def o_na (p t b : Nat) : Option z_A := match s with
  | Sum.inl n :: s' => bif n == Int32.ofNat (z_ln p) then (if gV h p (b + gN h t) then none else K pc l (z_R p (b + gN h t) :: s') (nw h p (b + gN h t) (z_ln p) t)) else none
  | _ => none
def o_cln (p t b : Nat) : Option z_A := match s with
  | Sum.inr (Sum.inr (Sum.inl (q, j))) :: s' => bif Nat.beq (z_kd q) 1 && Nat.beq (z_ln q) (z_ln p) && Nat.ble (z_cs s') 8 then (if gV h p (b + gN h t) then none else K pc l (z_R p (b + gN h t) :: s') (pA (nw h p (b + gN h t) (z_ln p) t) p (b + gN h t) (fun k => gI h q j k))) else none
  | _ => none
def o_cst : Option z_A := match s with
  | Sum.inr (Sum.inr (Sum.inl (q, j))) :: s' => bif Nat.beq (z_kd q) 1 then K pc l (z_R q j :: s') h else none
  | _ => none
def o_cpy : Option z_A := match s with
  | Sum.inl n :: Sum.inl d :: Sum.inr (Sum.inr (Sum.inl (q, j))) :: Sum.inl a :: Sum.inr (Sum.inr (Sum.inl (p, i))) :: s' =>
    bif Nat.beq (z_kd p) 1 && Nat.beq (z_kd q) 1 && Nat.ble (z_cs s') 8 then
      (if ¬ n < 0 ∧ ¬ d < 0 ∧ ¬ a < 0 ∧ a.toNatClampNeg + n.toNatClampNeg ≤ z_ln p ∧ d.toNatClampNeg + n.toNatClampNeg ≤ z_ln q then
        K pc l s' (pA h q j (va_cpy (fun k => gI h p i k) (fun k => gI h q j k) a.toNatClampNeg d.toNatClampNeg n.toNatClampNeg)) else none) else none
  | _ => none
def z_cl (r : Option z_A) (k : Option z_V → z_H → Option z_A) : Option z_A := match r with
  | none => none
  | some (v, h) => k v h
/-- an answer on the stack -/
def z_ps (v : Option z_V) (s : List z_V) : List z_V := match v with
  | none => s
  | some x => x :: s
/-- a call: of n words the lowest is its receiver, if it is of a pool -/
def z_rc (v : z_V) (q : Nat) : Bool := match v with
  | Sum.inr (Sum.inr (Sum.inl (p, _))) => Nat.beq p q
  | _ => false
def o_call (call : Nat → List z_V → z_H → Option z_A) (y n q : Nat) : Option z_A :=
  bif Nat.ble n s.length && Nat.ble (z_cs (s.drop n)) 8 && (Nat.beq q 0 || z_rc ((s.take n).getLastD z_U) q) then z_cl (call y (s.take n).reverse h) (fun v h' => K pc l (z_ps v (s.drop n)) h') else none
/-- Object's own constructor -/
def o_oin : Option z_A := match s with
  | Sum.inr (Sum.inr (Sum.inl _)) :: s' => bif Nat.ble (z_cs s') 8 then K pc l s' h else none
  | _ => none
end
def o_ret (s : List z_V) (h : z_H) (a : Nat) : Option z_A := match s with
  | [Sum.inl x] => (match a with
    | 0 => some (some (z_I x), h)
    | _ => if z_bz x then some (some (z_I x), h) else none)
  | _ => none
def o_art (s : List z_V) (h : z_H) : Option z_A := match s with
  | [Sum.inr (Sum.inr (Sum.inl (p, i)))] => some (some (z_R p i), h)
  | _ => none
def o_vrt (s : List z_V) (h : z_H) : Option z_A := match s with
  | [] => some (none, h)
  | _ => none
def z_ush (x y : Int32) : Int32 := (x.toUInt32 >>> (y.toUInt32 &&& Int32.toUInt32 31)).toInt32
def z_lush (x : Int64) (y : Int32) : Int64 := (x.toUInt64 >>> (y.toInt64.toUInt64 &&& Int64.toUInt64 63)).toInt64
/-- one instruction -/
def st1 (call : Nat → List z_V → z_H → Option z_A) (pc : Nat) (it : z_It) (l s : List z_V) (h : z_H) (K : z_K) : Option z_A :=
  match it with
  | (n, ins, a, b, c, e, v, w, ts) =>
    match ins with
    | .iload_n i => o_il K (pc + n) l s h i.val
    | .iload i => o_il K (pc + n) l s h i
    | .lload_n i => o_ll K (pc + n) l s h i.val
    | .aload_n i => o_al K (pc + n) l s h i.val
    | .aload i => o_al K (pc + n) l s h i
    | .istore_n i => o_is K (pc + n) l s h i.val
    | .istore i => o_is K (pc + n) l s h i
    | .lstore_n i => o_ls K (pc + n) l s h i.val
    | .astore_n i => o_as K (pc + n) l s h i.val
    | .astore i => o_as K (pc + n) l s h i
    | .iinc i _ => o_ic K (pc + n) l s h i v
    | .iconst _ => K (pc + n) l (z_I v :: s) h
    | .bipush _ => K (pc + n) l (z_I v :: s) h
    | .sipush _ => K (pc + n) l (z_I v :: s) h
    | .ldc _ => (match a with
      | 0 => K (pc + n) l (z_I v :: s) h
      | _ => K (pc + n) l (z_R 8 b :: s) h)
    | .ldc_w _ => K (pc + n) l (z_I v :: s) h
    | .ldc2_w _ => K (pc + n) l (z_L w :: s) h
    | .aconst_null => K (pc + n) l (z_N :: s) h
    | .dup => o_dup K (pc + n) l s h
    | .dup2 => o_dup2 K (pc + n) l s h
    | .pop => o_pop K (pc + n) l s h
    | .iadd => o_b K (pc + n) l s h (fun x y => x + y)
    | .isub => o_b K (pc + n) l s h (fun x y => x - y)
    | .imul => o_b K (pc + n) l s h (fun x y => x * y)
    | .iand => o_b K (pc + n) l s h (fun x y => x &&& y)
    | .ior => o_b K (pc + n) l s h (fun x y => x ||| y)
    | .ixor => o_b K (pc + n) l s h (fun x y => x ^^^ y)
    | .ishl => o_b K (pc + n) l s h (fun x y => x <<< (y &&& 31))
    | .ishr => o_b K (pc + n) l s h (fun x y => x >>> (y &&& 31))
    | .iushr => o_b K (pc + n) l s h z_ush
    | .idiv => o_d K (pc + n) l s h (fun x y => x / y)
    | .irem => o_d K (pc + n) l s h (fun x y => x - x / y * y)
    | .ladd => o_bl K (pc + n) l s h (fun x y => x + y)
    | .land => o_bl K (pc + n) l s h (fun x y => x &&& y)
    | .lor => o_bl K (pc + n) l s h (fun x y => x ||| y)
    | .lshl => o_sl K (pc + n) l s h (fun x y => x <<< (y.toInt64 &&& 63))
    | .lshr => o_sl K (pc + n) l s h (fun x y => x >>> (y.toInt64 &&& 63))
    | .lushr => o_sl K (pc + n) l s h z_lush
    | .lcmp => o_lc K (pc + n) l s h
    | .i2l => o_i2l K (pc + n) l s h
    | .l2i => o_l2i K (pc + n) l s h
    | .i2b => o_u K (pc + n) l s h (fun x => x.toInt8.toInt32)
    | .i2s => o_u K (pc + n) l s h (fun x => x.toInt16.toInt32)
    | .i2c => o_u K (pc + n) l s h (fun x => (x.toUInt32 % 65536).toInt32)
    | .if_icmp cd _ => o_if2 K (pc + n) l s h cd a
    | .ifCond cd _ => o_if1 K (pc + n) l s h cd a
    | .ifnull _ => o_nul K l s h a (pc + n)
    | .ifnonnull _ => o_nul K l s h (pc + n) a
    | .goto _ => K a l s h
    | .tableswitch _ _ _ _ => o_sw K l s h a ts
    | .getfield _ => bif Nat.beq a 8 then o_tf K (pc + n) l s h b else o_gf K (pc + n) l s h a b c e
    | .getstatic _ => K (pc + n) l (z_I 1 :: s) h
    | .putfield _ => o_pf K (pc + n) l s h a b c
    | .iaload => o_ia K (pc + n) l s h 1
    | .caload => o_ia K (pc + n) l s h 2
    | .baload => o_ia K (pc + n) l s h 3
    | .iastore => o_ist K (pc + n) l s h 1 (fun _ => true)
    | .castore => o_ist K (pc + n) l s h 2 (fun x => z_in x 65536)
    | .bastore => o_ist K (pc + n) l s h 3 z_bz
    | .laload => o_ja K (pc + n) l s h
    | .lastore => o_jst K (pc + n) l s h
    | .aaload => o_aa K (pc + n) l s h a c e
    | .aastore => o_ast K (pc + n) l s h a c
    | .arraylength => o_len K (pc + n) l s h
    | .new _ => o_new K (pc + n) l s h a b c
    | .newarray _ => o_na K (pc + n) l s h a b c
    | .anewarray _ => o_na K (pc + n) l s h a b c
    | .checkcast _ => o_cst K (pc + n) l s h
    | .invokestatic _ => (match a with
      | 0 => o_call K (pc + n) l s h call b c 0
      | _ => o_cpy K (pc + n) l s h)
    | .invokevirtual _ => (match a with
      | 0 => o_call K (pc + n) l s h call b c e
      | _ => o_cln K (pc + n) l s h b c e)
    | .invokespecial _ => (match a with
      | 0 => o_call K (pc + n) l s h call b c e
      | 1 => o_call K (pc + n) l s h call b c e
      | _ => o_oin K (pc + n) l s h)
    | .ireturn => o_ret s h a
    | .areturn => o_art s h
    | .return_ => o_vrt s h
    | _ => none
