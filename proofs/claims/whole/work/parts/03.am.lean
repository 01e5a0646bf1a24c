/-! ===== a machine in small: the same instructions over a heap of plain functions; what it does is told by am_X, and part 09 says that the machine follows ===== -/
/-- a value: an int, a long, a reference (or null) to a cell of its own heap, a thing from outside -/
abbrev am_V : Type := Int32 ⊕ Int64 ⊕ Option Nat ⊕ Nat
abbrev v_i (x : Int32) : am_V := .inl x
abbrev v_l (x : Int64) : am_V := .inr (.inl x)
abbrev v_r (x : Option Nat) : am_V := .inr (.inr (.inl x))
abbrev v_x (x : Nat) : am_V := .inr (.inr (.inr x))
/-- the heap: (cells, slots), (kind, length) of each cell, its ints, longs, references; the script -/
abbrev am_H : Type := (Nat × Nat) × (Nat → Nat × Nat) × (Nat → Nat → Int32) × (Nat → Nat → Int64) × (Nat → Nat → Option Nat) × (Nat × (Nat → Int32))
def h_n (h : am_H) : Nat := h.1.1
def h_s (h : am_H) : Nat := h.1.2
def h_k (h : am_H) (o : Nat) : Nat := (h.2.1 o).1
def h_l (h : am_H) (o : Nat) : Nat := (h.2.1 o).2
def h_i (h : am_H) (o : Nat) : Nat → Int32 := h.2.2.1 o
def h_j (h : am_H) (o : Nat) : Nat → Int64 := h.2.2.2.1 o
def h_r (h : am_H) (o : Nat) : Nat → Option Nat := h.2.2.2.2.1 o
def h_x (h : am_H) : Nat × (Nat → Int32) := h.2.2.2.2.2
def am_up {α : Type} (f : Nat → α) (k : Nat) (v : α) : Nat → α := fun j => if j = k then v else f j
/-- a whole row of ints put -/
def p_a (h : am_H) (o : Nat) (f : Nat → Int32) : am_H := (h.1, h.2.1, am_up h.2.2.1 o f, h.2.2.2)
def p_b (h : am_H) (o : Nat) (f : Nat → Int64) : am_H := (h.1, h.2.1, h.2.2.1, am_up h.2.2.2.1 o f, h.2.2.2.2)
def p_c (h : am_H) (o : Nat) (f : Nat → Option Nat) : am_H := (h.1, h.2.1, h.2.2.1, h.2.2.2.1, am_up h.2.2.2.2.1 o f, h.2.2.2.2.2)
def p_i (h : am_H) (o k : Nat) (v : Int32) : am_H := p_a h o (am_up (h_i h o) k v)
def p_j (h : am_H) (o k : Nat) (v : Int64) : am_H := p_b h o (am_up (h_j h o) k v)
def p_r (h : am_H) (o k : Nat) (v : Option Nat) : am_H := p_c h o (am_up (h_r h o) k v)
/-- a new cell of a kind, of n slots -/
def p_n (h : am_H) (k n : Nat) : am_H := ((h_n h + 1, h_s h + n), am_up h.2.1 (h_n h) (k, n), am_up h.2.2.1 (h_n h) (fun _ => 0), am_up h.2.2.2.1 (h_n h) (fun _ => 0), am_up h.2.2.2.2.1 (h_n h) (fun _ => none), h.2.2.2.2.2)
/-- kinds: 0 to 12 an object of that class of am_cl; 20 int[], 21 byte[], 22 boolean[], 23 long[]; 30 + c an array of references to objects of class c -/
def am_is (h : am_H) (r : Option Nat) (k : Nat) : Prop := ∃ o, r = some o ∧ o < h_n h ∧ h_k h o = k
def am_ar (h : am_H) (r : Option Nat) (k : Nat) (i : Int32) : Prop := ∃ o, r = some o ∧ o < h_n h ∧ h_k h o = k ∧ vp_in i (h_l h o)
def am_an (h : am_H) (r : Option Nat) : Prop := ∃ o, r = some o ∧ o < h_n h ∧ (h_k h o = 20 ∨ h_k h o = 21 ∨ h_k h o = 23)
def am_cp (h : am_H) (a b : Option Nat) (sp dp n : Int32) : Prop := ∃ o q, a = some o ∧ o < h_n h ∧ h_k h o = 20 ∧ b = some q ∧ q < h_n h ∧ h_k h q = 20 ∧ ¬ sp < 0 ∧ ¬ dp < 0 ∧ ¬ n < 0 ∧ sp.toNatClampNeg + n.toNatClampNeg ≤ h_l h o ∧ dp.toNatClampNeg + n.toNatClampNeg ≤ h_l h q
/-- an entry of a method's code: the instruction; its length and four numbers; an int; a long; a table -/
abbrev am_E : Type := Instr × (Nat × Nat × Nat × Nat × Nat) × Int32 × Int64 × List (Int32 × Nat)
abbrev e_0 (i : Instr) (len : Nat) : am_E := (i, (len, 0, 0, 0, 0), 0, 0, [])
abbrev e_1 (i : Instr) (len a : Nat) : am_E := (i, (len, a, 0, 0, 0), 0, 0, [])
abbrev e_4 (i : Instr) (len a b c d : Nat) : am_E := (i, (len, a, b, c, d), 0, 0, [])
abbrev e_i (i : Instr) (len a : Nat) (v : Int32) : am_E := (i, (len, a, 0, 0, 0), v, 0, [])
abbrev e_l (i : Instr) (len : Nat) (v : Int64) : am_E := (i, (len, 0, 0, 0, 0), 0, v, [])
abbrev e_s (i : Instr) (len a : Nat) (t : List (Int32 × Nat)) : am_E := (i, (len, a, 0, 0, 0), 0, 0, t)
abbrev am_L : Type := List (Option am_V)
abbrev am_F : Type := Nat × am_L × List am_V × am_H
abbrev am_O : Type := Option (List Prop × am_F)
def am_sw (x : Int32) (d : Nat) : List (Int32 × Nat) → Nat
  | [] => d
  | (v, t) :: r => if x = v then t else am_sw x d r
def am_st1 (L : am_L) (i : Nat) (v : am_V) : am_L := L.set i (some v)
def am_w : List am_V → Nat
  | [] => 0
  | .inr (.inl _) :: r => 2 + am_w r
  | _ :: r => 1 + am_w r
section AMK
variable (pc : Nat) (L : am_L) (S : List am_V) (h : am_H)
def k_pu (v : am_V) : am_O := some ([], pc, L, v :: S, h)
def k_ild (i : Nat) : am_O := match L[i]? with
  | some (some (.inl x)) => some ([], pc, L, .inl x :: S, h)
  | _ => none
def k_lld (i : Nat) : am_O := match L[i]? with
  | some (some (.inr (.inl x))) => some ([], pc, L, .inr (.inl x) :: S, h)
  | _ => none
def k_ald (i : Nat) : am_O := match L[i]? with
  | some (some (.inr (.inr x))) => some ([], pc, L, .inr (.inr x) :: S, h)
  | _ => none
def k_ist (i : Nat) : am_O := match S with
  | .inl x :: r => if i < L.length then some ([], pc, L.set i (some (.inl x)), r, h) else none
  | _ => none
def k_lst (i : Nat) : am_O := match S with
  | .inr (.inl x) :: r => if i + 1 < L.length then some ([], pc, (L.set i (some (.inr (.inl x)))).set (i + 1) none, r, h) else none
  | _ => none
def k_ast (i : Nat) : am_O := match S with
  | .inr (.inr x) :: r => if i < L.length then some ([], pc, L.set i (some (.inr (.inr x))), r, h) else none
  | _ => none
def k_inc (i : Nat) (v : Int32) : am_O := match L[i]? with
  | some (some (.inl x)) => some ([], pc, L.set i (some (.inl (x + v))), S, h)
  | _ => none
def k_i2 (f : Int32 → Int32 → Int32) : am_O := match S with
  | .inl y :: .inl x :: r => some ([], pc, L, .inl (f x y) :: r, h)
  | _ => none
def k_i2d (f : Int32 → Int32 → Int32) : am_O := match S with
  | .inl y :: .inl x :: r => some ([¬ y = 0], pc, L, .inl (f x y) :: r, h)
  | _ => none
def k_l2 (f : Int64 → Int64 → Int64) : am_O := match S with
  | .inr (.inl y) :: .inr (.inl x) :: r => some ([], pc, L, .inr (.inl (f x y)) :: r, h)
  | _ => none
def k_l2d (f : Int64 → Int64 → Int64) : am_O := match S with
  | .inr (.inl y) :: .inr (.inl x) :: r => some ([¬ y = 0], pc, L, .inr (.inl (f x y)) :: r, h)
  | _ => none
def k_lsh (f : Int64 → Int32 → Int64) : am_O := match S with
  | .inl y :: .inr (.inl x) :: r => some ([], pc, L, .inr (.inl (f x y)) :: r, h)
  | _ => none
def k_lcm : am_O := match S with
  | .inr (.inl y) :: .inr (.inl x) :: r => some ([], pc, L, .inl (lg_cmp x y) :: r, h)
  | _ => none
def k_i1 (f : Int32 → Int32) : am_O := match S with
  | .inl x :: r => some ([], pc, L, .inl (f x) :: r, h)
  | _ => none
def k_il (f : Int32 → Int64) : am_O := match S with
  | .inl x :: r => some ([], pc, L, .inr (.inl (f x)) :: r, h)
  | _ => none
def k_li (f : Int64 → Int32) : am_O := match S with
  | .inr (.inl x) :: r => some ([], pc, L, .inl (f x) :: r, h)
  | _ => none
def am_c1 : am_V → Bool
  | .inr (.inl _) => false
  | _ => true
def k_dup : am_O := match S with
  | v :: r => if am_c1 v = true then some ([], pc, L, v :: v :: r, h) else none
  | _ => none
def k_pop : am_O := match S with
  | v :: r => if am_c1 v = true then some ([], pc, L, r, h) else none
  | _ => none
def k_du2 : am_O := match S with
  | v :: w :: r => if am_c1 v = true ∧ am_c1 w = true then some ([], pc, L, v :: w :: v :: w :: r, h) else none
  | _ => none
def k_if (t : Nat) (p : Int32 → Prop) [DecidablePred p] : am_O := match S with
  | .inl x :: r => some ([], if p x then t else pc, L, r, h)
  | _ => none
def k_ic (t : Nat) (p : Int32 → Int32 → Prop) [∀ x y, Decidable (p x y)] : am_O := match S with
  | .inl y :: .inl x :: r => some ([], if p x y then t else pc, L, r, h)
  | _ => none
def k_nul (t : Nat) : am_O := match S with
  | .inr (.inr (.inl x)) :: r => some ([], if x = none then t else pc, L, r, h)
  | _ => none
def k_nnu (t : Nat) : am_O := match S with
  | .inr (.inr (.inl x)) :: r => some ([], if x = none then pc else t, L, r, h)
  | _ => none
def k_swi (t : Nat) (ts : List (Int32 × Nat)) : am_O := match S with
  | .inl x :: r => some ([], am_sw x t ts, L, r, h)
  | _ => none
/-- a field's value by its type: 0 int, 1 long, 2 reference -/
def am_fv (h : am_H) (o k : Nat) : Nat → am_V
  | 0 => .inl (h_i h o k)
  | 1 => .inr (.inl (h_j h o k))
  | _ => .inr (.inr (.inl (h_r h o k)))
def k_get (ci k ty : Nat) : am_O := match S with
  | .inr (.inr (.inl x)) :: r => if ci < 20 then some ([am_is h x ci], pc, L, am_fv h (x.getD 0) k ty :: r, h) else none
  | .inr (.inr (.inr x)) :: r => if ci = 50 then (if x < 3 then (if k = 0 then some ([], pc, L, .inr (.inr (.inr (10 + x))) :: r, h) else some ([], pc, L, .inl 0 :: r, h)) else none) else none
  | _ => none
def k_put (ci k ty : Nat) (bo : Bool) : am_O := match S with
  | .inl v :: .inr (.inr (.inl x)) :: r => if ty = 0 then some (if bo = true then [am_is h x ci, v = 0 ∨ v = 1] else [am_is h x ci], pc, L, r, p_i h (x.getD 0) k v) else none
  | .inr (.inl v) :: .inr (.inr (.inl x)) :: r => if ty = 1 then some ([am_is h x ci], pc, L, r, p_j h (x.getD 0) k v) else none
  | .inr (.inr (.inl v)) :: .inr (.inr (.inl x)) :: r => if ty = 2 then some ([am_is h x ci], pc, L, r, p_r h (x.getD 0) k v) else none
  | _ => none
/-- the texts of the String constants: ids 0, 1, 2; their bytes are 10, 11, 12; the script is 20 -/
def k_iald : am_O := match S with
  | .inl i :: .inr (.inr (.inl x)) :: r => some ([am_ar h x 20 i], pc, L, .inl (h_i h (x.getD 0) i.toNatClampNeg) :: r, h)
  | .inl i :: .inr (.inr (.inr x)) :: r => if x = 20 then some ([vp_in i (h_x h).1], pc, L, .inl ((h_x h).2 i.toNatClampNeg) :: r, h) else none
  | _ => none
def k_bald (byt : List (List Int32)) (a : Nat) : am_O := match S with
  | .inl i :: .inr (.inr (.inl x)) :: r => if a = 21 ∨ a = 22 then some ([am_ar h x a i], pc, L, .inl (h_i h (x.getD 0) i.toNatClampNeg) :: r, h) else none
  | .inl i :: .inr (.inr (.inr x)) :: r => if 10 ≤ x ∧ x < 13 then some ([vp_in i (byt.getD (x - 10) []).length], pc, L, .inl ((byt.getD (x - 10) []).getD i.toNatClampNeg 0) :: r, h) else none
  | _ => none
def k_lald : am_O := match S with
  | .inl i :: .inr (.inr (.inl x)) :: r => some ([am_ar h x 23 i], pc, L, .inr (.inl (h_j h (x.getD 0) i.toNatClampNeg)) :: r, h)
  | _ => none
def k_aald (ci : Nat) : am_O := match S with
  | .inl i :: .inr (.inr (.inl x)) :: r => some ([am_ar h x (30 + ci) i], pc, L, .inr (.inr (.inl (h_r h (x.getD 0) i.toNatClampNeg))) :: r, h)
  | _ => none
def k_iast : am_O := match S with
  | .inl v :: .inl i :: .inr (.inr (.inl x)) :: r => some ([am_ar h x 20 i], pc, L, r, p_i h (x.getD 0) i.toNatClampNeg v)
  | _ => none
def k_bast (a : Nat) : am_O := match S with
  | .inl v :: .inl i :: .inr (.inr (.inl x)) :: r => if a = 21 then some ([am_ar h x 21 i], pc, L, r, p_i h (x.getD 0) i.toNatClampNeg (vp_nar .byte v)) else if a = 22 then some ([am_ar h x 22 i], pc, L, r, p_i h (x.getD 0) i.toNatClampNeg (vp_nar .boolean v)) else none
  | _ => none
def k_last : am_O := match S with
  | .inr (.inl v) :: .inl i :: .inr (.inr (.inl x)) :: r => some ([am_ar h x 23 i], pc, L, r, p_j h (x.getD 0) i.toNatClampNeg v)
  | _ => none
def k_aast (ci : Nat) : am_O := match S with
  | .inr (.inr (.inl v)) :: .inl i :: .inr (.inr (.inl x)) :: r => if ci < 13 then some ([am_is h v ci, am_ar h x (30 + ci) i], pc, L, r, p_r h (x.getD 0) i.toNatClampNeg v) else none
  | _ => none
def k_len (byt : List (List Int32)) : am_O := match S with
  | .inr (.inr (.inl x)) :: r => some ([am_an h x], pc, L, .inl (nI (h_l h (x.getD 0))) :: r, h)
  | .inr (.inr (.inr x)) :: r => if x = 20 then some ([], pc, L, .inl (nI (h_x h).1) :: r, h) else if 10 ≤ x ∧ x < 13 then some ([], pc, L, .inl (nI (byt.getD (x - 10) []).length) :: r, h) else none
  | _ => none
def k_newa (a : Nat) : am_O := match S with
  | .inl n :: r => some ([¬ n < 0, n.toNatClampNeg ≤ 100000], pc, L, .inr (.inr (.inl (some (h_n h)))) :: r, p_n h a n.toNatClampNeg)
  | _ => none
def k_new (ci n : Nat) : am_O := some ([], pc, L, .inr (.inr (.inl (some (h_n h)))) :: S, p_n h ci n)
def k_obj : am_O := match S with
  | .inr (.inr (.inl x)) :: r => if am_w r ≤ 40 then some ([¬ x = none], pc, L, r, h) else none
  | _ => none
def k_cpy : am_O := match S with
  | .inl n :: .inl dp :: .inr (.inr (.inl b)) :: .inl sp :: .inr (.inr (.inl a)) :: r => if am_w r ≤ 40 then some ([am_cp h a b sp dp n], pc, L, r, p_a h (b.getD 0) (va_cpy (h_i h (a.getD 0)) (h_i h (b.getD 0)) sp.toNatClampNeg dp.toNatClampNeg n.toNatClampNeg)) else none
  | _ => none
def k_mx : am_O := match S with
  | .inl y :: .inl x :: r => if am_w r ≤ 40 then some ([], pc, L, .inl (if x < y then y else x) :: r, h) else none
  | _ => none
def k_mn : am_O := match S with
  | .inl y :: .inl x :: r => if am_w r ≤ 40 then some ([], pc, L, .inl (if y < x then y else x) :: r, h) else none
  | _ => none
end AMK
/-- what 'getstatic' gives: 0: 1; 1: a thing from outside -/
def k_gst (pc : Nat) (L : am_L) (S : List am_V) (h : am_H) (a : Nat) : am_O := if a = 0 then some ([], pc, L, .inl 1 :: S, h) else if a = 1 then some ([], pc, L, .inr (.inr (.inr 30)) :: S, h) else none
def am_step (byt : List (List Int32)) (e : am_E) (pc : Nat) (L : am_L) (S : List am_V) (h : am_H) : am_O :=
  match e.1 with
  | .aconst_null => k_pu (pc + 1) L S h (v_r none)
  | .iconst _ => k_pu (pc + 1) L S h (v_i e.2.2.1)
  | .bipush _ => k_pu (pc + 2) L S h (v_i e.2.2.1)
  | .sipush _ => k_pu (pc + 3) L S h (v_i e.2.2.1)
  | .lconst _ => k_pu (pc + 1) L S h (v_l e.2.2.2.1)
  | .ldc _ => if e.2.1.2.1 = 0 then k_pu (pc + 2) L S h (v_i e.2.2.1) else if e.2.1.2.1 < 4 then k_pu (pc + 2) L S h (v_x (e.2.1.2.1 - 1)) else none
  | .ldc_w _ => k_pu (pc + 3) L S h (v_i e.2.2.1)
  | .ldc2_w _ => k_pu (pc + 3) L S h (v_l e.2.2.2.1)
  | .iload_n _ => k_ild (pc + 1) L S h e.2.1.2.1
  | .iload _ => k_ild (pc + 2) L S h e.2.1.2.1
  | .lload_n _ => k_lld (pc + 1) L S h e.2.1.2.1
  | .lload _ => k_lld (pc + 2) L S h e.2.1.2.1
  | .aload_n _ => k_ald (pc + 1) L S h e.2.1.2.1
  | .aload _ => k_ald (pc + 2) L S h e.2.1.2.1
  | .istore_n _ => k_ist (pc + 1) L S h e.2.1.2.1
  | .istore _ => k_ist (pc + 2) L S h e.2.1.2.1
  | .lstore_n _ => k_lst (pc + 1) L S h e.2.1.2.1
  | .lstore _ => k_lst (pc + 2) L S h e.2.1.2.1
  | .astore_n _ => k_ast (pc + 1) L S h e.2.1.2.1
  | .astore _ => k_ast (pc + 2) L S h e.2.1.2.1
  | .iinc _ _ => k_inc (pc + 3) L S h e.2.1.2.1 e.2.2.1
  | .iadd => k_i2 (pc + 1) L S h (fun x y => x + y)
  | .isub => k_i2 (pc + 1) L S h (fun x y => x - y)
  | .imul => k_i2 (pc + 1) L S h (fun x y => x * y)
  | .idiv => k_i2d (pc + 1) L S h (fun x y => x / y)
  | .irem => k_i2d (pc + 1) L S h (fun x y => x - x / y * y)
  | .iand => k_i2 (pc + 1) L S h (fun x y => x &&& y)
  | .ior => k_i2 (pc + 1) L S h (fun x y => x ||| y)
  | .ixor => k_i2 (pc + 1) L S h (fun x y => x ^^^ y)
  | .ishl => k_i2 (pc + 1) L S h (fun x y => x <<< (y &&& 31))
  | .ishr => k_i2 (pc + 1) L S h (fun x y => x >>> (y &&& 31))
  | .iushr => k_i2 (pc + 1) L S h (fun x y => (x.toUInt32 >>> (y.toUInt32 &&& Int32.toUInt32 31)).toInt32)
  | .ineg => k_i1 (pc + 1) L S h (fun x => -x)
  | .ladd => k_l2 (pc + 1) L S h (fun x y => x + y)
  | .lsub => k_l2 (pc + 1) L S h (fun x y => x - y)
  | .lmul => k_l2 (pc + 1) L S h (fun x y => x * y)
  | .ldiv => k_l2d (pc + 1) L S h (fun x y => x / y)
  | .lrem => k_l2d (pc + 1) L S h (fun x y => x - x / y * y)
  | .land => k_l2 (pc + 1) L S h (fun x y => x &&& y)
  | .lor => k_l2 (pc + 1) L S h (fun x y => x ||| y)
  | .lshl => k_lsh (pc + 1) L S h (fun x y => x <<< (y.toInt64 &&& 63))
  | .lshr => k_lsh (pc + 1) L S h (fun x y => x >>> (y.toInt64 &&& 63))
  | .lcmp => k_lcm (pc + 1) L S h
  | .i2l => k_il (pc + 1) L S h (fun x => x.toInt64)
  | .l2i => k_li (pc + 1) L S h (fun x => x.toInt32)
  | .i2b => k_i1 (pc + 1) L S h (fun x => x.toInt8.toInt32)
  | .i2s => k_i1 (pc + 1) L S h (fun x => x.toInt16.toInt32)
  | .i2c => k_i1 (pc + 1) L S h (fun x => (x.toUInt32 % 65536).toInt32)
  | .dup => k_dup (pc + 1) L S h
  | .dup2 => k_du2 (pc + 1) L S h
  | .pop => k_pop (pc + 1) L S h
  | .goto _ => some ([], e.2.1.2.1, L, S, h)
  | .ifCond .eq _ => k_if (pc + 3) L S h e.2.1.2.1 (fun x => x = 0)
  | .ifCond .ne _ => k_if (pc + 3) L S h e.2.1.2.1 (fun x => ¬ x = 0)
  | .ifCond .lt _ => k_if (pc + 3) L S h e.2.1.2.1 (fun x => x < 0)
  | .ifCond .ge _ => k_if (pc + 3) L S h e.2.1.2.1 (fun x => 0 ≤ x)
  | .ifCond .gt _ => k_if (pc + 3) L S h e.2.1.2.1 (fun x => 0 < x)
  | .ifCond .le _ => k_if (pc + 3) L S h e.2.1.2.1 (fun x => x ≤ 0)
  | .if_icmp .eq _ => k_ic (pc + 3) L S h e.2.1.2.1 (fun x y => x = y)
  | .if_icmp .ne _ => k_ic (pc + 3) L S h e.2.1.2.1 (fun x y => ¬ x = y)
  | .if_icmp .lt _ => k_ic (pc + 3) L S h e.2.1.2.1 (fun x y => x < y)
  | .if_icmp .ge _ => k_ic (pc + 3) L S h e.2.1.2.1 (fun x y => y ≤ x)
  | .if_icmp .gt _ => k_ic (pc + 3) L S h e.2.1.2.1 (fun x y => y < x)
  | .if_icmp .le _ => k_ic (pc + 3) L S h e.2.1.2.1 (fun x y => x ≤ y)
  | .ifnull _ => k_nul (pc + 3) L S h e.2.1.2.1
  | .ifnonnull _ => k_nnu (pc + 3) L S h e.2.1.2.1
  | .tableswitch _ _ _ _ => k_swi L S h e.2.1.2.1 e.2.2.2.2
  | .lookupswitch _ _ => k_swi L S h e.2.1.2.1 e.2.2.2.2
  | .getfield _ => k_get (pc + 3) L S h e.2.1.2.1 e.2.1.2.2.1 e.2.1.2.2.2.1
  | .putfield _ => k_put (pc + 3) L S h e.2.1.2.1 e.2.1.2.2.1 e.2.1.2.2.2.1 (e.2.1.2.2.2.2 % 10 == 5)
  | .getstatic _ => k_gst (pc + 3) L S h e.2.1.2.1
  | .iaload => k_iald (pc + 1) L S h
  | .baload => k_bald (pc + 1) L S h byt e.2.1.2.1
  | .laload => k_lald (pc + 1) L S h
  | .aaload => k_aald (pc + 1) L S h e.2.1.2.1
  | .iastore => k_iast (pc + 1) L S h
  | .bastore => k_bast (pc + 1) L S h e.2.1.2.1
  | .lastore => k_last (pc + 1) L S h
  | .aastore => k_aast (pc + 1) L S h e.2.1.2.1
  | .arraylength => k_len (pc + 1) L S h byt
  | .newarray _ => k_newa (pc + 2) L S h e.2.1.2.1
  | .anewarray _ => k_newa (pc + 3) L S h (30 + e.2.1.2.1)
  | .new _ => k_new (pc + 3) L S h e.2.1.2.1 e.2.1.2.2.1
  | .invokespecial _ => if e.2.1.2.2.2.2 = 6 then k_obj (pc + 3) L S h else none
  | .invokestatic _ => if e.2.1.2.2.2.2 = 7 then k_cpy (pc + 3) L S h else if e.2.1.2.2.2.2 = 8 then k_mx (pc + 3) L S h else if e.2.1.2.2.2.2 = 9 then k_mn (pc + 3) L S h else none
  | _ => none
/-- a call of method j with na arguments, of a flavour below 6: 0 virtual, 1 virtual of a nest mate, 2 static, 3 static of a nest mate, 4 a constructor, 5 a constructor of a nest mate -/
def am_call (e : am_E) : Option (Nat × Nat × Nat × Nat) :=
  match e.1 with
  | .invokevirtual _ => if e.2.1.2.2.2.2 < 2 then some (e.2.1.2.1, e.2.1.2.2.1, e.2.1.2.2.2.1, e.2.1.2.2.2.2) else none
  | .invokestatic _ => if e.2.1.2.2.2.2 = 2 ∨ e.2.1.2.2.2.2 = 3 then some (e.2.1.2.1, e.2.1.2.2.1, e.2.1.2.2.2.1, e.2.1.2.2.2.2) else none
  | .invokespecial _ => if e.2.1.2.2.2.2 = 4 ∨ e.2.1.2.2.2.2 = 5 then some (e.2.1.2.1, e.2.1.2.2.1, e.2.1.2.2.2.1, e.2.1.2.2.2.2) else none
  | _ => none
/-- the locals at a method's entry -/
def am_sl : List am_V → am_L
  | [] => []
  | .inr (.inl x) :: r => some (.inr (.inl x)) :: none :: am_sl r
  | v :: r => some v :: am_sl r
def am_lo (n : Nat) (a : List am_V) : am_L := am_sl a ++ List.replicate (n - (am_sl a).length) none
/-- the receiver: an object of class ci; a String constant where ci is 50 -/
def am_rc (h : am_H) (ci : Nat) : List am_V → Prop
  | .inr (.inr (.inl x)) :: _ => ci < 20 ∧ am_is h x ci
  | .inr (.inr (.inr x)) :: _ => ci = 50 ∧ x < 3
  | _ => False
/-- an answer of one int must fit the method's type: 0 int, 1 boolean, 2 byte, 3 char -/
def am_fit (t : Nat) (x : Int32) : Prop := match t with
  | 0 => True
  | 1 => x = 0 ∨ x = 1
  | 2 => x.toInt8.toInt32 = x
  | 3 => (x.toUInt32 % 65536).toInt32 = x
  | _ => False
/-- what a program is: of each method its code by places, the size of its locals, the type of its answer, the places of its longs -/
abbrev am_P : Type := Nat → List (Option am_E) × Nat × Nat × List Nat
/-- longs stand in the places of a list alone -/
def am_lgB (lg : List Nat) : Nat → am_L → Bool
  | _, [] => true
  | i, some (.inr (.inl _)) :: r => lg.contains i && am_lgB lg (i + 1) r
  | i, _ :: r => am_lgB lg (i + 1) r
def am_isr (i : Instr) : Bool := match i with
  | .return_ => true
  | .ireturn => true
  | .lreturn => true
  | .areturn => true
  | _ => false
def am_ret (i : Instr) (t : Nat) (S : List am_V) : Option (Prop × Option am_V) := match i with
  | .return_ => match S with
    | [] => some (t = 9, none)
    | _ => none
  | .ireturn => match S with
    | [.inl x] => some (am_fit t x, some (.inl x))
    | _ => none
  | .lreturn => match S with
    | [.inr (.inl x)] => some (t = 4, some (.inr (.inl x)))
    | _ => none
  | .areturn => match S with
    | [.inr (.inr (.inl x))] => some (t = 5, some (.inr (.inr (.inl x))))
    | _ => none
  | _ => none
def am_all : List Prop → Prop → Prop
  | [], q => q
  | p :: r, q => p ∧ am_all r q
/-- a call may be made -/
def am_cok (P : am_P) (h : am_H) (S : List am_V) (j na ci fl : Nat) : Prop :=
  (na ≤ S.length ∧ am_w (S.drop na) ≤ 8 ∧ (am_sl (S.take na).reverse).length ≤ (P j).2.1 ∧ am_lgB (P j).2.2.2 0 (am_sl (S.take na).reverse) = true) ∧ (fl = 2 ∨ fl = 3 ∨ am_rc h ci (S.take na).reverse)
def am_X (byt : List (List Int32)) (P : am_P) : Nat → Nat → Nat → am_F → (Option am_V → am_H → Prop) → Prop
  | 0, _, _, _, _ => False
  | n + 1, d, k, f, Q =>
    match (P k).1[f.1]? with
    | some (some e) => match am_isr e.1 with
      | true => match am_ret e.1 (P k).2.2.1 f.2.2.1 with
        | some r => r.1 ∧ Q r.2 f.2.2.2
        | none => False
      | false => match am_call e with
        | some c => am_cok P f.2.2.2 f.2.2.1 c.1 c.2.1 c.2.2.1 c.2.2.2 ∧
          match d with
          | 0 => False
          | d + 1 => am_X byt P n d c.1 (0, am_lo (P c.1).2.1 (f.2.2.1.take c.2.1).reverse, [], f.2.2.2) (fun r h' => am_X byt P n (d + 1) k (f.1 + 3, f.2.1, r.toList ++ f.2.2.1.drop c.2.1, h') Q)
        | none => match am_step byt e f.1 f.2.1 f.2.2.1 f.2.2.2 with
          | some g => am_all g.1 (am_X byt P n d k g.2 Q)
          | none => False
    | _ => False
theorem am_all_imp {ok : List Prop} {A B : Prop} (h : A → B) : am_all ok A → am_all ok B := by
  induction ok with
  | nil => exact h
  | cons p r ih => exact fun x => ⟨x.1, ih x.2⟩
theorem am_all_iff {ok : List Prop} {A B : Prop} (h : A ↔ B) : am_all ok A ↔ am_all ok B := ⟨am_all_imp h.1, am_all_imp h.2⟩
theorem am_all_ex {ι : Type} {ok : List Prop} {A : ι → Prop} : (∃ i, am_all ok (A i)) ↔ am_all ok (∃ i, A i) := by
  induction ok with
  | nil => exact Iff.rfl
  | cons p r ih =>
    constructor
    · rintro ⟨i, hp, hi⟩
      exact ⟨hp, ih.1 ⟨i, hi⟩⟩
    · rintro ⟨hp, hi⟩
      obtain ⟨i, hi⟩ := ih.2 hi
      exact ⟨i, hp, hi⟩
theorem am_all_and {ok : List Prop} {A B : Prop} (h : am_all ok A) (k : A → B) : am_all ok (A ∧ B) := am_all_imp (fun a => ⟨a, k a⟩) h
theorem am_all_app (ok ok' : List Prop) (A : Prop) : am_all (ok ++ ok') A = am_all ok (am_all ok' A) := by
  induction ok with
  | nil => rfl
  | cons p r ih => simp only [List.cons_append, am_all, ih]
section AMX
variable {byt : List (List Int32)} {P : am_P}
theorem am_mono : ∀ (n : Nat) {d k : Nat} {f : am_F} {Q Q' : Option am_V → am_H → Prop}, (∀ r h, Q r h → Q' r h) → am_X byt P n d k f Q → am_X byt P n d k f Q' := by
  intro n
  induction n with
  | zero => intro d k f Q Q' _ h; exact h
  | succ n ih =>
    intro d k f Q Q' hQ h
    unfold am_X at h ⊢
    split at h
    · split at h
      · split at h
        · exact ⟨h.1, hQ _ _ h.2⟩
        · exact h
      · split at h
        · refine ⟨h.1, ?_⟩
          cases d with
          | zero => exact h.2
          | succ d => exact ih (fun r h' => ih hQ) h.2
        · split at h
          · exact am_all_imp (ih hQ) h
          · exact h
    · exact h
theorem am_fuel1 : ∀ (n : Nat) {d k : Nat} {f : am_F} {Q : Option am_V → am_H → Prop}, am_X byt P n d k f Q → am_X byt P (n + 1) d k f Q := by
  intro n
  induction n with
  | zero => intro d k f Q h; exact h.elim
  | succ n ih =>
    intro d k f Q h
    unfold am_X at h ⊢
    split at h
    · split at h
      · exact h
      · split at h
        · refine ⟨h.1, ?_⟩
          cases d with
          | zero => exact h.2
          | succ d => exact ih (am_mono n (fun r h' => ih) h.2)
        · split at h
          · exact am_all_imp ih h
          · exact h
    · exact h
theorem am_fuel {n m : Nat} (hnm : n ≤ m) {d k : Nat} {f : am_F} {Q : Option am_V → am_H → Prop} (h : am_X byt P n d k f Q) : am_X byt P m d k f Q := by
  induction hnm with
  | refl => exact h
  | step _ ih => exact am_fuel1 _ ih
/-- the machine in small goes one way: a post that hangs on a number has its number -/
theorem am_exn : ∀ (n : Nat) {d k : Nat} {f : am_F} {Q : Nat → Option am_V → am_H → Prop}, (∀ i j r h, i ≤ j → Q i r h → Q j r h) → am_X byt P n d k f (fun r h => ∃ i, Q i r h) → ∃ i, am_X byt P n d k f (Q i) := by
  intro n
  induction n with
  | zero => intro d k f Q _ h; exact h.elim
  | succ n ih =>
    intro d k f Q hQ h
    unfold am_X at h ⊢
    split at h
    · split at h
      · split at h
        · obtain ⟨h1, i, h2⟩ := h
          exact ⟨i, h1, h2⟩
        · exact h.elim
      · split at h
        · rename_i c _
          obtain ⟨h1, h2⟩ := h
          cases d with
          | zero => exact h2.elim
          | succ d =>
            dsimp only at h2
            obtain ⟨i, hi⟩ := ih (Q := fun i r h' => am_X byt P n (d + 1) k (f.1 + 3, f.2.1, r.toList ++ f.2.2.1.drop c.2.1, h') (Q i)) (fun i j r h' hij x => am_mono n (fun r h => hQ i j r h hij) x) (am_mono n (fun r h' x => ih hQ x) h2)
            exact ⟨i, h1, hi⟩
        · split at h
          · exact am_all_ex.2 (am_all_imp (ih hQ) h)
          · exact h.elim
    · exact h.elim
/-- it has one end -/
theorem am_det : ∀ (n : Nat) {d k : Nat} {f : am_F} {Q : Option am_V → am_H → Prop}, am_X byt P n d k f Q → ∃ r h, Q r h ∧ am_X byt P n d k f (fun r' h' => r' = r ∧ h' = h) := by
  intro n
  induction n with
  | zero => intro d k f Q h; exact h.elim
  | succ n ih =>
    intro d k f Q h
    unfold am_X at h ⊢
    split at h
    · split at h
      · split at h
        · exact ⟨_, _, h.2, h.1, rfl, rfl⟩
        · exact h.elim
      · split at h
        · obtain ⟨h1, h2⟩ := h
          cases d with
          | zero => exact h2.elim
          | succ d =>
            obtain ⟨r, h', h3, h4⟩ := ih h2
            obtain ⟨r2, h2', h5, h6⟩ := ih h3
            exact ⟨r2, h2', h5, h1, am_mono n (fun a b x => by rw [x.1, x.2]; exact h6) h4⟩
        · split at h
          · have hx : ∀ (ok : List Prop) (g : am_F), am_all ok (am_X byt P n d k g Q) → ∃ r h, Q r h ∧ am_all ok (am_X byt P n d k g (fun r' h' => r' = r ∧ h' = h)) := by
              intro ok g
              induction ok with
              | nil => exact ih
              | cons p r ih2 =>
                rintro ⟨hp, x⟩
                obtain ⟨r, h, h1, h2⟩ := ih2 x
                exact ⟨r, h, h1, hp, h2⟩
            exact hx _ _ h
          · exact h.elim
    · exact h.elim
theorem am_deep1 : ∀ (n : Nat) {d k : Nat} {f : am_F} {Q : Option am_V → am_H → Prop}, am_X byt P n d k f Q → am_X byt P n (d + 1) k f Q := by
  intro n
  induction n with
  | zero => intro d k f Q h; exact h.elim
  | succ n ih =>
    intro d k f Q h
    unfold am_X at h ⊢
    split at h
    · split at h
      · exact h
      · split at h
        · refine ⟨h.1, ?_⟩
          cases d with
          | zero => exact h.2.elim
          | succ d => exact am_mono n (fun r h' => ih) (ih h.2)
        · split at h
          · exact am_all_imp ih h
          · exact h
    · exact h
/-- it comes to an end with Q, at calls at most d deep -/
def am_Y (byt : List (List Int32)) (P : am_P) (d k : Nat) (f : am_F) (Q : Option am_V → am_H → Prop) : Prop := ∃ n, am_X byt P n d k f Q
theorem am_Y.mono {d k : Nat} {f : am_F} {Q Q' : Option am_V → am_H → Prop} (h : am_Y byt P d k f Q) (hQ : ∀ r h, Q r h → Q' r h) : am_Y byt P d k f Q' := by
  obtain ⟨n, h⟩ := h
  exact ⟨n, am_mono n hQ h⟩
theorem am_Y.deep {d e k : Nat} {f : am_F} {Q : Option am_V → am_H → Prop} (h : am_Y byt P d k f Q) (hd : d ≤ e) : am_Y byt P e k f Q := by
  obtain ⟨n, h⟩ := h
  induction hd with
  | refl => exact ⟨n, h⟩
  | step _ ih =>
    obtain ⟨n, h⟩ := ih
    exact ⟨n, am_deep1 n h⟩
theorem am_Y_step {d k pc : Nat} {L : am_L} {S : List am_V} {h : am_H} {Q : Option am_V → am_H → Prop} {e : am_E} {ok : List Prop} {f : am_F} (h1 : (P k).1[pc]? = some (some e)) (h2 : am_isr e.1 = false) (h3 : am_call e = none) (h4 : am_step byt e pc L S h = some (ok, f)) : am_Y byt P d k (pc, L, S, h) Q ↔ am_all ok (am_Y byt P d k f Q) := by
  unfold am_Y
  rw [← am_all_ex]
  constructor
  · rintro ⟨n, hn⟩
    cases n with
    | zero => exact hn.elim
    | succ n =>
      refine ⟨n, ?_⟩
      unfold am_X at hn
      simpa only [h1, h2, h3, h4] using hn
  · rintro ⟨n, hn⟩
    refine ⟨n + 1, ?_⟩
    unfold am_X
    simpa only [h1, h2, h3, h4] using hn
theorem am_Y_ret {d k pc : Nat} {L : am_L} {S : List am_V} {h : am_H} {Q : Option am_V → am_H → Prop} {e : am_E} {p : Prop} {v : Option am_V} (h1 : (P k).1[pc]? = some (some e)) (h2 : am_isr e.1 = true) (h3 : am_ret e.1 (P k).2.2.1 S = some (p, v)) : am_Y byt P d k (pc, L, S, h) Q ↔ (p ∧ Q v h) := by
  constructor
  · rintro ⟨n, hn⟩
    cases n with
    | zero => exact hn.elim
    | succ n =>
      unfold am_X at hn
      simpa only [h1, h2, h3] using hn
  · intro hq
    refine ⟨1, ?_⟩
    unfold am_X
    simpa only [h1, h2, h3] using hq
theorem am_Y_call {d k pc : Nat} {L : am_L} {S : List am_V} {h : am_H} {Q : Option am_V → am_H → Prop} {e : am_E} {j na ci fl : Nat} (h1 : (P k).1[pc]? = some (some e)) (h2 : am_isr e.1 = false) (h3 : am_call e = some (j, na, ci, fl)) : am_Y byt P (d + 1) k (pc, L, S, h) Q ↔ (am_cok P h S j na ci fl ∧ am_Y byt P d j (0, am_lo (P j).2.1 (S.take na).reverse, [], h) (fun r h' => am_Y byt P (d + 1) k (pc + 3, L, r.toList ++ S.drop na, h') Q)) := by
  constructor
  · rintro ⟨n, hn⟩
    cases n with
    | zero => exact hn.elim
    | succ n =>
      unfold am_X at hn
      simp only [h1, h2, h3] at hn
      exact ⟨hn.1, n, am_mono n (fun r h' x => ⟨n, x⟩) hn.2⟩
  · rintro ⟨hc, n, hn⟩
    obtain ⟨m, hm⟩ := am_exn n (Q := fun i r h' => am_X byt P i (d + 1) k (pc + 3, L, r.toList ++ S.drop na, h') Q) (fun i j r h hij x => am_fuel hij x) hn
    refine ⟨(n + m) + 1, ?_⟩
    unfold am_X
    simp only [h1, h2, h3]
    exact ⟨hc, am_mono _ (fun r h' x => am_fuel (Nat.le_add_left m n) x) (am_fuel (Nat.le_add_right n m) hm)⟩
/-- some steps on end -/
def am_go (byt : List (List Int32)) (P : am_P) (k : Nat) : Nat → am_F → Option (List Prop × am_F)
  | 0, f => some ([], f)
  | n + 1, f => match (P k).1[f.1]? with
    | some (some e) => match am_isr e.1, am_call e with
      | false, none => match am_step byt e f.1 f.2.1 f.2.2.1 f.2.2.2 with
        | some g => match am_go byt P k n g.2 with
          | some g' => some (g.1 ++ g'.1, g'.2)
          | none => none
        | none => none
      | _, _ => none
    | _ => none
theorem am_Y_go (n : Nat) {d k : Nat} {f : am_F} {Q : Option am_V → am_H → Prop} {ok : List Prop} {g : am_F} (h : am_go byt P k n f = some (ok, g)) : am_Y byt P d k f Q ↔ am_all ok (am_Y byt P d k g Q) := by
  induction n generalizing f ok with
  | zero =>
    simp only [am_go, Option.some.injEq, Prod.mk.injEq] at h
    rw [← h.1, ← h.2]
    exact Iff.rfl
  | succ n ih =>
    obtain ⟨pc, L, S, h0⟩ := f
    unfold am_go at h
    split at h
    · rename_i e he
      split at h
      · rename_i h2 h3
        split at h
        · rename_i g1 h4
          split at h
          · rename_i g2 h5
            simp only [Option.some.injEq, Prod.mk.injEq] at h
            obtain ⟨rfl, rfl⟩ := h
            rw [am_all_app, am_Y_step he h2 h3 h4]
            exact am_all_iff (ih h5)
          · cases h
        · cases h
      · cases h
    · cases h
theorem am_Y_if {d k : Nat} {Q : Option am_V → am_H → Prop} {c : Prop} [Decidable c] {t u : Nat} {L : am_L} {S : List am_V} {h : am_H} : am_Y byt P d k (if c then t else u, L, S, h) Q ↔ if c then am_Y byt P d k (t, L, S, h) Q else am_Y byt P d k (u, L, S, h) Q := by
  split <;> exact Iff.rfl
end AMX
