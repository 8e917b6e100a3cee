section
/-! THE PURE MACHINE: values, a memory of ints by (address, slot), opcodes as Instr with their indices resolved -/
abbrev q_V : Type := Int ⊕ Int ⊕ (Nat × Nat) ⊕ Nat
def qI (x : Int) : q_V := Sum.inl x
def qL (x : Int) : q_V := Sum.inr (Sum.inl x)
def qR (k a : Nat) : q_V := Sum.inr (Sum.inr (Sum.inl (k, a)))
/-- 0 unset, 1 null, 2 the script, 3 a value that is only carried, 16 + j the j-th literal, 64 + j its bytes -/
def qS (t : Nat) : q_V := Sum.inr (Sum.inr (Sum.inr t))
abbrev q_M : Type := Nat → Nat → Int
abbrev q_G : Type := Nat × Nat
abbrev q_P : Type := List (Nat × List Instr × Nat)
abbrev q_C : Type := Nat × List Instr × List q_V × List q_V × q_G × q_M
abbrev q_R : Type := Option (q_C ⊕ (Option q_V) ⊕ (Nat × List q_V × q_C))
def q_upd (M : q_M) (a i : Nat) (x : Int) : q_M := fun b j => if b = a ∧ j = i then x else M b j
def q_cpy (M : q_M) (s sp d dp n : Nat) : q_M := fun b i => if b = d ∧ dp ≤ i ∧ i < dp + n then M s (sp + (i - dp)) else M b i
/-- ints by way of Int32, longs by way of Int64 -/
def q_add (x y : Int) : Int := (Int32.ofInt x + Int32.ofInt y).toInt
def q_sub (x y : Int) : Int := (Int32.ofInt x - Int32.ofInt y).toInt
def q_mul (x y : Int) : Int := (Int32.ofInt x * Int32.ofInt y).toInt
def q_div (x y : Int) : Int := (Int32.ofInt x / Int32.ofInt y).toInt
def q_rem (x y : Int) : Int := (Int32.ofInt x - Int32.ofInt x / Int32.ofInt y * Int32.ofInt y).toInt
def q_neg (x : Int) : Int := (-Int32.ofInt x).toInt
def q_and (x y : Int) : Int := (Int32.ofInt x &&& Int32.ofInt y).toInt
def q_or (x y : Int) : Int := (Int32.ofInt x ||| Int32.ofInt y).toInt
def q_shl (x y : Int) : Int := (Int32.ofInt x <<< (Int32.ofInt y &&& 31)).toInt
def q_shr (x y : Int) : Int := (Int32.ofInt x >>> (Int32.ofInt y &&& 31)).toInt
def q_i2b (x : Int) : Int := (Int32.ofInt x).toInt8.toInt32.toInt
def q_i2s (x : Int) : Int := (Int32.ofInt x).toInt16.toInt32.toInt
def q_i2c (x : Int) : Int := ((Int32.ofInt x).toUInt32 % 65536).toInt32.toInt
def q_i2l (x : Int) : Int := (Int32.ofInt x).toInt64.toInt
def q_l2i (x : Int) : Int := (Int64.ofInt x).toInt32.toInt
def q_ladd (x y : Int) : Int := (Int64.ofInt x + Int64.ofInt y).toInt
def q_lmul (x y : Int) : Int := (Int64.ofInt x * Int64.ofInt y).toInt
def q_ldiv (x y : Int) : Int := (Int64.ofInt x / Int64.ofInt y).toInt
def q_lrem (x y : Int) : Int := (Int64.ofInt x - Int64.ofInt x / Int64.ofInt y * Int64.ofInt y).toInt
def q_lcmp (x y : Int) : Int := if x < y then -1 else if x = y then 0 else 1
def q_cmp (c : Jvm.ClassFile.Cond) (x y : Int) : Bool := match c with
  | .eq => decide (x = y)
  | .ne => decide (¬ x = y)
  | .lt => decide (x < y)
  | .ge => decide (y ≤ x)
  | .gt => decide (y < x)
  | .le => decide (x ≤ y)
def q_sw (ps : List (Int × Int)) (d x : Int) : Int := match ps with
  | [] => d
  | p :: r => if x = p.1 then p.2 else q_sw r d x
def q_c1 (v : q_V) : Bool := match v with
  | .inl _ => true
  | .inr (.inl _) => false
  | .inr (.inr (.inl _)) => true
  | .inr (.inr (.inr t)) => decide (t ≠ 0)
def q_set (v : q_V) : Bool := match v with
  | .inr (.inr (.inr t)) => decide (t ≠ 0)
  | _ => true
def q_isRf (v : q_V) : Bool := match v with
  | .inr (.inr (.inl _)) => true
  | .inr (.inr (.inr t)) => decide (t ≠ 0)
  | _ => false
def q_isL (v : q_V) : Bool := match v with
  | .inr (.inl _) => true
  | _ => false
def q_entL (as : List q_V) : List q_V := match as with
  | [] => []
  | v :: r => if q_isL v = true then v :: qS 0 :: q_entL r else v :: q_entL r
def q_isA (k : Nat) : Bool := k == 10 || decide (20 ≤ k)
def q_len (k a : Nat) (M : q_M) : Int := if k = 10 then M a 1000 else if k = 7 then 6 else if k = 8 then 6 else if k = 9 then 4 else (k : Int) - 20
/-- what a slot of a type (tag, kind, offset) gives: 0 an int, 1 a boolean, 2 a reference that is laid, 3 one that is known -/
def q_gv (t : Nat × Nat × Nat) (a : Nat) (x : Int) : q_V := if t.1 = 2 then (if x < 0 then qS 1 else qR t.2.1 x.toNat) else if t.1 = 3 then qR t.2.1 (a + t.2.2) else qI x
def q_ii {α : Type} (st : List q_V) (k : Int → List q_V → Option α) : Option α := match st with
  | .inl x :: r => k x r
  | _ => none
def q_ll {α : Type} (st : List q_V) (k : Int → List q_V → Option α) : Option α := match st with
  | .inr (.inl x) :: r => k x r
  | _ => none
def q_rr {α : Type} (st : List q_V) (k : Nat → Nat → List q_V → Option α) : Option α := match st with
  | .inr (.inr (.inl (c, a))) :: r => k c a r
  | _ => none
def q_vv {α : Type} (st : List q_V) (k : q_V → List q_V → Option α) : Option α := match st with
  | v :: r => k v r
  | _ => none
def q_blk (P : q_P) (pc : Nat) : Option (List Instr × Nat) := match P with
  | [] => none
  | b :: r => if b.1 = pc then some b.2 else q_blk r pc

/-! THE LAYOUT: the kind of each address: 0 .. 6 objects of the classes, 7 rows of rows, 8 Text[6], 9 Sheet[4], 10 ints of any length, 20 + n: n ints -/
def q_kds : List Nat := [5, 1, 180, 180, 23, 8, 9, 10, 3, 23, 60, 4, 0, 26, 26, 7, 26, 26, 26, 26, 26, 26, 7, 26, 26, 26, 26, 26, 26, 26, 26, 26, 26, 26, 26, 26, 26, 26, 4, 0, 26, 26, 7, 26, 26, 26, 26, 26, 26, 7, 26, 26, 26, 26, 26, 26, 26, 26, 26, 26, 26, 26, 26, 26, 26, 4, 0, 26, 26, 7, 26, 26, 26, 26, 26, 26, 7, 26, 26, 26, 26, 26, 26, 26, 26, 26, 26, 26, 26, 26, 26, 26, 2, 60, 2, 60, 2, 60, 2, 60, 6, 25, 25, 40, 35, 180, 1220, 44, 55, 23, 24, 24, 180, 60, 116, 220, 220, 26, 56, 45, 45, 25, 25, 25]
def q_kd (a : Nat) : Nat := if a < 124 then q_kds.getD a 0 else if (a - 124) % 4 = 0 then 10 else if (a - 124) % 4 = 1 then 3 else if (a - 124) % 4 = 2 then 23 else 60
def q_nf (k : Nat) : Nat := match k with
  | 0 => 6
  | 1 => 10
  | 2 => 3
  | 3 => 4
  | 4 => 11
  | 5 => 8
  | 6 => 37
  | _ => 0
def q_ty0 (k i : Nat) : Nat × Nat × Nat := match k with
  | 0 => match i with
    | 0 => (2, 26, 0)
    | 1 => (2, 26, 0)
    | 2 => (2, 7, 0)
    | 3 => (2, 7, 0)
    | 4 => (2, 26, 0)
    | _ => (0, 0, 0)
  | 1 => match i with
    | 0 => (2, 180, 0)
    | 2 => (2, 180, 0)
    | 4 => (2, 23, 0)
    | _ => (0, 0, 0)
  | 2 => match i with
    | 0 => (2, 60, 0)
    | _ => (0, 0, 0)
  | 3 => match i with
    | 1 => (2, 10, 0)
    | 2 => (2, 23, 0)
    | 3 => (2, 60, 0)
    | _ => (0, 0, 0)
  | 4 => match i with
    | 0 => (2, 0, 0)
    | 1 => (2, 26, 0)
    | 2 => (2, 26, 0)
    | 3 => (2, 26, 0)
    | 4 => (2, 26, 0)
    | 5 => (2, 26, 0)
    | 6 => (2, 26, 0)
    | 7 => (2, 26, 0)
    | 8 => (2, 26, 0)
    | 10 => (2, 3, 0)
    | _ => (0, 0, 0)
  | 5 => match i with
    | 0 => (2, 1, 0)
    | 1 => (2, 8, 0)
    | 3 => (2, 4, 0)
    | 4 => (2, 4, 0)
    | 5 => (2, 4, 0)
    | 6 => (1, 0, 0)
    | 7 => (2, 9, 0)
    | _ => (0, 0, 0)
  | 6 => match i with
    | 1 => (2, 25, 0)
    | 2 => (2, 25, 0)
    | 3 => (2, 40, 0)
    | 4 => (2, 35, 0)
    | 6 => (2, 180, 0)
    | 8 => (2, 1220, 0)
    | 9 => (2, 44, 0)
    | 12 => (1, 0, 0)
    | 13 => (2, 55, 0)
    | 14 => (2, 23, 0)
    | 15 => (2, 24, 0)
    | 16 => (2, 24, 0)
    | 17 => (2, 180, 0)
    | 18 => (2, 60, 0)
    | 23 => (2, 116, 0)
    | 24 => (2, 220, 0)
    | 28 => (2, 220, 0)
    | 29 => (2, 26, 0)
    | 30 => (2, 56, 0)
    | 31 => (2, 45, 0)
    | 32 => (2, 45, 0)
    | 33 => (2, 25, 0)
    | 34 => (2, 25, 0)
    | 35 => (2, 25, 0)
    | _ => (0, 0, 0)
  | 7 => (2, 26, 0)
  | 8 => (2, 3, 0)
  | 9 => (2, 2, 0)
  | _ => (0, 0, 0)
def q_ty1 (k i : Nat) : Nat × Nat × Nat := match k with
  | 0 => match i with
    | 0 => (3, 26, 1)
    | 1 => (3, 26, 2)
    | 2 => (3, 7, 3)
    | 3 => (3, 7, 10)
    | 4 => (3, 26, 17)
    | _ => (0, 0, 0)
  | 1 => match i with
    | 0 => (3, 180, 1)
    | 2 => (3, 180, 2)
    | 4 => (3, 23, 3)
    | _ => (0, 0, 0)
  | 2 => match i with
    | 0 => (3, 60, 1)
    | _ => (0, 0, 0)
  | 3 => match i with
    | 1 => (2, 10, 0)
    | 2 => (2, 23, 0)
    | 3 => (2, 60, 0)
    | _ => (0, 0, 0)
  | 4 => match i with
    | 0 => (3, 0, 1)
    | 1 => (3, 26, 19)
    | 2 => (3, 26, 20)
    | 3 => (3, 26, 21)
    | 4 => (3, 26, 22)
    | 5 => (3, 26, 23)
    | 6 => (3, 26, 24)
    | 7 => (3, 26, 25)
    | 8 => (3, 26, 26)
    | 10 => (2, 3, 0)
    | _ => (0, 0, 0)
  | 5 => match i with
    | 0 => (3, 1, 1)
    | 1 => (3, 8, 5)
    | 3 => (3, 4, 11)
    | 4 => (3, 4, 38)
    | 5 => (3, 4, 65)
    | 6 => (1, 0, 0)
    | 7 => (3, 9, 6)
    | _ => (0, 0, 0)
  | 6 => match i with
    | 1 => (3, 25, 1)
    | 2 => (3, 25, 2)
    | 3 => (3, 40, 3)
    | 4 => (3, 35, 4)
    | 6 => (3, 180, 5)
    | 8 => (3, 1220, 6)
    | 9 => (3, 44, 7)
    | 12 => (1, 0, 0)
    | 13 => (3, 55, 8)
    | 14 => (3, 23, 9)
    | 15 => (3, 24, 10)
    | 16 => (3, 24, 11)
    | 17 => (3, 180, 12)
    | 18 => (3, 60, 13)
    | 23 => (3, 116, 14)
    | 24 => (3, 220, 15)
    | 28 => (3, 220, 16)
    | 29 => (3, 26, 17)
    | 30 => (3, 56, 18)
    | 31 => (3, 45, 19)
    | 32 => (3, 45, 20)
    | 33 => (3, 25, 21)
    | 34 => (3, 25, 22)
    | 35 => (3, 25, 23)
    | _ => (0, 0, 0)
  | 7 => (3, 26, 1 + i)
  | 8 => (2, 3, 0)
  | 9 => (3, 2, 86 + 2 * i)
  | _ => (0, 0, 0)
def q_ty (md k i : Nat) : Nat × Nat × Nat := if md = 1 then q_ty1 k i else q_ty0 k i
/-! THE METHODS: how many arguments (the receiver too), what the receiver is (0 none, 1 + k an object of kind k, 50 a literal), the locals -/
def q_mNs : List Nat := [1, 2, 1, 1, 2, 2, 1, 1, 1, 4, 3, 4, 2, 3, 3, 1, 3, 1, 1, 1, 1, 1, 2, 1, 2, 3, 2, 1, 3, 2, 2, 2, 2, 2, 2, 1, 1, 1, 4, 1, 1, 1, 1, 1, 3, 3, 4, 3, 2, 2, 4, 3, 3, 4, 3, 3, 2, 1, 2, 1, 3, 1, 2, 2, 4, 3, 7, 1, 2, 4, 4, 4, 3, 4, 1, 3, 3, 2, 2, 2, 2, 3, 2, 3, 4, 5, 2, 3, 4, 3, 5, 1, 1, 4, 4, 6, 5, 3, 2, 1, 1, 1, 1, 2, 2, 3, 4, 2, 3, 1, 3, 3, 2, 1, 1, 2, 1, 2, 2, 4, 3, 1, 7, 3, 1, 1, 2, 2, 2, 2, 2, 1, 1, 1, 3, 2, 2, 4, 4, 4, 4, 3, 3, 2, 2, 3, 4, 2, 2, 3, 2, 1, 1, 1, 1, 1, 3, 3, 3, 1, 2, 2, 3, 3, 1, 2, 1, 2, 2, 2, 1, 2, 2, 1, 2, 2, 3, 3, 2, 2, 3, 3, 3, 4, 5, 2, 3, 4, 2, 3, 5, 1, 1, 4, 4, 6, 5, 2, 3, 1, 2, 1, 1, 2, 2, 3, 1, 2, 2]
def q_mKs : List Nat := [1, 1, 1, 1, 1, 1, 1, 1, 1, 1, 1, 1, 1, 1, 1, 1, 1, 1, 1, 1, 2, 2, 2, 2, 2, 2, 2, 2, 2, 2, 2, 2, 2, 2, 2, 2, 2, 2, 2, 0, 0, 0, 3, 3, 3, 3, 4, 4, 5, 5, 5, 5, 5, 5, 5, 5, 5, 5, 5, 5, 5, 6, 6, 6, 6, 6, 6, 6, 6, 6, 6, 6, 6, 6, 6, 6, 6, 6, 6, 6, 6, 6, 6, 6, 6, 6, 6, 6, 6, 6, 6, 6, 6, 6, 6, 6, 6, 6, 6, 0, 0, 0, 0, 0, 6, 6, 6, 6, 0, 7, 0, 0, 7, 0, 7, 7, 0, 7, 7, 7, 7, 0, 7, 7, 7, 0, 7, 7, 7, 7, 7, 7, 7, 7, 0, 7, 7, 7, 7, 7, 7, 7, 7, 7, 7, 7, 7, 7, 7, 7, 7, 7, 7, 7, 7, 7, 7, 7, 7, 7, 7, 7, 7, 7, 7, 7, 7, 7, 7, 7, 7, 7, 7, 7, 7, 7, 7, 0, 7, 7, 7, 7, 7, 7, 7, 7, 7, 7, 7, 7, 7, 7, 7, 7, 7, 7, 7, 0, 7, 50, 50, 50, 50, 0, 0, 0, 0, 0, 0]
def q_mLs : List Nat := [2, 2, 2, 1, 4, 4, 3, 3, 3, 6, 5, 4, 4, 4, 4, 5, 4, 3, 2, 2, 1, 1, 2, 1, 3, 3, 2, 1, 3, 3, 3, 3, 4, 3, 3, 2, 1, 1, 6, 1, 1, 1, 1, 1, 4, 3, 4, 10, 3, 2, 5, 3, 4, 5, 5, 5, 4, 3, 3, 4, 6, 3, 2, 3, 5, 3, 7, 3, 3, 4, 4, 5, 3, 4, 1, 5, 3, 2, 2, 10, 6, 7, 5, 4, 8, 9, 5, 6, 5, 3, 7, 1, 1, 4, 4, 8, 9, 3, 2, 1, 1, 1, 1, 2, 2, 5, 6, 6, 5, 2, 3, 3, 2, 1, 3, 4, 3, 2, 3, 7, 3, 1, 8, 6, 3, 1, 2, 3, 2, 2, 2, 1, 4, 3, 3, 5, 3, 5, 4, 4, 5, 4, 4, 4, 6, 3, 4, 7, 2, 6, 6, 3, 1, 3, 2, 2, 4, 6, 4, 3, 4, 5, 6, 6, 3, 4, 3, 2, 5, 4, 3, 2, 4, 5, 2, 7, 8, 11, 5, 2, 4, 5, 4, 9, 11, 5, 7, 5, 6, 4, 8, 2, 2, 5, 4, 10, 9, 2, 3, 1, 2, 1, 1, 2, 2, 3, 1, 2, 2]
def q_mN (id : Nat) : Nat := q_mNs.getD id 0
def q_mK (id : Nat) : Nat := q_mKs.getD id 0
def q_mL (id : Nat) : Nat := q_mLs.getD id 0
def q_strs : List (List Int) := [[108, 105, 107, 101, 115, 32, 57, 57, 32, 45, 32, 102, 97, 114, 32, 59, 32, 119, 97, 110, 116, 115, 32, 119, 101, 105, 103, 104, 116, 32, 59, 32, 103, 111, 101, 115, 32, 57, 32, 59], [108, 105, 107, 101, 115], [119, 97, 110, 116, 115], [103, 111, 101, 115], [111, 114], [97, 110, 100], [110, 111, 116], [102, 97, 114], [118, 97, 105, 110], [98, 117, 105, 108, 116], [119, 101, 105, 103, 104, 116], [121, 101, 97, 114], [109, 111, 114, 101]]
def q_slen (j : Nat) : Int := ((q_strs.getD j []).length : Int)
def q_sch (j i : Nat) : Int := (q_strs.getD j []).getD i 0
/-! ONE STEP -/
def q_st1 (ls : List q_V) (k : Nat) (v : q_V) : Option (List q_V) := if (decide (k < ls.length) && !q_isL (ls.getD (k - 1) (qS 0)) && q_c1 v) = true then some (ls.set k v) else none
def q_st2 (ls : List q_V) (k : Nat) (v : q_V) : Option (List q_V) := if (decide (k + 1 < ls.length) && !q_isL (ls.getD (k - 1) (qS 0)) && q_isL v) = true then some ((ls.set k v).set (k + 1) (qS 0)) else none
def q_go (nx : Nat) (ops : List Instr) (ls st : List q_V) (g : q_G) (M : q_M) : q_R := some (.inl (nx, ops, ls, st, g, M))
def q_rt (v : Option q_V) : q_R := some (.inr (.inl v))
def q_rcv (k : Nat) (as : List q_V) : Bool := if k = 0 then true else if k = 50 then (match as with
  | .inr (.inr (.inr t)) :: _ => decide (16 ≤ t) && decide (t < 29)
  | _ => false) else (match as with
  | .inr (.inr (.inl (c, _))) :: _ => c + 1 == k
  | _ => false)
def q_op (md : Nat) (op : Instr) (nx : Nat) (ops : List Instr) (ls st : List q_V) (g : q_G) (M : q_M) : q_R := match op with
  | .nop => q_rr st fun k a _ => if q_isA k = true then q_go nx ops ls st g M else none
  | .iconst v => q_go nx ops ls (qI v :: st) g M
  | .jsr v => q_go nx ops ls (qL v :: st) g M
  | .ldc j => q_go nx ops ls (qS (16 + j) :: st) g M
  | .iload k => q_ii [ls.getD k (qS 0)] fun x _ => q_go nx ops ls (qI x :: st) g M
  | .lload k => q_ll [ls.getD k (qS 0)] fun x _ => q_go nx ops ls (qL x :: st) g M
  | .aload k => if q_isRf (ls.getD k (qS 0)) = true then q_go nx ops ls (ls.getD k (qS 0) :: st) g M else none
  | .istore k => q_ii st fun x st => (q_st1 ls k (qI x)).bind fun ls => q_go nx ops ls st g M
  | .astore k => q_vv st fun v st => if q_isRf v = true then (q_st1 ls k v).bind fun ls => q_go nx ops ls st g M else none
  | .lstore k => q_vv st fun v st => (q_st2 ls k v).bind fun ls => q_go nx ops ls st g M
  | .iinc k n => q_ii [ls.getD k (qS 0)] fun x _ => (q_st1 ls k (qI (q_add x n))).bind fun ls => q_go nx ops ls st g M
  | .pop => q_vv st fun v st => if q_c1 v = true then q_go nx ops ls st g M else none
  | .pop2 => q_ll st fun _ st => q_go nx ops ls st g M
  | .dup => q_vv st fun v st => if q_c1 v = true then q_go nx ops ls (v :: v :: st) g M else none
  | .dup2 => q_vv st fun v st => q_vv st fun w st => if (q_c1 v && q_c1 w) = true then q_go nx ops ls (v :: w :: v :: w :: st) g M else none
  | .iadd => q_ii st fun y st => q_ii st fun x st => q_go nx ops ls (qI (q_add x y) :: st) g M
  | .isub => q_ii st fun y st => q_ii st fun x st => q_go nx ops ls (qI (q_sub x y) :: st) g M
  | .imul => q_ii st fun y st => q_ii st fun x st => q_go nx ops ls (qI (q_mul x y) :: st) g M
  | .idiv => q_ii st fun y st => q_ii st fun x st => if y = 0 then none else q_go nx ops ls (qI (q_div x y) :: st) g M
  | .irem => q_ii st fun y st => q_ii st fun x st => if y = 0 then none else q_go nx ops ls (qI (q_rem x y) :: st) g M
  | .ineg => q_ii st fun x st => q_go nx ops ls (qI (q_neg x) :: st) g M
  | .iand => q_ii st fun y st => q_ii st fun x st => q_go nx ops ls (qI (q_and x y) :: st) g M
  | .ior => q_ii st fun y st => q_ii st fun x st => q_go nx ops ls (qI (q_or x y) :: st) g M
  | .ishl => q_ii st fun y st => q_ii st fun x st => q_go nx ops ls (qI (q_shl x y) :: st) g M
  | .ishr => q_ii st fun y st => q_ii st fun x st => q_go nx ops ls (qI (q_shr x y) :: st) g M
  | .i2b => q_ii st fun x st => q_go nx ops ls (qI (q_i2b x) :: st) g M
  | .i2s => q_ii st fun x st => q_go nx ops ls (qI (q_i2s x) :: st) g M
  | .i2c => q_ii st fun x st => q_go nx ops ls (qI (q_i2c x) :: st) g M
  | .i2l => q_ii st fun x st => q_go nx ops ls (qL (q_i2l x) :: st) g M
  | .l2i => q_ll st fun x st => q_go nx ops ls (qI (q_l2i x) :: st) g M
  | .ladd => q_ll st fun y st => q_ll st fun x st => q_go nx ops ls (qL (q_ladd x y) :: st) g M
  | .lmul => q_ll st fun y st => q_ll st fun x st => q_go nx ops ls (qL (q_lmul x y) :: st) g M
  | .ldiv => q_ll st fun y st => q_ll st fun x st => if y = 0 then none else q_go nx ops ls (qL (q_ldiv x y) :: st) g M
  | .lrem => q_ll st fun y st => q_ll st fun x st => if y = 0 then none else q_go nx ops ls (qL (q_lrem x y) :: st) g M
  | .lcmp => q_ll st fun y st => q_ll st fun x st => q_go nx ops ls (qI (q_lcmp x y) :: st) g M
  | .ifCond c t => match ops with
    | [] => q_ii st fun x st => q_go (if q_cmp c x 0 = true then t.toNat else nx) [] ls st g M
    | _ => none
  | .if_icmp c t => match ops with
    | [] => q_ii st fun y st => q_ii st fun x st => q_go (if q_cmp c x y = true then t.toNat else nx) [] ls st g M
    | _ => none
  | .goto t => match ops with
    | [] => q_go t.toNat [] ls st g M
    | _ => none
  | .tableswitch d lo hi offs => match ops with
    | [] => q_ii st fun x st => q_go (if x < lo ∨ hi < x then d.toNat else (offs.toList.getD (x - lo).toNat d).toNat) [] ls st g M
    | _ => none
  | .lookupswitch d ps => match ops with
    | [] => q_ii st fun x st => q_go (q_sw ps.toList d x).toNat [] ls st g M
    | _ => none
  | .getfield c => match st with
    | .inr (.inr (.inl (k, a))) :: r => if k = c / 100 ∧ c % 100 < q_nf k then q_go nx ops ls (q_gv (q_ty md k (c % 100)) a (M a (c % 100)) :: r) g M else none
    | .inr (.inr (.inr t)) :: r => if 16 ≤ t ∧ t < 29 then (if c = 10000 then q_go nx ops ls (qS (48 + t) :: r) g M else if c = 10001 then q_go nx ops ls (qI 0 :: r) g M else none) else none
    | _ => none
  | .putfield c => q_vv st fun v st => q_rr st fun k a st => if k = c / 100 ∧ c % 100 < q_nf k then (match v with
      | .inl x => if (q_ty md k (c % 100)).1 = 0 ∨ ((q_ty md k (c % 100)).1 = 1 ∧ (x = 0 ∨ x = 1)) then q_go nx ops ls st g (q_upd M a (c % 100) x) else none
      | .inr (.inr (.inl (k', b))) => if (q_ty md k (c % 100)).1 = 2 ∧ (q_ty md k (c % 100)).2.1 = k' ∧ b < 2147483648 then q_go nx ops ls st g (q_upd M a (c % 100) b) else none
      | _ => none) else none
  | .getstatic j => if j = 0 then q_go nx ops ls (qI 1 :: st) g M else if j = 1 then q_go nx ops ls (qS 3 :: st) g M else none
  | .iaload => q_ii st fun j st => match st with
    | .inr (.inr (.inl (k, a))) :: r => if q_isA k = true ∧ 0 ≤ j ∧ j < q_len k a M then q_go nx ops ls (qI (M a j.toNat) :: r) g M else none
    | .inr (.inr (.inr 2)) :: r => if 0 ≤ j ∧ j < M 1000001 0 then q_go nx ops ls (qI (M 1000000 j.toNat) :: r) g M else none
    | _ => none
  | .iastore => q_ii st fun x st => q_ii st fun j st => q_rr st fun k a st => if q_isA k = true ∧ 0 ≤ j ∧ j < q_len k a M then q_go nx ops ls st g (q_upd M a j.toNat x) else none
  | .aaload => q_ii st fun j st => q_rr st fun k a st => if (k = 7 ∨ k = 8 ∨ k = 9) ∧ 0 ≤ j ∧ j < q_len k a M then q_go nx ops ls (q_gv (q_ty md k j.toNat) a (M a j.toNat) :: st) g M else none
  | .aastore => q_rr st fun k' b st => q_ii st fun j st => q_rr st fun k a st => if (k = 8 ∨ k = 9) ∧ 0 ≤ j ∧ j < q_len k a M ∧ (q_ty md k j.toNat).1 = 2 ∧ (q_ty md k j.toNat).2.1 = k' ∧ b < 2147483648 then q_go nx ops ls st g (q_upd M a j.toNat b) else none
  | .baload => q_ii st fun j st => match st with
    | .inr (.inr (.inr t)) :: r => if 64 ≤ t ∧ t < 77 ∧ 0 ≤ j ∧ j < q_slen (t - 64) then q_go nx ops ls (qI (q_sch (t - 64) j.toNat) :: r) g M else none
    | _ => none
  | .arraylength => match st with
    | .inr (.inr (.inl (k, a))) :: r => if q_isA k = true then q_go nx ops ls (qI (q_len k a M) :: r) g M else none
    | .inr (.inr (.inr t)) :: r => if t = 2 then q_go nx ops ls (qI (M 1000001 0) :: r) g M else if 64 ≤ t ∧ t < 77 then q_go nx ops ls (qI (q_slen (t - 64)) :: r) g M else none
    | _ => none
  | .monitorenter => q_rr st fun _ _ st => if st.length ≤ 20 then q_go nx ops ls st g M else none
  | .monitorexit => q_ii st fun n st => q_ii st fun dp st => q_rr st fun kd d st => q_ii st fun sp st => q_rr st fun ks s st =>
      if q_isA ks = true ∧ q_isA kd = true ∧ 0 ≤ sp ∧ 0 ≤ dp ∧ 0 ≤ n ∧ sp + n ≤ q_len ks s M ∧ dp + n ≤ q_len kd d M ∧ st.length ≤ 3 then q_go nx ops ls st g (q_cpy M s sp.toNat d dp.toNat n.toNat) else none
  | .swap => q_rr st fun k a st => if 20 ≤ k ∧ q_kd g.1 = k ∧ st.length ≤ 6 then q_go nx ops ls (qR k g.1 :: st) (g.1 + 1, g.2 + (k - 20)) (fun b i => if b = g.1 then M a i else M b i) else none
  | .new k => if k < 7 ∧ q_kd g.1 = k ∧ (md = 0 ∨ k = 3) then q_go nx ops ls (qR k g.1 :: st) (g.1 + 1, g.2 + q_nf k) (fun b i => if b = g.1 then (if (q_ty md k i).1 = 2 then -1 else 0) else M b i) else none
  | .newarray _ => q_ii st fun n st => if q_isA (q_kd g.1) = true ∧ 0 ≤ n ∧ n ≤ 100000 ∧ (if q_kd g.1 = 10 then n ≤ 1000 else n = (q_kd g.1 : Int) - 20) then
      q_go nx ops ls (qR (q_kd g.1) g.1 :: st) (g.1 + 1, g.2 + n.toNat) (fun b i => if b = g.1 then (if i = 1000 ∧ q_kd g.1 = 10 then n else 0) else M b i) else none
  | .anewarray k => q_ii st fun n st => if (k = 8 ∨ k = 9) ∧ q_kd g.1 = k ∧ n = q_len k g.1 M ∧ (md = 0) then q_go nx ops ls (qR k g.1 :: st) (g.1 + 1, g.2 + n.toNat) (fun b i => if b = g.1 then -1 else M b i) else none
  | .multianewarray _ _ => q_ii st fun y st => q_ii st fun x st => if x = 6 ∧ y = 6 ∧ md = 0 ∧ q_kd g.1 = 7 ∧ q_kd (g.1 + 1) = 26 ∧ q_kd (g.1 + 2) = 26 ∧ q_kd (g.1 + 3) = 26 ∧ q_kd (g.1 + 4) = 26 ∧ q_kd (g.1 + 5) = 26 ∧ q_kd (g.1 + 6) = 26 ∧ g.1 < 1000000 then
      q_go nx ops ls (qR 7 g.1 :: st) (g.1 + 7, g.2 + 42) (fun b i => if b = g.1 then (if i < 6 then ((g.1 + 1 + i : Nat) : Int) else -1) else if g.1 < b ∧ b < g.1 + 7 then 0 else M b i) else none
  | .invokestatic id => if q_mN id ≤ st.length ∧ (st.drop (q_mN id)).length ≤ 4 ∧ q_rcv (q_mK id) (st.take (q_mN id)).reverse = true ∧ (st.take (q_mN id)).all q_set = true ∧ (q_entL (st.take (q_mN id)).reverse).length ≤ q_mL id then
      some (.inr (.inr (id, (st.take (q_mN id)).reverse, (nx, ops, ls, st.drop (q_mN id), g, M)))) else none
  | .ret t => match st with
    | [.inl x] => if t = 0 ∨ (t = 1 ∧ (x = 0 ∨ x = 1)) ∨ (t = 2 ∧ 0 ≤ x ∧ x < 65536) ∨ (t = 3 ∧ -128 ≤ x ∧ x < 128) then q_rt (some (qI x)) else none
    | _ => none
  | .lreturn => match st with
    | [.inr (.inl x)] => q_rt (some (qL x))
    | _ => none
  | .areturn => match st with
    | [.inr (.inr (.inl (k, a)))] => q_rt (some (qR k a))
    | _ => none
  | .return_ => match st with
    | [] => q_rt none
    | _ => none
  | _ => none
end
section
/-! THE METHODS AS BLOCKS: (its first pc, its opcodes, where it goes on) -/
def qP_X0_init : q_P := [(0, [.aload 0, .monitorenter, .aload 0, .iconst (6), .newarray .int, .putfield 0, .aload 0, .iconst (6), .newarray .int, .putfield 1, .aload 0, .iconst (6), .iconst (6), .multianewarray 7 2, .putfield 2, .aload 0, .iconst (6), .iconst (6), .multianewarray 7 2, .putfield 3, .aload 0, .iconst (6), .newarray .int, .putfield 4, .iconst (0), .istore 1], 54),
  (54, [.iload 1, .iconst (5), .if_icmp .ge (72)], 59),
  (59, [.aload 0, .getfield 0, .iload 1, .iconst (1), .iastore, .iinc 1 (1), .goto (54)], 72),
  (72, [.return_], 73)]
def qP_X0_copyFrom : q_P := [(0, [.aload 1, .getfield 0, .iconst (0), .aload 0, .getfield 0, .iconst (0), .iconst (5), .monitorexit, .aload 1, .getfield 1, .iconst (0), .aload 0, .getfield 1, .iconst (0), .iconst (5), .monitorexit, .aload 0, .aload 1, .getfield 5, .putfield 5, .return_], 37)]
def qP_X0_emptyAll : q_P := [(0, [.iconst (0), .istore 1], 2),
  (2, [.iload 1, .iconst (5), .if_icmp .ge (20)], 7),
  (7, [.aload 0, .getfield 1, .iload 1, .iconst (5), .iastore, .iinc 1 (1), .goto (2)], 20),
  (20, [.return_], 21)]
def qP_X0_inNone : q_P := [(0, [.aload 0, .iconst (5), .invokestatic 4, .ret 0], 6)]
def qP_X0_housed : q_P := [(0, [.iconst (0), .istore 2, .iconst (0), .istore 3], 4),
  (4, [.iload 3, .aload 0, .getfield 5, .if_icmp .ge (36)], 12),
  (12, [.iload 2, .aload 0, .getfield 1, .iload 3, .iaload, .iload 1, .if_icmp .ne (27)], 23),
  (23, [.iconst (1), .goto (28)], 27),
  (27, [.iconst (0)], 28),
  (28, [.iadd, .istore 2, .iinc 3 (1), .goto (4)], 36),
  (36, [.iload 2, .ret 0], 38)]
def qP_X0_housedBits : q_P := [(0, [.iconst (0), .istore 2, .iconst (0), .istore 3], 4),
  (4, [.iload 3, .aload 0, .getfield 5, .if_icmp .ge (38)], 12),
  (12, [.iload 2, .aload 0, .getfield 1, .iload 3, .iaload, .iload 1, .if_icmp .ne (29)], 23),
  (23, [.iconst (1), .iload 3, .ishl, .goto (30)], 29),
  (29, [.iconst (0)], 30),
  (30, [.ior, .istore 2, .iinc 3 (1), .goto (4)], 38),
  (38, [.iload 2, .ret 0], 40)]
def qP_X0_digits : q_P := [(0, [.iconst (0), .istore 1, .iconst (0), .istore 2], 4),
  (4, [.iload 2, .aload 0, .getfield 5, .if_icmp .ge (46)], 12),
  (12, [.iconst (10), .iload 1, .imul, .aload 0, .getfield 1, .iload 2, .iaload, .iconst (5), .if_icmp .ne (30)], 26),
  (26, [.iconst (0), .goto (38)], 30),
  (30, [.aload 0, .getfield 1, .iload 2, .iaload, .iconst (1), .iadd], 38),
  (38, [.iadd, .istore 1, .iinc 2 (1), .goto (4)], 46),
  (46, [.iload 1, .ret 0], 48)]
def qP_X0_liked : q_P := [(0, [.iconst (0), .istore 1, .iconst (0), .istore 2], 4),
  (4, [.iload 2, .aload 0, .getfield 5, .if_icmp .ge (34)], 12),
  (12, [.iload 1, .aload 0, .getfield 2, .iload 2, .aaload, .aload 0, .getfield 1, .iload 2, .iaload, .iaload, .iadd, .istore 1, .iinc 2 (1), .goto (4)], 34),
  (34, [.iload 1, .ret 0], 36)]
def qP_X0_wanted : q_P := [(0, [.iconst (0), .istore 1, .iconst (0), .istore 2], 4),
  (4, [.iload 2, .aload 0, .getfield 5, .if_icmp .ge (34)], 12),
  (12, [.iload 1, .aload 0, .getfield 3, .iload 2, .aaload, .aload 0, .getfield 1, .iload 2, .iaload, .iaload, .iadd, .istore 1, .iinc 2 (1), .goto (4)], 34),
  (34, [.iload 1, .ret 0], 36)]
def qP_X0_ratherBeIn : q_P := [(0, [.aload 0, .getfield 2, .iload 1, .aaload, .iload 2, .iaload, .istore 4, .aload 0, .getfield 2, .iload 1, .aaload, .iload 3, .iaload, .istore 5, .iload 4, .ifCond .le (48)], 25),
  (25, [.iload 4, .iload 5, .if_icmp .gt (44)], 32),
  (32, [.iload 4, .iload 5, .if_icmp .ne (48)], 39),
  (39, [.iload 2, .iload 3, .if_icmp .ge (48)], 44),
  (44, [.iconst (1), .goto (49)], 48),
  (48, [.iconst (0)], 49),
  (49, [.ret 1], 50)]
def qP_X0_dearest : q_P := [(0, [.iconst (5), .istore 3, .iconst (0), .istore 4], 5),
  (5, [.iload 4, .iconst (5), .if_icmp .ge (40)], 11),
  (11, [.iload 2, .iload 4, .ishr, .iconst (1), .iand, .ifCond .ne (34)], 20),
  (20, [.aload 0, .iload 1, .iload 4, .iload 3, .invokestatic 9, .ifCond .eq (34)], 31),
  (31, [.iload 4, .istore 3], 34),
  (34, [.iinc 4 (1), .goto (5)], 40),
  (40, [.iload 3, .ret 0], 42)]
def qP_X0_ratherHave : q_P := [(0, [.aload 0, .getfield 3, .iload 2, .aaload, .iload 1, .iaload, .aload 0, .getfield 3, .iload 3, .aaload, .iload 1, .iaload, .if_icmp .gt (43)], 19),
  (19, [.aload 0, .getfield 3, .iload 2, .aaload, .iload 1, .iaload, .aload 0, .getfield 3, .iload 3, .aaload, .iload 1, .iaload, .if_icmp .ne (47)], 38),
  (38, [.iload 2, .iload 3, .if_icmp .ge (47)], 43),
  (43, [.iconst (1), .goto (48)], 47),
  (47, [.iconst (0)], 48),
  (48, [.ret 1], 49)]
def qP_X0_last : q_P := [(0, [.iconst (5), .istore 2, .iconst (0), .istore 3], 4),
  (4, [.iload 3, .aload 0, .getfield 5, .if_icmp .ge (45)], 12),
  (12, [.aload 0, .getfield 1, .iload 3, .iaload, .iload 1, .if_icmp .ne (39)], 22),
  (22, [.iload 2, .iconst (5), .if_icmp .eq (37)], 27),
  (27, [.aload 0, .iload 1, .iload 2, .iload 3, .invokestatic 11, .ifCond .eq (39)], 37),
  (37, [.iload 3, .istore 2], 39),
  (39, [.iinc 3 (1), .goto (4)], 45),
  (45, [.iload 2, .ret 0], 47)]
def qP_X0_takes : q_P := [(0, [.aload 0, .getfield 1, .iload 1, .iaload, .iload 2, .if_icmp .ne (12)], 10),
  (10, [.iconst (0), .ret 1], 12),
  (12, [.aload 0, .iload 2, .invokestatic 4, .aload 0, .getfield 0, .iload 2, .iaload, .if_icmp .ge (28)], 26),
  (26, [.iconst (1), .ret 1], 28),
  (28, [.aload 0, .iload 2, .invokestatic 12, .istore 3, .iload 3, .iconst (5), .if_icmp .eq (62)], 39),
  (39, [.aload 0, .getfield 0, .iload 2, .iaload, .ifCond .le (62)], 48),
  (48, [.aload 0, .iload 2, .iload 1, .iload 3, .invokestatic 11, .ifCond .eq (62)], 58),
  (58, [.iconst (1), .goto (63)], 62),
  (62, [.iconst (0)], 63),
  (63, [.ret 1], 64)]
def qP_X0_comeIn : q_P := [(0, [.aload 0, .iload 2, .invokestatic 4, .aload 0, .getfield 0, .iload 2, .iaload, .if_icmp .ge (18)], 14),
  (14, [.iconst (5), .goto (23)], 18),
  (18, [.aload 0, .iload 2, .invokestatic 12], 23),
  (23, [.istore 3, .iload 3, .iconst (5), .if_icmp .eq (36)], 29),
  (29, [.aload 0, .getfield 1, .iload 3, .iconst (5), .iastore], 36),
  (36, [.aload 0, .getfield 1, .iload 1, .iload 2, .iastore, .iload 3, .ret 0], 45)]
def qP_X0_askInTurn : q_P := [(0, [.aload 0, .invokestatic 2, .iconst (0), .istore 1], 6),
  (6, [.iload 1, .iconst (5), .if_icmp .ge (24)], 11),
  (11, [.aload 0, .getfield 4, .iload 1, .iconst (0), .iastore, .iinc 1 (1), .goto (6)], 24),
  (24, [.iconst (1), .istore 1, .iconst (0), .istore 2], 28),
  (28, [.iload 1, .ifCond .eq (105)], 32),
  (32, [.iload 2, .iconst (1000), .if_icmp .ge (105)], 39),
  (39, [.iconst (0), .istore 1, .iconst (0), .istore 3], 43),
  (43, [.iload 3, .aload 0, .getfield 5, .if_icmp .ge (99)], 51),
  (51, [.aload 0, .getfield 1, .iload 3, .iaload, .iconst (5), .if_icmp .ne (75)], 61),
  (61, [.aload 0, .iload 3, .aload 0, .getfield 4, .iload 3, .iaload, .invokestatic 10, .goto (76)], 75),
  (75, [.iconst (5)], 76),
  (76, [.istore 4, .iload 4, .iconst (5), .if_icmp .eq (93)], 84),
  (84, [.iconst (1), .istore 1, .aload 0, .iload 3, .iload 4, .invokestatic 16], 93),
  (93, [.iinc 3 (1), .goto (43)], 99),
  (99, [.iinc 2 (1), .goto (28)], 105),
  (105, [.return_], 106)]
def qP_X0_ask : q_P := [(0, [.aload 0, .iload 1, .iload 2, .invokestatic 13, .ifCond .eq (18)], 9),
  (9, [.aload 0, .iload 1, .iload 2, .invokestatic 14, .goto (19)], 18),
  (18, [.iload 1], 19),
  (19, [.istore 3, .iload 3, .iconst (5), .if_icmp .eq (37)], 25),
  (25, [.aload 0, .getfield 4, .iload 3, .dup2, .iaload, .iconst (1), .iload 2, .ishl, .ior, .iastore], 37),
  (37, [.return_], 38)]
def qP_X0_complaint : q_P := [(0, [.iconst (0), .istore 1], 2),
  (2, [.iload 1, .aload 0, .getfield 5, .if_icmp .ge (94)], 10),
  (10, [.aload 0, .getfield 1, .iload 1, .iaload, .iconst (5), .if_icmp .eq (44)], 20),
  (20, [.aload 0, .getfield 2, .iload 1, .aaload, .aload 0, .getfield 1, .iload 1, .iaload, .iaload, .ifCond .gt (44)], 36),
  (36, [.iconst (10), .iload 1, .imul, .iconst (9), .iadd, .ret 0], 44),
  (44, [.iconst (0), .istore 2], 46),
  (46, [.iload 2, .iconst (5), .if_icmp .ge (88)], 51),
  (51, [.aload 0, .iload 1, .iload 2, .aload 0, .getfield 1, .iload 1, .iaload, .invokestatic 9, .ifCond .eq (82)], 66),
  (66, [.aload 0, .iload 1, .iload 2, .invokestatic 13, .ifCond .eq (82)], 75),
  (75, [.iconst (10), .iload 1, .imul, .iload 2, .iadd, .ret 0], 82),
  (82, [.iinc 2 (1), .goto (46)], 88),
  (88, [.iinc 1 (1), .goto (2)], 94),
  (94, [.iconst (-1), .ret 0], 96)]
def qP_X0_fits : q_P := [(0, [.iconst (0), .istore 1], 2),
  (2, [.iload 1, .iconst (5), .if_icmp .ge (29)], 7),
  (7, [.aload 0, .iload 1, .invokestatic 4, .aload 0, .getfield 0, .iload 1, .iaload, .if_icmp .le (23)], 21),
  (21, [.iconst (0), .ret 1], 23),
  (23, [.iinc 1 (1), .goto (2)], 29),
  (29, [.iconst (1), .ret 1], 31)]
def qP_X0_nextWay : q_P := [(0, [.aload 0, .getfield 5, .iconst (1), .isub, .istore 1], 7),
  (7, [.iload 1, .ifCond .lt (57)], 11),
  (11, [.aload 0, .getfield 1, .iload 1, .aload 0, .getfield 1, .iload 1, .iaload, .iconst (5), .if_icmp .ne (30)], 26),
  (26, [.iconst (0), .goto (38)], 30),
  (30, [.aload 0, .getfield 1, .iload 1, .iaload, .iconst (1), .iadd], 38),
  (38, [.iastore, .aload 0, .getfield 1, .iload 1, .iaload, .iconst (5), .if_icmp .eq (51)], 49),
  (49, [.iconst (1), .ret 1], 51),
  (51, [.iinc 1 (-1), .goto (7)], 57),
  (57, [.iconst (0), .ret 1], 59)]
def qP_X1_init : q_P := [(0, [.aload 0, .monitorenter, .aload 0, .iconst (160), .newarray .int, .putfield 100, .aload 0, .iconst (160), .newarray .int, .putfield 102, .aload 0, .iconst (3), .newarray .int, .putfield 104, .return_], 30)]
def qP_X1_clear : q_P := [(0, [.aload 0, .iconst (0), .putfield 101, .return_], 6)]
def qP_X1_take : q_P := [(0, [.aload 0, .getfield 101, .iconst (160), .if_icmp .ge (30)], 10),
  (10, [.aload 0, .getfield 100, .aload 0, .getfield 101, .iload 1, .iastore, .aload 0, .dup, .getfield 101, .iconst (1), .iadd, .putfield 101], 30),
  (30, [.return_], 31)]
def qP_X1_read : q_P := [(0, [.aload 0, .iconst (0), .putfield 103, .aload 0, .iconst (-1), .putfield 109, .aload 0, .iconst (0), .putfield 108, .aload 0, .invokestatic 35, .aload 0, .iconst (0), .iconst (-5), .invokestatic 25, .aload 0, .iconst (1), .iconst (-6), .invokestatic 25, .aload 0, .iconst (2), .iconst (-7), .invokestatic 25, .aload 0, .iconst (-2), .invokestatic 26, .aload 0, .getfield 109, .ret 0], 51)]
def qP_X1_made : q_P := [(0, [.aload 0, .getfield 103, .newarray .int, .astore 2, .aload 0, .getfield 102, .iconst (0), .aload 2, .iconst (0), .aload 0, .getfield 103, .monitorexit, .new 3, .dup, .iload 1, .aload 2, .aload 0, .getfield 104, .swap, .nop, .invokestatic 46, .areturn], 41)]
def qP_X1_part : q_P := [(0, [.aload 0, .iload 2, .invokestatic 26, .aload 0, .getfield 104, .iload 1, .aload 0, .getfield 103, .iastore, .aload 0, .iconst (0), .invokestatic 29, .aload 0, .iconst (59), .invokestatic 26, .aload 0, .iconst (0), .iconst (0), .invokestatic 28, .return_], 33)]
def qP_X1_expect : q_P := [(0, [.aload 0, .getfield 105, .iload 1, .if_icmp .ne (15)], 8),
  (8, [.aload 0, .invokestatic 35, .goto (19)], 15),
  (15, [.aload 0, .invokestatic 27], 19),
  (19, [.return_], 20)]
def qP_X1_fail : q_P := [(0, [.aload 0, .getfield 109, .ifCond .ge (15)], 7),
  (7, [.aload 0, .aload 0, .getfield 107, .putfield 109], 15),
  (15, [.aload 0, .iconst (-1), .putfield 105, .return_], 21)]
def qP_X1_emit : q_P := [(0, [.aload 0, .getfield 103, .aload 0, .getfield 102, .arraylength, .if_icmp .ge (36)], 12),
  (12, [.aload 0, .getfield 102, .aload 0, .getfield 103, .iload 2, .iconst (4), .ishl, .iload 1, .ior, .iastore, .aload 0, .dup, .getfield 103, .iconst (1), .iadd, .putfield 103], 36),
  (36, [.return_], 37)]
def qP_X1_either : q_P := [(0, [.aload 0, .iload 1, .invokestatic 30, .iconst (0), .istore 2], 7),
  (7, [.aload 0, .getfield 105, .iconst (-8), .if_icmp .ne (45)], 16),
  (16, [.iload 2, .iconst (160), .if_icmp .ge (45)], 23),
  (23, [.aload 0, .invokestatic 35, .aload 0, .iload 1, .invokestatic 30, .aload 0, .iconst (11), .iconst (0), .invokestatic 28, .iinc 2 (1), .goto (7)], 45),
  (45, [.return_], 46)]
def qP_X1_both : q_P := [(0, [.aload 0, .iload 1, .invokestatic 31, .iconst (0), .istore 2], 7),
  (7, [.aload 0, .getfield 105, .iconst (-9), .if_icmp .ne (45)], 16),
  (16, [.iload 2, .iconst (160), .if_icmp .ge (45)], 23),
  (23, [.aload 0, .invokestatic 35, .aload 0, .iload 1, .invokestatic 31, .aload 0, .iconst (10), .iconst (0), .invokestatic 28, .iinc 2 (1), .goto (7)], 45),
  (45, [.return_], 46)]
def qP_X1_not : q_P := [(0, [.aload 0, .getfield 105, .iconst (-10), .if_icmp .ne (37)], 9),
  (9, [.iload 1, .iconst (5), .if_icmp .lt (19)], 14),
  (14, [.aload 0, .invokestatic 27, .return_], 19),
  (19, [.aload 0, .invokestatic 35, .aload 0, .iload 1, .iconst (1), .iadd, .invokestatic 31, .aload 0, .iconst (4), .iconst (0), .invokestatic 28, .return_], 37),
  (37, [.aload 0, .iload 1, .invokestatic 32, .aload 0, .getfield 105, .iconst (60), .if_icmp .eq (60)], 51),
  (51, [.aload 0, .getfield 105, .iconst (61), .if_icmp .ne (92)], 60),
  (60, [.aload 0, .getfield 105, .iconst (60), .if_icmp .ne (74)], 69),
  (69, [.iconst (8), .goto (76)], 74),
  (74, [.iconst (9)], 76),
  (76, [.istore 2, .aload 0, .invokestatic 35, .aload 0, .iload 1, .invokestatic 32, .aload 0, .iload 2, .iconst (0), .invokestatic 28], 92),
  (92, [.return_], 93)]
def qP_X1_sum : q_P := [(0, [.aload 0, .iload 1, .invokestatic 33, .iconst (0), .istore 2], 7),
  (7, [.aload 0, .getfield 105, .iconst (43), .if_icmp .eq (25)], 16),
  (16, [.aload 0, .getfield 105, .iconst (45), .if_icmp .ne (70)], 25),
  (25, [.iload 2, .iconst (160), .if_icmp .ge (70)], 32),
  (32, [.aload 0, .getfield 105, .iconst (45), .if_icmp .ne (46)], 41),
  (41, [.iconst (7), .goto (48)], 46),
  (46, [.iconst (6)], 48),
  (48, [.istore 3, .aload 0, .invokestatic 35, .aload 0, .iload 1, .invokestatic 33, .aload 0, .iload 3, .iconst (0), .invokestatic 28, .iinc 2 (1), .goto (7)], 70),
  (70, [.return_], 71)]
def qP_X1_term : q_P := [(0, [.aload 0, .iload 1, .invokestatic 34, .iconst (0), .istore 2], 7),
  (7, [.aload 0, .getfield 105, .iconst (42), .if_icmp .ne (44)], 16),
  (16, [.iload 2, .iconst (160), .if_icmp .ge (44)], 23),
  (23, [.aload 0, .invokestatic 35, .aload 0, .iload 1, .invokestatic 34, .aload 0, .iconst (5), .iconst (0), .invokestatic 28, .iinc 2 (1), .goto (7)], 44),
  (44, [.return_], 45)]
def qP_X1_one : q_P := [(0, [.aload 0, .getfield 105, .iconst (-3), .if_icmp .eq (18)], 9),
  (9, [.aload 0, .getfield 105, .iconst (-4), .if_icmp .ne (45)], 18),
  (18, [.aload 0, .aload 0, .getfield 105, .iconst (-3), .if_icmp .ne (32)], 28),
  (28, [.iconst (1), .goto (33)], 32),
  (32, [.iconst (2)], 33),
  (33, [.aload 0, .getfield 106, .invokestatic 28, .aload 0, .invokestatic 35, .return_], 45),
  (45, [.aload 0, .getfield 105, .iconst (40), .if_icmp .eq (63)], 54),
  (54, [.aload 0, .getfield 105, .iconst (45), .if_icmp .ne (68)], 63),
  (63, [.iload 1, .iconst (5), .if_icmp .lt (73)], 68),
  (68, [.aload 0, .invokestatic 27, .return_], 73),
  (73, [.aload 0, .getfield 105, .iconst (45), .if_icmp .ne (86)], 82),
  (82, [.iconst (1), .goto (87)], 86),
  (86, [.iconst (0)], 87),
  (87, [.istore 2, .aload 0, .invokestatic 35, .iload 2, .ifCond .eq (112)], 96),
  (96, [.aload 0, .iload 1, .iconst (1), .iadd, .invokestatic 34, .aload 0, .iconst (3), .iconst (0), .invokestatic 28, .goto (125)], 112),
  (112, [.aload 0, .iload 1, .iconst (1), .iadd, .invokestatic 29, .aload 0, .iconst (41), .invokestatic 26], 125),
  (125, [.return_], 126)]
def qP_X1_next : q_P := [(0, [.aload 0, .getfield 109, .ifCond .lt (8)], 7),
  (7, [.return_], 8),
  (8, [.aload 0, .aload 0, .getfield 108, .putfield 107], 16),
  (16, [.aload 0, .getfield 107, .aload 0, .getfield 101, .if_icmp .ge (68)], 27),
  (27, [.aload 0, .getfield 100, .aload 0, .getfield 107, .iaload, .iconst (32), .if_icmp .eq (55)], 41),
  (41, [.aload 0, .getfield 100, .aload 0, .getfield 107, .iaload, .iconst (10), .if_icmp .ne (68)], 55),
  (55, [.aload 0, .dup, .getfield 107, .iconst (1), .iadd, .putfield 107, .goto (16)], 68),
  (68, [.aload 0, .getfield 107, .aload 0, .getfield 101, .if_icmp .lt (94)], 79),
  (79, [.aload 0, .aload 0, .getfield 107, .putfield 108, .aload 0, .iconst (-2), .putfield 105, .return_], 94),
  (94, [.aload 0, .getfield 100, .aload 0, .getfield 107, .iaload, .istore 1, .aload 0, .aload 0, .getfield 107, .iconst (1), .iadd, .putfield 108, .iload 1, .invokestatic 39, .ifCond .eq (128)], 121),
  (121, [.aload 0, .invokestatic 36, .goto (158)], 128),
  (128, [.iload 1, .invokestatic 40, .ifCond .eq (142)], 135),
  (135, [.aload 0, .invokestatic 37, .goto (158)], 142),
  (142, [.aload 0, .iload 1, .invokestatic 41, .ifCond .eq (154)], 150),
  (150, [.iload 1, .goto (155)], 154),
  (154, [.iconst (-1)], 155),
  (155, [.putfield 105], 158),
  (158, [.return_], 159)]
def qP_X1_word : q_P := [(0, [.aload 0, .getfield 108, .aload 0, .getfield 101, .if_icmp .ge (39)], 11),
  (11, [.aload 0, .getfield 100, .aload 0, .getfield 108, .iaload, .invokestatic 39, .ifCond .eq (39)], 26),
  (26, [.aload 0, .dup, .getfield 108, .iconst (1), .iadd, .putfield 108, .goto (0)], 39),
  (39, [.aload 0, .iconst (-1), .putfield 105, .aload 0, .ldc 1, .iconst (-5), .iconst (0), .invokestatic 38, .aload 0, .ldc 2, .iconst (-6), .iconst (0), .invokestatic 38, .aload 0, .ldc 3, .iconst (-7), .iconst (0), .invokestatic 38, .aload 0, .ldc 4, .iconst (-8), .iconst (0), .invokestatic 38, .aload 0, .ldc 5, .iconst (-9), .iconst (0), .invokestatic 38, .aload 0, .ldc 6, .iconst (-10), .iconst (0), .invokestatic 38, .aload 0, .ldc 7, .iconst (-4), .iconst (0), .invokestatic 38, .aload 0, .ldc 8, .iconst (-4), .iconst (1), .invokestatic 38, .aload 0, .ldc 9, .iconst (-4), .iconst (2), .invokestatic 38, .aload 0, .ldc 10], 128),
  (128, [.iconst (-4), .iconst (3), .invokestatic 38, .aload 0, .ldc 11, .iconst (-4), .iconst (4), .invokestatic 38, .aload 0, .ldc 12, .iconst (-4), .iconst (5), .invokestatic 38, .return_], 153)]
def qP_X1_number : q_P := [(0, [.aload 0, .iconst (0), .putfield 106, .aload 0, .aload 0, .getfield 107, .putfield 108], 13),
  (13, [.aload 0, .getfield 108, .aload 0, .getfield 101, .if_icmp .ge (76)], 24),
  (24, [.aload 0, .getfield 100, .aload 0, .getfield 108, .iaload, .invokestatic 40, .ifCond .eq (76)], 39),
  (39, [.aload 0, .iconst (10), .aload 0, .getfield 106, .imul, .aload 0, .getfield 100, .aload 0, .getfield 108, .iaload, .iadd, .iconst (48), .isub, .putfield 106, .aload 0, .dup, .getfield 108, .iconst (1), .iadd, .putfield 108, .goto (13)], 76),
  (76, [.aload 0, .aload 0, .getfield 108, .aload 0, .getfield 107, .isub, .iconst (4), .if_icmp .le (94)], 90),
  (90, [.iconst (-1), .goto (96)], 94),
  (94, [.iconst (-3)], 96),
  (96, [.putfield 105, .return_], 100)]
def qP_X1_mean : q_P := [(0, [.aload 1, .invokestatic 199, .aload 0, .getfield 108, .aload 0, .getfield 107, .isub, .if_icmp .ne (20)], 16),
  (16, [.iconst (1), .goto (21)], 20),
  (20, [.iconst (0)], 21),
  (21, [.istore 4, .iconst (0), .istore 5], 26),
  (26, [.iload 4, .ifCond .eq (74)], 31),
  (31, [.iload 5, .aload 1, .invokestatic 199, .if_icmp .ge (74)], 40),
  (40, [.aload 0, .getfield 100, .aload 0, .getfield 107, .iload 5, .iadd, .iaload, .aload 1, .iload 5, .invokestatic 200, .if_icmp .ne (65)], 61),
  (61, [.iconst (1), .goto (66)], 65),
  (65, [.iconst (0)], 66),
  (66, [.istore 4, .iinc 5 (1), .goto (26)], 74),
  (74, [.iload 4, .ifCond .eq (89)], 79),
  (79, [.aload 0, .iload 2, .putfield 105, .aload 0, .iload 3, .putfield 106], 89),
  (89, [.return_], 90)]
def qP_X1_isLetter : q_P := [(0, [.iload 0, .iconst (97), .if_icmp .lt (16)], 6),
  (6, [.iload 0, .iconst (122), .if_icmp .gt (16)], 12),
  (12, [.iconst (1), .goto (17)], 16),
  (16, [.iconst (0)], 17),
  (17, [.ret 1], 18)]
def qP_X1_isDigit : q_P := [(0, [.iload 0, .iconst (48), .if_icmp .lt (16)], 6),
  (6, [.iload 0, .iconst (57), .if_icmp .gt (16)], 12),
  (12, [.iconst (1), .goto (17)], 16),
  (16, [.iconst (0)], 17),
  (17, [.ret 1], 18)]
def qP_X1_isSign : q_P := [(0, [.iload 0, .iconst (40), .if_icmp .eq (48)], 6),
  (6, [.iload 0, .iconst (41), .if_icmp .eq (48)], 12),
  (12, [.iload 0, .iconst (59), .if_icmp .eq (48)], 18),
  (18, [.iload 0, .iconst (43), .if_icmp .eq (48)], 24),
  (24, [.iload 0, .iconst (45), .if_icmp .eq (48)], 30),
  (30, [.iload 0, .iconst (42), .if_icmp .eq (48)], 36),
  (36, [.iload 0, .iconst (60), .if_icmp .eq (48)], 42),
  (42, [.iload 0, .iconst (61), .if_icmp .ne (52)], 48),
  (48, [.iconst (1), .goto (53)], 52),
  (52, [.iconst (0)], 53),
  (53, [.ret 1], 54)]
def qP_X2_init : q_P := [(0, [.aload 0, .monitorenter, .aload 0, .iconst (40), .newarray .int, .putfield 200, .aload 0, .iconst (-1), .putfield 201, .return_], 18)]
def qP_X2_isMissing : q_P := [(0, [.aload 0, .getfield 201, .iconst (-1), .if_icmp .ne (12)], 8),
  (8, [.iconst (1), .goto (13)], 12),
  (12, [.iconst (0)], 13),
  (13, [.ret 1], 14)]
def qP_X2_become : q_P := [(0, [.aload 0, .iload 1, .putfield 201, .aload 0, .iload 2, .putfield 202, .iconst (0), .istore 3], 12),
  (12, [.iload 3, .iconst (40), .if_icmp .ge (31)], 18),
  (18, [.aload 0, .getfield 200, .iload 3, .iconst (0), .iastore, .iinc 3 (1), .goto (12)], 31),
  (31, [.return_], 32)]
def qP_X2_write : q_P := [(0, [.iload 1, .ifCond .lt (44)], 4),
  (4, [.iload 1, .aload 0, .getfield 202, .if_icmp .ge (44)], 12),
  (12, [.aload 0, .getfield 200, .iload 1, .aload 0, .getfield 201, .ifCond .ne (29)], 24),
  (24, [.iload 2, .i2b, .goto (43)], 29),
  (29, [.aload 0, .getfield 201, .iconst (1), .if_icmp .ne (42)], 37),
  (37, [.iload 2, .i2s, .goto (43)], 42),
  (42, [.iload 2], 43),
  (43, [.iastore], 44),
  (44, [.return_], 45)]
def qP_X3_init : q_P := [(0, [.aload 0, .monitorenter, .aload 0, .iconst (40), .newarray .int, .putfield 303, .aload 0, .iload 1, .putfield 300, .aload 0, .aload 2, .putfield 301, .aload 0, .aload 3, .putfield 302, .return_], 28)]
def qP_X3_value : q_P := [(0, [.iconst (1), .istore 3, .aload 0, .getfield 302, .iload 1, .iaload, .istore 4], 10),
  (10, [.iload 4, .aload 0, .getfield 301, .arraylength, .if_icmp .ge (339)], 20),
  (20, [.aload 0, .getfield 301, .iload 4, .iaload, .iconst (15), .iand, .istore 5, .aload 0, .getfield 301, .iload 4, .iaload, .iconst (4), .ishr, .istore 6, .iload 5, .ifCond .ne (51)], 48),
  (48, [.goto (339)], 51),
  (51, [.iload 5, .iconst (1), .if_icmp .eq (63)], 57),
  (57, [.iload 5, .iconst (2), .if_icmp .ne (98)], 63),
  (63, [.iload 3, .iconst (39), .if_icmp .lt (71)], 69),
  (69, [.iconst (0), .ret 0], 71),
  (71, [.iinc 3 (1), .aload 0, .getfield 303, .iload 3, .iload 5, .iconst (1), .if_icmp .ne (90)], 85),
  (85, [.iload 6, .goto (94)], 90),
  (90, [.aload 2, .iload 6, .iaload], 94),
  (94, [.iastore, .goto (333)], 98),
  (98, [.iload 5, .iconst (3), .if_icmp .eq (110)], 104),
  (104, [.iload 5, .iconst (4), .if_icmp .ne (156)], 110),
  (110, [.iload 3, .iconst (2), .if_icmp .ge (117)], 115),
  (115, [.iconst (0), .ret 0], 117),
  (117, [.aload 0, .getfield 303, .iload 3, .iaload, .istore 7, .aload 0, .getfield 303, .iload 3, .iload 5, .iconst (3), .if_icmp .ne (142)], 136),
  (136, [.iload 7, .ineg, .goto (152)], 142),
  (142, [.iload 7, .ifCond .ne (151)], 147),
  (147, [.iconst (1), .goto (152)], 151),
  (151, [.iconst (0)], 152),
  (152, [.iastore, .goto (333)], 156),
  (156, [.iload 3, .iconst (3), .if_icmp .ge (163)], 161),
  (161, [.iconst (0), .ret 0], 163),
  (163, [.iinc 3 (-1), .aload 0, .getfield 303, .iload 3, .iaload, .istore 7, .aload 0, .getfield 303, .iload 3, .iconst (1), .iadd, .iaload, .istore 8, .iload 5, .tableswitch (308) (5) (10) #[224, 234, 244, 254, 271, 288]], 224),
  (224, [.iload 7, .iload 8, .imul, .istore 9, .goto (325)], 234),
  (234, [.iload 7, .iload 8, .iadd, .istore 9, .goto (325)], 244),
  (244, [.iload 7, .iload 8, .isub, .istore 9, .goto (325)], 254),
  (254, [.iload 7, .iload 8, .if_icmp .ge (265)], 261),
  (261, [.iconst (1), .goto (266)], 265),
  (265, [.iconst (0)], 266),
  (266, [.istore 9, .goto (325)], 271),
  (271, [.iload 7, .iload 8, .if_icmp .ne (282)], 278),
  (278, [.iconst (1), .goto (283)], 282),
  (282, [.iconst (0)], 283),
  (283, [.istore 9, .goto (325)], 288),
  (288, [.iload 7, .ifCond .eq (302)], 293),
  (293, [.iload 8, .ifCond .eq (302)], 298),
  (298, [.iconst (1), .goto (303)], 302),
  (302, [.iconst (0)], 303),
  (303, [.istore 9, .goto (325)], 308),
  (308, [.iload 7, .ifCond .ne (318)], 313),
  (313, [.iload 8, .ifCond .eq (322)], 318),
  (318, [.iconst (1), .goto (323)], 322),
  (322, [.iconst (0)], 323),
  (323, [.istore 9], 325),
  (325, [.aload 0, .getfield 303, .iload 3, .iload 9, .iastore], 333),
  (333, [.iinc 4 (1), .goto (10)], 339),
  (339, [.iload 3, .iconst (2), .if_icmp .ge (348)], 344),
  (344, [.iconst (0), .goto (354)], 348),
  (348, [.aload 0, .getfield 303, .iload 3, .iaload], 354),
  (354, [.ret 0], 355)]
def qP_X4_init : q_P := [(0, [.aload 0, .monitorenter, .aload 0, .new 0, .dup, .invokestatic 0, .putfield 400, .aload 0, .iconst (6), .newarray .int, .putfield 401, .aload 0, .iconst (6), .newarray .int, .putfield 402, .aload 0, .iconst (6), .newarray .int, .putfield 403, .aload 0, .iconst (6), .newarray .int, .putfield 404, .aload 0, .iconst (6), .newarray .int, .putfield 405, .aload 0, .iconst (6), .newarray .int, .putfield 406, .aload 0, .iconst (6), .newarray .int, .putfield 407, .aload 0, .iconst (6), .newarray .int, .putfield 408, .aload 0, .aload 1, .putfield 410, .iconst (0), .istore 2], 86),
  (86, [.iload 2, .iconst (5), .if_icmp .ge (107)], 91),
  (91, [.aload 0, .getfield 401, .iload 2, .iconst (20), .iload 2, .imul, .iastore, .iinc 2 (1), .goto (86)], 107),
  (107, [.return_], 108)]
def qP_X4_copyFrom : q_P := [(0, [.aload 0, .getfield 400, .aload 1, .getfield 400, .invokestatic 1, .aload 1, .getfield 401, .iconst (0), .aload 0, .getfield 401, .iconst (0), .iconst (5), .monitorexit, .aload 1, .getfield 402, .iconst (0), .aload 0, .getfield 402, .iconst (0), .iconst (5), .monitorexit, .aload 1, .getfield 403, .iconst (0), .aload 0, .getfield 403, .iconst (0), .iconst (5), .monitorexit, .aload 1, .getfield 404, .iconst (0), .aload 0, .getfield 404, .iconst (0), .iconst (5), .monitorexit, .aload 1, .getfield 405, .iconst (0), .aload 0, .getfield 405, .iconst (0), .iconst (5), .monitorexit, .aload 1, .getfield 406, .iconst (0), .aload 0, .getfield 406], 90),
  (90, [.iconst (0), .iconst (5), .monitorexit, .aload 1, .getfield 407, .iconst (0), .aload 0, .getfield 407, .iconst (0), .iconst (5), .monitorexit, .aload 0, .aload 1, .getfield 409, .putfield 409, .aload 0, .aload 1, .getfield 410, .putfield 410, .return_], 126)]
def qP_X4_add : q_P := [(0, [.aload 0, .getfield 400, .getfield 5, .istore 4, .iload 4, .iconst (5), .if_icmp .lt (18)], 15),
  (15, [.iconst (-4), .ret 0], 18),
  (18, [.aload 0, .getfield 404, .iload 4, .iload 1, .iconst (10), .idiv, .iastore, .aload 0, .getfield 405, .iload 4, .iload 1, .iconst (10), .irem, .iastore, .aload 0, .getfield 406, .iload 4, .iload 2, .iastore, .aload 0, .getfield 407, .iload 4, .iload 3, .iastore, .aload 0, .getfield 400, .getfield 1, .iload 4, .iconst (5), .iastore, .aload 0, .getfield 400, .iload 4, .iconst (1), .iadd, .putfield 5, .iload 4, .ret 0], 81)]
def qP_X4_lay : q_P := [(0, [.aload 0, .getfield 406, .iload 1, .iload 2, .iastore, .aload 0, .getfield 400, .getfield 1, .iload 1, .iconst (5), .iastore, .return_], 18)]
def qP_X4_move : q_P := [(0, [.aload 0, .getfield 401, .iload 1, .iload 2, .iastore, .iconst (0), .istore 3], 9),
  (9, [.iload 3, .aload 0, .getfield 400, .getfield 5, .if_icmp .ge (46)], 20),
  (20, [.aload 0, .getfield 400, .getfield 1, .iload 3, .iaload, .iload 1, .if_icmp .ne (40)], 33),
  (33, [.aload 0, .getfield 406, .iload 3, .iload 2, .iastore], 40),
  (40, [.iinc 3 (1), .goto (9)], 46),
  (46, [.return_], 47)]
def qP_X4_says : q_P := [(0, [.aload 0, .getfield 408, .iconst (0), .iload 3, .iconst (5), .if_icmp .ne (14)], 10),
  (10, [.iconst (0), .goto (30)], 14),
  (14, [.aload 0, .getfield 406, .iload 2, .iaload, .aload 0, .getfield 401, .iload 3, .iaload, .isub, .invokestatic 206], 30),
  (30, [.iastore, .aload 0, .getfield 408, .iconst (1), .aload 0, .getfield 402, .iload 3, .iaload, .iastore, .aload 0, .getfield 408, .iconst (2), .aload 0, .getfield 403, .iload 3, .iaload, .iastore, .aload 0, .getfield 408, .iconst (3), .aload 0, .getfield 407, .iload 2, .iaload, .iastore, .aload 0, .getfield 408, .iconst (4), .aload 0, .getfield 409, .iastore, .aload 0, .getfield 408, .iconst (5), .aload 0, .getfield 405, .iload 2, .iaload, .iastore, .iload 1, .iconst (2), .if_icmp .ne (98)], 94),
  (94, [.iconst (0), .goto (100)], 98),
  (98, [.iconst (-99)], 100),
  (100, [.istore 4, .iload 4, .iconst (99), .aload 0, .getfield 410, .iload 1, .aload 0, .getfield 408, .invokestatic 47, .invokestatic 208, .invokestatic 207, .ret 0], 125)]
def qP_X4_likes : q_P := [(0, [.aload 0, .getfield 404, .iload 1, .iaload, .iconst (5), .if_icmp .ne (27)], 10),
  (10, [.aload 0, .getfield 403, .iload 2, .iaload, .aload 0, .getfield 405, .iload 1, .iaload, .if_icmp .le (27)], 25),
  (25, [.iconst (-1), .ret 0], 27),
  (27, [.aload 0, .getfield 404, .iload 1, .iaload, .iconst (1), .if_icmp .eq (47)], 37),
  (37, [.aload 0, .getfield 404, .iload 1, .iaload, .iconst (3), .if_icmp .ne (51)], 47),
  (47, [.iconst (1), .goto (52)], 51),
  (51, [.iconst (0)], 52),
  (52, [.istore 3, .iload 3, .ifCond .eq (72)], 57),
  (57, [.aload 0, .getfield 405, .iload 1, .iaload, .iconst (5), .irem, .iload 2, .if_icmp .ne (72)], 69),
  (69, [.iconst (99), .ret 0], 72),
  (72, [.aload 0, .iconst (0), .iload 1, .iload 2, .invokestatic 53, .istore 4, .iload 3, .ifCond .eq (90)], 85),
  (85, [.iload 4, .iconst (2), .idiv, .ret 0], 90),
  (90, [.aload 0, .getfield 404, .iload 1, .iaload, .iconst (4), .if_icmp .ne (117)], 100),
  (100, [.aload 0, .getfield 402, .iload 2, .iaload, .iconst (50), .if_icmp .le (117)], 111),
  (111, [.iload 4, .ineg, .goto (119)], 117),
  (117, [.iload 4], 119),
  (119, [.ret 0], 120)]
def qP_X4_wants : q_P := [(0, [.aload 0, .iconst (1), .iload 1, .iload 2, .invokestatic 53, .istore 3, .aload 0, .getfield 404, .iload 1, .iaload, .iconst (3), .if_icmp .ne (21)], 18),
  (18, [.iload 3, .ineg, .ret 0], 21),
  (21, [.aload 0, .getfield 404, .iload 1, .iaload, .iconst (2), .if_icmp .eq (50)], 31),
  (31, [.aload 0, .getfield 404, .iload 1, .iaload, .iconst (4), .if_icmp .ne (54)], 41),
  (41, [.aload 0, .getfield 409, .iconst (2), .irem, .ifCond .ne (54)], 50),
  (50, [.iconst (1), .goto (55)], 54),
  (54, [.iconst (0)], 55),
  (55, [.istore 4, .iload 4, .ifCond .eq (76)], 62),
  (62, [.iload 3, .iconst (10), .aload 0, .getfield 405, .iload 1, .iaload, .imul, .iadd, .goto (77)], 76),
  (76, [.iload 3], 77),
  (77, [.ret 0], 78)]
def qP_X4_goes : q_P := [(0, [.aload 0, .getfield 404, .iload 1, .iaload, .iconst (5), .if_icmp .ne (12)], 10),
  (10, [.iconst (1), .ret 0], 12),
  (12, [.aload 0, .getfield 404, .iload 1, .iaload, .iconst (1), .if_icmp .eq (32)], 22),
  (22, [.aload 0, .getfield 404, .iload 1, .iaload, .iconst (3), .if_icmp .ne (36)], 32),
  (32, [.iconst (1), .goto (37)], 36),
  (36, [.iconst (0)], 37),
  (37, [.istore 2, .iload 2, .ifCond .eq (55)], 42),
  (42, [.aload 0, .getfield 409, .iconst (10), .if_icmp .ge (55)], 51),
  (51, [.iconst (0), .goto (62)], 55),
  (55, [.aload 0, .iconst (2), .iload 1, .iconst (5), .invokestatic 53], 62),
  (62, [.istore 3, .aload 0, .getfield 404, .iload 1, .iaload, .iconst (3), .if_icmp .ne (82)], 73),
  (73, [.iload 3, .aload 0, .getfield 405, .iload 1, .iaload, .iadd, .ret 0], 82),
  (82, [.aload 0, .getfield 404, .iload 1, .iaload, .iconst (2), .if_icmp .eq (102)], 92),
  (92, [.aload 0, .getfield 404, .iload 1, .iaload, .iconst (4), .if_icmp .ne (108)], 102),
  (102, [.iload 3, .iconst (2), .idiv, .goto (109)], 108),
  (108, [.iload 3], 109),
  (109, [.ret 0], 110)]
def qP_X4_tellAll : q_P := [(0, [.iconst (0), .istore 1], 2),
  (2, [.iload 1, .aload 0, .getfield 400, .getfield 5, .if_icmp .ge (66)], 13),
  (13, [.iconst (0), .istore 2], 15),
  (15, [.iload 2, .iconst (5), .if_icmp .ge (60)], 20),
  (20, [.aload 0, .getfield 400, .getfield 2, .iload 1, .aaload, .iload 2, .aload 0, .iload 1, .iload 2, .invokestatic 54, .iastore, .aload 0, .getfield 400, .getfield 3, .iload 1, .aaload, .iload 2, .aload 0, .iload 1, .iload 2, .invokestatic 55, .iastore, .iinc 2 (1), .goto (15)], 60),
  (60, [.iinc 1 (1), .goto (2)], 66),
  (66, [.return_], 67)]
def qP_X4_wish : q_P := [(0, [.iconst (0), .istore 2], 2),
  (2, [.iload 2, .iconst (5), .if_icmp .ge (30)], 7),
  (7, [.aload 0, .getfield 400, .getfield 2, .iload 1, .aaload, .iload 2, .aload 0, .iload 1, .iload 2, .invokestatic 54, .iastore, .iinc 2 (1), .goto (2)], 30),
  (30, [.aload 0, .getfield 400, .iload 1, .iconst (0), .invokestatic 10, .ret 0], 40)]
def qP_X4_passYear : q_P := [(0, [.iconst (0), .istore 1, .iconst (0), .istore 2], 4),
  (4, [.iload 2, .aload 0, .getfield 400, .getfield 5, .if_icmp .ge (64)], 15),
  (15, [.aload 0, .getfield 400, .getfield 1, .iload 2, .iaload, .iconst (5), .if_icmp .ne (36)], 28),
  (28, [.aload 0, .iload 2, .invokestatic 58, .goto (37)], 36),
  (36, [.iconst (5)], 37),
  (37, [.istore 3, .iload 3, .iconst (5), .if_icmp .eq (58)], 43),
  (43, [.aload 0, .iload 2, .iload 3, .invokestatic 60, .ifCond .eq (58)], 52),
  (52, [.iload 1, .iconst (1), .iload 2, .ishl, .ior, .istore 1], 58),
  (58, [.iinc 2 (1), .goto (4)], 64),
  (64, [.aload 0, .dup, .getfield 409, .iconst (1), .iadd, .putfield 409, .iload 1, .ret 0], 76)]
def qP_X4_goTo : q_P := [(0, [.aload 0, .iload 1, .invokestatic 56, .istore 3, .aload 0, .getfield 401, .iload 2, .iaload, .aload 0, .getfield 406, .iload 1, .iaload, .isub, .istore 4, .aload 0, .getfield 406, .iload 1, .dup2, .iaload, .iload 3, .ineg, .iload 3, .iload 4, .invokestatic 208, .invokestatic 207, .iadd, .iastore, .aload 0, .getfield 406, .iload 1, .iaload, .aload 0, .getfield 401, .iload 2, .iaload, .if_icmp .eq (58)], 56),
  (56, [.iconst (0), .ret 1], 58),
  (58, [.iconst (0), .istore 5], 61),
  (61, [.iload 5, .aload 0, .getfield 400, .getfield 5, .if_icmp .ge (118)], 73),
  (73, [.iload 5, .iload 1, .if_icmp .eq (93)], 79),
  (79, [.aload 0, .getfield 400, .getfield 1, .iload 5, .iaload, .iload 2, .if_icmp .ne (112)], 93),
  (93, [.aload 0, .getfield 400, .getfield 3, .iload 5, .aaload, .iload 2, .aload 0, .iload 5, .iload 2, .invokestatic 55, .iastore], 112),
  (112, [.iinc 5 (1), .goto (61)], 118),
  (118, [.aload 0, .getfield 400, .iload 1, .iload 2, .invokestatic 13, .ifCond .ne (132)], 130),
  (130, [.iconst (0), .ret 1], 132),
  (132, [.aload 0, .getfield 400, .iload 1, .iload 2, .invokestatic 14, .istore 5, .iload 5, .iconst (5), .if_icmp .eq (162)], 149),
  (149, [.aload 0, .getfield 406, .iload 5, .aload 0, .getfield 401, .iload 2, .iaload, .iastore], 162),
  (162, [.aload 0, .getfield 403, .iload 2, .iconst (99), .aload 0, .getfield 403, .iload 2, .iaload, .iconst (1), .iadd, .invokestatic 208, .iastore, .iconst (1), .ret 1], 183)]
def qP_X5_init : q_P := [(0, [.aload 0, .monitorenter, .aload 0, .new 1, .dup, .invokestatic 20, .putfield 500, .aload 0, .iconst (6), .anewarray 8, .putfield 501, .aload 0, .iconst (4), .anewarray 9, .putfield 507, .iconst (0), .istore 1], 34),
  (34, [.iload 1, .ldc 0, .invokestatic 199, .if_icmp .ge (62)], 43),
  (43, [.aload 0, .getfield 500, .ldc 0, .iload 1, .invokestatic 200, .invokestatic 22, .iinc 1 (1), .goto (34)], 62),
  (62, [.aload 0, .getfield 500, .invokestatic 23, .pop, .aload 0, .getfield 500, .iconst (0), .invokestatic 24, .astore 1, .aload 0, .getfield 500, .invokestatic 21, .aload 0, .getfield 501, .iconst (0), .aload 1, .aastore, .aload 0, .iconst (1), .putfield 502, .aload 0, .new 4, .dup, .aload 1, .invokestatic 48, .putfield 503, .aload 0, .new 4, .dup, .aload 1, .invokestatic 48, .putfield 504, .aload 0, .new 4, .dup, .aload 1, .invokestatic 48, .putfield 505, .iconst (0), .istore 2], 136),
  (136, [.iload 2, .iconst (4), .if_icmp .ge (160)], 141),
  (141, [.aload 0, .getfield 507, .iload 2, .new 2, .dup, .invokestatic 42, .aastore, .iinc 2 (1), .goto (136)], 160),
  (160, [.return_], 161)]
def qP_X5_count : q_P := [(0, [.iload 1, .tableswitch (94) (0) (5) #[40, 51, 59, 70, 75, 86]], 40),
  (40, [.aload 0, .getfield 503, .getfield 400, .getfield 5, .ret 0], 51),
  (51, [.aload 0, .getfield 503, .getfield 409, .ret 0], 59),
  (59, [.aload 0, .getfield 503, .getfield 400, .invokestatic 3, .ret 0], 70),
  (70, [.aload 0, .getfield 502, .ret 0], 75),
  (75, [.aload 0, .getfield 503, .getfield 410, .getfield 300, .ret 0], 86),
  (86, [.aload 0, .getfield 500, .getfield 101, .ret 0], 94),
  (94, [.iconst (-2), .ret 0], 97)]
def qP_X5_dawn : q_P := [(0, [.iload 1, .ifCond .lt (11)], 4),
  (4, [.iload 1, .iconst (999), .if_icmp .le (14)], 11),
  (11, [.iconst (-2), .ret 0], 14),
  (14, [.aload 0, .getfield 503, .getfield 409, .istore 2, .aload 0, .getfield 503, .iload 1, .putfield 409, .iload 2, .ret 0], 32)]
def qP_X5_build : q_P := [(0, [.iload 1, .invokestatic 99, .ifCond .ne (10)], 7),
  (7, [.iconst (-5), .ret 0], 10),
  (10, [.iload 2, .ifCond .lt (29)], 14),
  (14, [.iload 2, .iconst (3), .if_icmp .gt (29)], 19),
  (19, [.iload 3, .ifCond .lt (29)], 23),
  (23, [.iload 3, .iconst (99), .if_icmp .le (32)], 29),
  (29, [.iconst (-7), .ret 0], 32),
  (32, [.iload 2, .iconst (1), .if_icmp .ne (60)], 37),
  (37, [.iload 3, .iconst (5), .if_icmp .gt (57)], 42),
  (42, [.iload 3, .aload 0, .getfield 503, .getfield 400, .iload 1, .invokestatic 4, .if_icmp .ge (60)], 57),
  (57, [.iconst (-7), .ret 0], 60),
  (60, [.aload 0, .iload 1, .iload 2, .invokestatic 65, .istore 4, .iload 2, .tableswitch (137) (0) (2) #[96, 108, 124]], 96),
  (96, [.aload 0, .getfield 503, .iload 1, .iload 3, .invokestatic 52, .goto (147)], 108),
  (108, [.aload 0, .getfield 503, .getfield 400, .getfield 0, .iload 1, .iload 3, .iastore, .goto (147)], 124),
  (124, [.aload 0, .getfield 503, .getfield 402, .iload 1, .iload 3, .iastore, .goto (147)], 137),
  (137, [.aload 0, .getfield 503, .getfield 403, .iload 1, .iload 3, .iastore], 147),
  (147, [.iload 4, .ret 0], 150)]
def qP_X5_site : q_P := [(0, [.iload 1, .invokestatic 99, .ifCond .ne (10)], 7),
  (7, [.iconst (-5), .ret 0], 10),
  (10, [.iload 2, .tableswitch (99) (0) (4) #[44, 54, 67, 77, 87]], 44),
  (44, [.aload 0, .getfield 503, .getfield 401, .iload 1, .iaload, .ret 0], 54),
  (54, [.aload 0, .getfield 503, .getfield 400, .getfield 0, .iload 1, .iaload, .ret 0], 67),
  (67, [.aload 0, .getfield 503, .getfield 402, .iload 1, .iaload, .ret 0], 77),
  (77, [.aload 0, .getfield 503, .getfield 403, .iload 1, .iaload, .ret 0], 87),
  (87, [.aload 0, .getfield 503, .getfield 400, .iload 1, .invokestatic 5, .ret 0], 99),
  (99, [.iconst (-7), .ret 0], 102)]
def qP_X5_feed : q_P := [(0, [.iload 1, .iconst (1), .if_icmp .lt (48)], 5),
  (5, [.iload 1, .iconst (5), .if_icmp .gt (48)], 10),
  (10, [.iload 2, .invokestatic 102, .ifCond .eq (48)], 17),
  (17, [.iload 3, .invokestatic 102, .ifCond .eq (48)], 24),
  (24, [.iload 4, .invokestatic 102, .ifCond .eq (48)], 32),
  (32, [.iload 5, .invokestatic 102, .ifCond .eq (48)], 40),
  (40, [.iload 6, .invokestatic 102, .ifCond .ne (51)], 48),
  (48, [.iconst (-2), .ret 0], 51),
  (51, [.iload 1, .iconst (160), .aload 0, .getfield 500, .getfield 101, .isub, .if_icmp .le (69)], 66),
  (66, [.iconst (-4), .ret 0], 69),
  (69, [.aload 0, .getfield 500, .iload 2, .invokestatic 22, .iload 1, .iconst (1), .if_icmp .le (90)], 82),
  (82, [.aload 0, .getfield 500, .iload 3, .invokestatic 22], 90),
  (90, [.iload 1, .iconst (2), .if_icmp .le (104)], 95),
  (95, [.aload 0, .getfield 500, .iload 4, .invokestatic 22], 104),
  (104, [.iload 1, .iconst (3), .if_icmp .le (118)], 109),
  (109, [.aload 0, .getfield 500, .iload 5, .invokestatic 22], 118),
  (118, [.iload 1, .iconst (4), .if_icmp .le (132)], 123),
  (123, [.aload 0, .getfield 500, .iload 6, .invokestatic 22], 132),
  (132, [.aload 0, .getfield 500, .getfield 101, .ret 0], 140)]
def qP_X5_text : q_P := [(0, [.aload 0, .getfield 502, .iconst (6), .if_icmp .lt (12)], 9),
  (9, [.iconst (-4), .ret 0], 12),
  (12, [.aload 0, .getfield 500, .invokestatic 23, .istore 1, .iconst (-100), .iload 1, .isub, .istore 2, .iload 1, .ifCond .ge (64)], 29),
  (29, [.aload 0, .getfield 502, .istore 2, .aload 0, .getfield 501, .aload 0, .getfield 502, .aload 0, .getfield 500, .aload 0, .getfield 502, .invokestatic 24, .aastore, .aload 0, .dup, .getfield 502, .iconst (1), .iadd, .putfield 502], 64),
  (64, [.aload 0, .getfield 500, .invokestatic 21, .iload 2, .ret 0], 73)]
def qP_X5_force : q_P := [(0, [.iload 1, .ifCond .lt (12)], 4),
  (4, [.iload 1, .aload 0, .getfield 502, .if_icmp .lt (15)], 12),
  (12, [.iconst (-2), .ret 0], 15),
  (15, [.aload 0, .getfield 503, .getfield 410, .getfield 300, .istore 2, .aload 0, .getfield 503, .aload 0, .getfield 501, .iload 1, .aaload, .putfield 410, .iload 2, .ret 0], 41)]
def qP_X5_asks : q_P := [(0, [.iload 1, .ifCond .lt (29)], 4),
  (4, [.iload 1, .iconst (3), .if_icmp .ge (29)], 9),
  (9, [.aload 0, .iload 2, .invokestatic 98, .ifCond .eq (29)], 17),
  (17, [.iload 3, .iconst (-1), .if_icmp .eq (33)], 22),
  (22, [.iload 3, .invokestatic 99, .ifCond .ne (33)], 29),
  (29, [.iconst (-1000), .ret 0], 33),
  (33, [.aload 0, .getfield 503, .iload 1, .iload 2, .iload 3, .iconst (-1), .if_icmp .ne (48)], 44),
  (44, [.iconst (5), .goto (49)], 48),
  (48, [.iload 3], 49),
  (49, [.invokestatic 53, .ret 0], 53)]
def qP_X5_stone : q_P := [(0, [.iload 1, .ifCond .lt (10)], 4),
  (4, [.iload 1, .iconst (60), .if_icmp .lt (13)], 10),
  (10, [.iconst (-2), .ret 0], 13),
  (13, [.iload 2, .ifCond .lt (33)], 17),
  (17, [.iload 2, .iconst (100), .if_icmp .ge (33)], 23),
  (23, [.iload 3, .ifCond .lt (33)], 27),
  (27, [.iload 3, .iconst (100), .if_icmp .lt (36)], 33),
  (33, [.iconst (-2), .ret 0], 36),
  (36, [.aload 0, .getfield 503, .iload 1, .iload 2, .iload 3, .invokestatic 50, .ret 0], 47)]
def qP_X5_put : q_P := [(0, [.aload 0, .iload 1, .invokestatic 98, .ifCond .ne (11)], 8),
  (8, [.iconst (-5), .ret 0], 11),
  (11, [.iload 2, .ifCond .lt (30)], 15),
  (15, [.iload 2, .iconst (1), .if_icmp .gt (30)], 20),
  (20, [.iload 3, .ifCond .lt (30)], 24),
  (24, [.iload 3, .iconst (99), .if_icmp .le (33)], 30),
  (30, [.iconst (-7), .ret 0], 33),
  (33, [.iload 2, .ifCond .ne (60)], 37),
  (37, [.aload 0, .getfield 503, .getfield 406, .iload 1, .iaload, .istore 4, .aload 0, .getfield 503, .iload 1, .iload 3, .invokestatic 51, .iload 4, .ret 0], 60),
  (60, [.aload 0, .getfield 503, .getfield 407, .iload 1, .iaload, .istore 4, .aload 0, .getfield 503, .getfield 407, .iload 1, .iload 3, .iastore, .iload 4, .ret 0], 84)]
def qP_X5_told : q_P := [(0, [.aload 0, .iload 1, .invokestatic 98, .ifCond .ne (11)], 8),
  (8, [.iconst (-5), .ret 0], 11),
  (11, [.iload 2, .tableswitch (133) (0) (6) #[56, 66, 76, 92, 102, 112, 124]], 56),
  (56, [.aload 0, .getfield 503, .getfield 406, .iload 1, .iaload, .ret 0], 66),
  (66, [.aload 0, .getfield 503, .getfield 407, .iload 1, .iaload, .ret 0], 76),
  (76, [.aload 0, .getfield 503, .getfield 400, .getfield 1, .iload 1, .iaload, .invokestatic 100, .ret 0], 92),
  (92, [.aload 0, .getfield 503, .getfield 404, .iload 1, .iaload, .ret 0], 102),
  (102, [.aload 0, .getfield 503, .getfield 405, .iload 1, .iaload, .ret 0], 112),
  (112, [.aload 0, .getfield 503, .iload 1, .invokestatic 58, .invokestatic 100, .ret 0], 124),
  (124, [.aload 0, .getfield 503, .iload 1, .invokestatic 56, .ret 0], 133),
  (133, [.iconst (-7), .ret 0], 136)]
def qP_X5_love : q_P := [(0, [.aload 0, .iload 1, .invokestatic 98, .ifCond .eq (15)], 8),
  (8, [.iload 2, .invokestatic 99, .ifCond .ne (19)], 15),
  (15, [.iconst (-5000), .ret 0], 19),
  (19, [.iload 3, .lookupswitch (68) #[(0, 48), (1, 58)]], 48),
  (48, [.aload 0, .getfield 503, .iload 1, .iload 2, .invokestatic 54, .ret 0], 58),
  (58, [.aload 0, .getfield 503, .iload 1, .iload 2, .invokestatic 55, .ret 0], 68),
  (68, [.iconst (-7000), .ret 0], 72)]
def qP_X5_year : q_P := [(0, [.aload 0, .getfield 503, .getfield 409, .iconst (999), .if_icmp .lt (16)], 13),
  (13, [.iconst (-3), .ret 0], 16),
  (16, [.aload 0, .getfield 503, .invokestatic 59, .ret 0], 24)]
def qP_X5_run : q_P := [(0, [.iload 1, .ifCond .lt (10)], 4),
  (4, [.iload 1, .iconst (40), .if_icmp .le (13)], 10),
  (10, [.iconst (-2), .ret 0], 13),
  (13, [.iload 2, .ifCond .eq (22)], 17),
  (17, [.iload 2, .iconst (1), .if_icmp .ne (26)], 22),
  (22, [.iconst (1), .goto (27)], 26),
  (26, [.iconst (0)], 27),
  (27, [.istore 3, .iload 3, .ifCond .ne (46)], 32),
  (32, [.aload 0, .iload 2, .iconst (10), .isub, .invokestatic 98, .ifCond .ne (46)], 43),
  (43, [.iconst (-2), .ret 0], 46),
  (46, [.aload 0, .getfield 504, .aload 0, .getfield 503, .invokestatic 49, .iconst (0), .istore 4], 60),
  (60, [.iload 4, .iload 1, .if_icmp .ge (80)], 66),
  (66, [.aload 0, .getfield 504, .invokestatic 59, .pop, .iinc 4 (1), .goto (60)], 80),
  (80, [.iload 3, .ifCond .eq (112)], 84),
  (84, [.iload 2, .ifCond .ne (101)], 88),
  (88, [.aload 0, .getfield 504, .getfield 400, .invokestatic 6, .goto (111)], 101),
  (101, [.aload 0, .getfield 504, .getfield 400, .invokestatic 3], 111),
  (111, [.ret 0], 112),
  (112, [.aload 0, .getfield 504, .getfield 406, .iload 2, .iconst (10), .isub, .iaload, .ret 0], 125)]
def qP_X5_when : q_P := [(0, [.aload 0, .iload 1, .invokestatic 98, .ifCond .ne (11)], 8),
  (8, [.iconst (-5), .ret 0], 11),
  (11, [.iload 2, .iconst (-1), .if_icmp .eq (26)], 16),
  (16, [.iload 2, .invokestatic 99, .ifCond .ne (26)], 23),
  (23, [.iconst (-7), .ret 0], 26),
  (26, [.aload 0, .getfield 504, .aload 0, .getfield 503, .invokestatic 49, .aload 0, .iload 1, .iload 2, .iconst (60), .invokestatic 106, .ret 0], 46)]
def qP_X5_peace : q_P := [(0, [.iload 1, .ifCond .lt (9)], 4),
  (4, [.iload 1, .iconst (2), .if_icmp .le (12)], 9),
  (9, [.iconst (-100000), .ret 0], 12),
  (12, [.aload 0, .getfield 503, .invokestatic 57, .iload 1, .lookupswitch (70) #[(0, 48), (1, 59)]], 48),
  (48, [.aload 0, .getfield 503, .getfield 400, .invokestatic 17, .ret 0], 59),
  (59, [.aload 0, .getfield 503, .getfield 400, .invokestatic 7, .ret 0], 70),
  (70, [.aload 0, .getfield 503, .getfield 400, .invokestatic 8, .ret 0], 81)]
def qP_X5_court : q_P := [(0, [.iload 1, .ifCond .lt (9)], 4),
  (4, [.iload 1, .iconst (2), .if_icmp .le (12)], 9),
  (9, [.iconst (-100000), .ret 0], 12),
  (12, [.aload 0, .getfield 504, .aload 0, .getfield 503, .invokestatic 49, .aload 0, .getfield 504, .invokestatic 57, .aload 0, .getfield 504, .getfield 400, .invokestatic 15, .iload 1, .lookupswitch (90) #[(0, 68), (1, 79)]], 68),
  (68, [.aload 0, .getfield 504, .getfield 400, .invokestatic 6, .ret 0], 79),
  (79, [.aload 0, .getfield 504, .getfield 400, .invokestatic 7, .ret 0], 90),
  (90, [.aload 0, .getfield 504, .getfield 400, .invokestatic 8, .ret 0], 101)]
def qP_X5_all : q_P := [(0, [.iload 1, .ifCond .lt (9)], 4),
  (4, [.iload 1, .iconst (4), .if_icmp .le (12)], 9),
  (9, [.iconst (-100000), .ret 0], 12),
  (12, [.aload 0, .getfield 504, .aload 0, .getfield 503, .invokestatic 49, .aload 0, .getfield 504, .invokestatic 57, .aload 0, .getfield 504, .getfield 400, .astore 2, .aload 2, .invokestatic 2, .iload 1, .iconst (3), .if_icmp .ge (51)], 47),
  (47, [.iconst (1), .goto (52)], 51),
  (51, [.iconst (0)], 52),
  (52, [.istore 3, .iconst (0), .istore 4, .iconst (-1), .istore 5, .iconst (0), .istore 6, .iconst (1), .istore 7, .iconst (0), .istore 8], 68),
  (68, [.iload 7, .ifCond .eq (142)], 73),
  (73, [.iload 8, .iconst (7776), .if_icmp .ge (142)], 81),
  (81, [.aload 2, .invokestatic 18, .ifCond .eq (130)], 88),
  (88, [.iload 3, .ifCond .eq (99)], 92),
  (92, [.aload 2, .invokestatic 17, .ifCond .ge (130)], 99),
  (99, [.aload 2, .invokestatic 7, .istore 9, .iload 4, .ifCond .eq (117)], 110),
  (110, [.iload 9, .iload 6, .if_icmp .le (127)], 117),
  (117, [.aload 2, .invokestatic 6, .istore 5, .iload 9, .istore 6], 127),
  (127, [.iinc 4 (1)], 130),
  (130, [.aload 2, .invokestatic 19, .istore 7, .iinc 8 (1), .goto (68)], 142),
  (142, [.iload 1, .ifCond .ne (149)], 146),
  (146, [.iload 4, .ret 0], 149),
  (149, [.iload 1, .iconst (1), .if_icmp .eq (159)], 154),
  (154, [.iload 1, .iconst (3), .if_icmp .ne (164)], 159),
  (159, [.iload 5, .goto (166)], 164),
  (164, [.iload 6], 166),
  (166, [.ret 0], 167)]
def qP_X5_annex : q_P := [(0, [.iload 1, .ifCond .lt (9)], 4),
  (4, [.iload 1, .iconst (1), .if_icmp .le (12)], 9),
  (9, [.iconst (-100000), .ret 0], 12),
  (12, [.aload 0, .getfield 504, .aload 0, .getfield 503, .invokestatic 49, .aload 0, .getfield 504, .invokestatic 57, .iconst (-1), .istore 2, .iconst (0), .istore 3, .iconst (0), .istore 4], 37),
  (37, [.iload 4, .iconst (5), .if_icmp .ge (122)], 43),
  (43, [.aload 0, .getfield 504, .getfield 400, .getfield 0, .iload 4, .dup2, .iaload, .iconst (1), .iadd, .iastore, .aload 0, .getfield 504, .getfield 400, .invokestatic 15, .aload 0, .getfield 504, .getfield 400, .getfield 0, .iload 4, .dup2, .iaload, .iconst (1), .isub, .iastore, .aload 0, .getfield 504, .getfield 400, .invokestatic 7, .istore 5, .iload 2, .iconst (-1), .if_icmp .eq (110)], 104),
  (104, [.iload 5, .iload 3, .if_icmp .le (116)], 110),
  (110, [.iload 4, .istore 2, .iload 5, .istore 3], 116),
  (116, [.iinc 4 (1), .goto (37)], 122),
  (122, [.iload 1, .ifCond .ne (130)], 126),
  (126, [.iload 2, .goto (131)], 130),
  (130, [.iload 3], 131),
  (131, [.ret 0], 132)]
def qP_X5_cart : q_P := [(0, [.aload 0, .iload 1, .invokestatic 98, .ifCond .ne (11)], 8),
  (8, [.iconst (-5), .ret 0], 11),
  (11, [.iload 2, .ifCond .lt (20)], 15),
  (15, [.iload 2, .iconst (1), .if_icmp .le (23)], 20),
  (20, [.iconst (-7), .ret 0], 23),
  (23, [.iconst (-1), .istore 3, .iconst (61), .istore 4, .iconst (0), .istore 5], 32),
  (32, [.iload 5, .iconst (100), .if_icmp .ge (90)], 39),
  (39, [.aload 0, .getfield 504, .aload 0, .getfield 503, .invokestatic 49, .aload 0, .getfield 504, .iload 1, .iload 5, .invokestatic 51, .aload 0, .iload 1, .iconst (-1), .iload 4, .iconst (1), .isub, .invokestatic 106, .istore 6, .iload 6, .ifCond .lt (84)], 77),
  (77, [.iload 5, .istore 3, .iload 6, .istore 4], 84),
  (84, [.iinc 5 (1), .goto (32)], 90),
  (90, [.iload 3, .iconst (-1), .if_icmp .ne (97)], 95),
  (95, [.iconst (-1), .ret 0], 97),
  (97, [.iload 2, .ifCond .ne (105)], 101),
  (101, [.iload 3, .goto (107)], 105),
  (105, [.iload 4], 107),
  (107, [.ret 0], 108)]
def qP_X5_share : q_P := [(0, [.iload 1, .ifCond .lt (9)], 4),
  (4, [.iload 1, .iconst (1), .if_icmp .le (13)], 9),
  (9, [.jsr (-4611686018427387904), .lreturn], 13),
  (13, [.iconst (0), .istore 2, .iconst (0), .istore 3, .iconst (0), .istore 4], 20),
  (20, [.iload 4, .aload 0, .getfield 503, .getfield 400, .getfield 5, .if_icmp .ge (88)], 35),
  (35, [.iload 3, .aload 0, .getfield 503, .getfield 407, .iload 4, .iaload, .iadd, .istore 3, .iload 2, .aload 0, .getfield 503, .getfield 400, .getfield 1, .iload 4, .iaload, .iconst (5), .if_icmp .ne (70)], 66),
  (66, [.iconst (0), .goto (80)], 70),
  (70, [.aload 0, .getfield 503, .getfield 407, .iload 4, .iaload], 80),
  (80, [.iadd, .istore 2, .iinc 4 (1), .goto (20)], 88),
  (88, [.iload 2, .iload 3, .iload 1, .invokestatic 108, .lreturn], 95)]
def qP_X5_judge : q_P := [(0, [.aload 0, .iload 1, .invokestatic 104, .istore 3, .iload 3, .ifCond .eq (12)], 10),
  (10, [.iload 3, .ret 0], 12),
  (12, [.aload 0, .iload 2, .invokestatic 98, .ifCond .ne (23)], 20),
  (20, [.iconst (-5), .ret 0], 23),
  (23, [.aload 0, .getfield 504, .aload 0, .getfield 503, .invokestatic 49, .aload 0, .iload 1, .iload 2, .invokestatic 105, .ret 0], 41)]
def qP_X5_kinds : q_P := [(0, [.aload 0, .iload 1, .invokestatic 104, .istore 4, .iload 4, .ifCond .eq (15)], 12),
  (12, [.iload 4, .ret 0], 15),
  (15, [.aload 0, .iload 2, .invokestatic 98, .ifCond .ne (26)], 23),
  (23, [.iconst (-5), .ret 0], 26),
  (26, [.iload 3, .ifCond .lt (35)], 30),
  (30, [.iload 3, .iconst (1), .if_icmp .le (38)], 35),
  (35, [.iconst (-7), .ret 0], 38),
  (38, [.iconst (0), .istore 5, .iload 3, .ifCond .ne (50)], 45),
  (45, [.iconst (6), .goto (52)], 50),
  (50, [.iconst (10)], 52),
  (52, [.istore 6, .iconst (0), .istore 7], 57),
  (57, [.iload 7, .iload 6, .if_icmp .ge (129)], 64),
  (64, [.aload 0, .getfield 504, .aload 0, .getfield 503, .invokestatic 49, .iload 3, .ifCond .ne (93)], 79),
  (79, [.aload 0, .getfield 504, .getfield 404, .iload 2, .iload 7, .iastore, .goto (104)], 93),
  (93, [.aload 0, .getfield 504, .getfield 405, .iload 2, .iload 7, .iastore], 104),
  (104, [.aload 0, .iload 1, .iload 2, .invokestatic 105, .iconst (-1), .if_icmp .ne (123)], 114),
  (114, [.iload 5, .iconst (1), .iload 7, .ishl, .ior, .istore 5], 123),
  (123, [.iinc 7 (1), .goto (57)], 129),
  (129, [.iload 5, .ret 0], 132)]
def qP_X5_states : q_P := [(0, [.aload 0, .iload 1, .invokestatic 104, .istore 5, .iload 5, .ifCond .eq (15)], 12),
  (12, [.iload 5, .ret 0], 15),
  (15, [.aload 0, .iload 2, .invokestatic 98, .ifCond .ne (26)], 23),
  (23, [.iconst (-5), .ret 0], 26),
  (26, [.iload 3, .ifCond .lt (46)], 30),
  (30, [.iload 3, .iconst (1), .if_icmp .gt (46)], 35),
  (35, [.iload 4, .ifCond .lt (46)], 40),
  (40, [.iload 4, .iconst (1), .if_icmp .le (49)], 46),
  (46, [.iconst (-7), .ret 0], 49),
  (49, [.iconst (0), .istore 6, .iconst (-1), .istore 7, .iconst (0), .istore 8], 58),
  (58, [.iload 8, .iconst (99), .if_icmp .gt (139)], 65),
  (65, [.aload 0, .getfield 504, .aload 0, .getfield 503, .invokestatic 49, .iload 3, .ifCond .ne (94)], 80),
  (80, [.aload 0, .getfield 504, .getfield 406, .iload 2, .iload 8, .iastore, .goto (105)], 94),
  (94, [.aload 0, .getfield 504, .getfield 407, .iload 2, .iload 8, .iastore], 105),
  (105, [.aload 0, .iload 1, .iload 2, .invokestatic 105, .iconst (-1), .if_icmp .ne (133)], 115),
  (115, [.iinc 6 (1), .iload 7, .iconst (-1), .if_icmp .ne (129)], 124),
  (124, [.iload 8, .goto (131)], 129),
  (129, [.iload 7], 131),
  (131, [.istore 7], 133),
  (133, [.iinc 8 (1), .goto (58)], 139),
  (139, [.iload 4, .ifCond .ne (149)], 144),
  (144, [.iload 6, .goto (151)], 149),
  (149, [.iload 7], 151),
  (151, [.ret 0], 152)]
def qP_X5_whose : q_P := [(0, [.aload 0, .iload 1, .invokestatic 104, .istore 2, .iload 2, .ifCond .eq (12)], 10),
  (10, [.iload 2, .ret 0], 12),
  (12, [.iconst (0), .istore 3, .iconst (0), .istore 4], 17),
  (17, [.iload 4, .aload 0, .getfield 503, .getfield 400, .getfield 5, .if_icmp .ge (67)], 32),
  (32, [.aload 0, .getfield 504, .aload 0, .getfield 503, .invokestatic 49, .aload 0, .iload 1, .iload 4, .invokestatic 105, .iconst (-1), .if_icmp .ne (61)], 54),
  (54, [.iload 3, .iconst (1), .iload 4, .ishl, .ior, .istore 3], 61),
  (61, [.iinc 4 (1), .goto (17)], 67),
  (67, [.iload 3, .ret 0], 69)]
def qP_X5_laws : q_P := [(0, [.aload 0, .iload 1, .invokestatic 104, .istore 3, .iload 3, .ifCond .eq (12)], 10),
  (10, [.iload 3, .ret 0], 12),
  (12, [.aload 0, .iload 2, .invokestatic 98, .ifCond .ne (23)], 20),
  (20, [.iconst (-5), .ret 0], 23),
  (23, [.iconst (0), .istore 4, .iconst (0), .istore 5], 29),
  (29, [.iload 5, .aload 0, .getfield 502, .if_icmp .ge (88)], 38),
  (38, [.aload 0, .getfield 504, .aload 0, .getfield 503, .invokestatic 49, .aload 0, .getfield 504, .aload 0, .getfield 501, .iload 5, .aaload, .putfield 410, .aload 0, .iload 1, .iload 2, .invokestatic 105, .iconst (-1), .if_icmp .ne (82)], 73),
  (73, [.iload 4, .iconst (1), .iload 5, .ishl, .ior, .istore 4], 82),
  (82, [.iinc 5 (1), .goto (29)], 88),
  (88, [.iload 4, .ret 0], 91)]
def qP_X5_film : q_P := [(0, [.iload 1, .invokestatic 101, .ifCond .ne (10)], 7),
  (7, [.iconst (-2), .ret 0], 10),
  (10, [.aload 0, .iload 2, .invokestatic 98, .ifCond .ne (21)], 18),
  (18, [.iconst (-5), .ret 0], 21),
  (21, [.iload 3, .ifCond .lt (31)], 25),
  (25, [.iload 3, .iconst (20), .if_icmp .le (34)], 31),
  (31, [.iconst (-7), .ret 0], 34),
  (34, [.aload 0, .getfield 504, .aload 0, .getfield 503, .invokestatic 49, .aload 0, .getfield 507, .iload 1, .aaload, .iconst (0), .iload 3, .invokestatic 44, .iconst (0), .istore 4], 59),
  (59, [.iload 4, .iload 3, .if_icmp .ge (99)], 65),
  (65, [.aload 0, .getfield 504, .invokestatic 59, .pop, .aload 0, .getfield 507, .iload 1, .aaload, .iload 4, .aload 0, .getfield 504, .getfield 406, .iload 2, .iaload, .invokestatic 45, .iinc 4 (1), .goto (59)], 99),
  (99, [.iload 3, .ret 0], 101)]
def qP_X5_drawn : q_P := [(0, [.iload 1, .ifCond .lt (19)], 4),
  (4, [.iload 1, .iconst (100000), .if_icmp .ge (19)], 10),
  (10, [.iload 2, .ifCond .lt (19)], 14),
  (14, [.iload 2, .iconst (1), .if_icmp .le (22)], 19),
  (19, [.iconst (-2), .ret 0], 22),
  (22, [.aload 0, .iload 1, .invokestatic 107, .iload 2, .ifCond .ne (44)], 31),
  (31, [.aload 0, .getfield 504, .getfield 400, .invokestatic 6, .goto (54)], 44),
  (44, [.aload 0, .getfield 504, .getfield 400, .invokestatic 3], 54),
  (54, [.ret 0], 55)]
def qP_X5_odds : q_P := [(0, [.iload 1, .ifCond .lt (21)], 4),
  (4, [.iload 1, .iconst (100000), .if_icmp .ge (21)], 10),
  (10, [.iload 2, .iconst (1), .if_icmp .lt (21)], 15),
  (15, [.iload 2, .iconst (40), .if_icmp .le (25)], 21),
  (21, [.jsr (-4611686018427387904), .lreturn], 25),
  (25, [.iload 3, .ifCond .lt (45)], 29),
  (29, [.iload 3, .iconst (5), .if_icmp .gt (45)], 34),
  (34, [.iload 4, .ifCond .lt (45)], 39),
  (39, [.iload 4, .iconst (1), .if_icmp .le (49)], 45),
  (45, [.jsr (-4611686018427387904), .lreturn], 49),
  (49, [.iconst (0), .istore 5, .iconst (0), .istore 6], 55),
  (55, [.iload 6, .iload 2, .if_icmp .ge (92)], 61),
  (61, [.aload 0, .iload 1, .iload 6, .iadd, .invokestatic 107, .aload 0, .getfield 504, .getfield 400, .invokestatic 3, .iload 3, .if_icmp .gt (86)], 83),
  (83, [.iinc 5 (1)], 86),
  (86, [.iinc 6 (1), .goto (55)], 92),
  (92, [.iload 5, .iload 2, .iload 4, .invokestatic 108, .lreturn], 101)]
def qP_X5_image : q_P := [(0, [.aload 0, .getfield 505, .aload 0, .getfield 503, .invokestatic 49, .aload 0, .iconst (1), .putfield 506, .aload 0, .getfield 505, .getfield 400, .getfield 5, .ret 0], 27)]
def qP_X5_back : q_P := [(0, [.aload 0, .getfield 506, .ifCond .ne (10)], 7),
  (7, [.iconst (-3), .ret 0], 10),
  (10, [.aload 0, .getfield 503, .aload 0, .getfield 505, .invokestatic 49, .aload 0, .getfield 503, .getfield 400, .getfield 5, .ret 0], 32)]
def qP_X5_sheet : q_P := [(0, [.iload 1, .invokestatic 101, .ifCond .eq (17)], 7),
  (7, [.iload 2, .iconst (-1), .if_icmp .lt (17)], 12),
  (12, [.iload 2, .iconst (2), .if_icmp .le (20)], 17),
  (17, [.iconst (-2), .ret 0], 20),
  (20, [.iload 2, .iconst (-1), .if_icmp .ne (38)], 25),
  (25, [.aload 0, .getfield 507, .iload 1, .aaload, .iload 2, .iconst (0), .invokestatic 44, .iconst (1), .ret 0], 38),
  (38, [.iload 3, .iconst (40), .if_icmp .le (47)], 44),
  (44, [.iconst (-2), .ret 0], 47),
  (47, [.iload 3, .ifCond .ge (54)], 51),
  (51, [.iconst (-14), .ret 0], 54),
  (54, [.aload 0, .getfield 507, .iload 1, .aaload, .iload 2, .iload 3, .invokestatic 44, .iconst (1), .ret 0], 67)]
def qP_X5_cell : q_P := [(0, [.iload 1, .invokestatic 101, .ifCond .ne (10)], 7),
  (7, [.iconst (-2), .ret 0], 10),
  (10, [.aload 0, .getfield 507, .iload 1, .aaload, .invokestatic 43, .ifCond .eq (25)], 22),
  (22, [.iconst (-11), .ret 0], 25),
  (25, [.iload 2, .ifCond .lt (42)], 29),
  (29, [.iload 2, .aload 0, .getfield 507, .iload 1, .aaload, .getfield 202, .if_icmp .lt (45)], 42),
  (42, [.iconst (-12), .ret 0], 45),
  (45, [.aload 0, .getfield 507, .iload 1, .aaload, .iload 2, .iload 3, .invokestatic 45, .iconst (1), .ret 0], 58)]
def qP_X5_copy : q_P := [(0, [.iload 1, .invokestatic 101, .ifCond .eq (14)], 7),
  (7, [.iload 3, .invokestatic 101, .ifCond .ne (17)], 14),
  (14, [.iconst (-2), .ret 0], 17),
  (17, [.aload 0, .getfield 507, .iload 1, .aaload, .astore 6, .aload 0, .getfield 507, .iload 3, .aaload, .astore 7, .aload 6, .invokestatic 43, .ifCond .ne (49)], 41),
  (41, [.aload 7, .invokestatic 43, .ifCond .eq (52)], 49),
  (49, [.iconst (-11), .ret 0], 52),
  (52, [.aload 6, .getfield 201, .aload 7, .getfield 201, .if_icmp .eq (68)], 65),
  (65, [.iconst (-13), .ret 0], 68),
  (68, [.iload 5, .ifCond .lt (107)], 73),
  (73, [.iload 2, .ifCond .lt (107)], 77),
  (77, [.iload 4, .ifCond .lt (107)], 82),
  (82, [.iload 2, .aload 6, .getfield 202, .iload 5, .isub, .if_icmp .gt (107)], 94),
  (94, [.iload 4, .aload 7, .getfield 202, .iload 5, .isub, .if_icmp .le (110)], 107),
  (107, [.iconst (-12), .ret 0], 110),
  (110, [.aload 6, .getfield 200, .iload 2, .aload 7, .getfield 200, .iload 4, .iload 5, .monitorexit, .iload 5, .ret 0], 131)]
def qP_X5_stonesBy : q_P := [(0, [.iload 1, .invokestatic 101, .ifCond .eq (27)], 7),
  (7, [.iload 2, .ifCond .lt (27)], 11),
  (11, [.iload 2, .iconst (2), .if_icmp .gt (27)], 16),
  (16, [.iload 4, .ifCond .lt (27)], 21),
  (21, [.iload 4, .iconst (5), .if_icmp .le (30)], 27),
  (27, [.iconst (-2), .ret 0], 30),
  (30, [.aload 0, .getfield 507, .iload 1, .aaload, .astore 5, .aload 5, .invokestatic 43, .ifCond .eq (49)], 46),
  (46, [.iconst (-11), .ret 0], 49),
  (49, [.aload 5, .getfield 201, .iload 2, .if_icmp .eq (61)], 58),
  (58, [.iconst (-13), .ret 0], 61),
  (61, [.iload 4, .ifCond .le (73)], 66),
  (66, [.iload 3, .ifCond .ge (73)], 70),
  (70, [.iconst (-12), .ret 0], 73),
  (73, [.iconst (0), .istore 6, .iconst (0), .istore 7], 79),
  (79, [.iload 7, .iload 4, .if_icmp .ge (157)], 86),
  (86, [.iload 3, .aload 5, .getfield 202, .iconst (3), .iload 7, .imul, .isub, .iconst (3), .isub, .if_icmp .le (105)], 102),
  (102, [.iconst (-12), .ret 0], 105),
  (105, [.iload 3, .iconst (3), .iload 7, .imul, .iadd, .istore 8, .aload 0, .aload 5, .getfield 200, .iload 8, .iaload, .aload 5, .getfield 200, .iload 8, .iconst (1), .iadd, .iaload, .aload 5, .getfield 200, .iload 8, .iconst (2), .iadd, .iaload, .invokestatic 70, .ifCond .lt (151)], 148),
  (148, [.iinc 6 (1)], 151),
  (151, [.iinc 7 (1), .goto (79)], 157),
  (157, [.iload 6, .ret 0], 160)]
def qP_X5_taken : q_P := [(0, [.iload 2, .ifCond .lt (10)], 4),
  (4, [.iload 2, .iconst (6), .if_icmp .le (13)], 10),
  (10, [.iconst (-2), .ret 0], 13),
  (13, [.iload 1, .ifCond .lt (23)], 17),
  (17, [.iload 1, .iconst (10), .if_icmp .lt (26)], 23),
  (23, [.iconst (-12), .ret 0], 26),
  (26, [.iload 1, .iconst (5), .if_icmp .lt (54)], 31),
  (31, [.iload 2, .iconst (6), .if_icmp .ne (51)], 37),
  (37, [.aload 0, .getfield 503, .getfield 403, .iload 1, .iconst (5), .isub, .iaload, .goto (53)], 51),
  (51, [.iconst (-13)], 53),
  (53, [.ret 0], 54),
  (54, [.aload 0, .iload 1, .invokestatic 98, .ifCond .ne (65)], 62),
  (62, [.iconst (-11), .ret 0], 65),
  (65, [.iload 2, .iconst (6), .if_icmp .eq (91)], 71),
  (71, [.aload 0, .getfield 503, .getfield 404, .iload 1, .iaload, .iload 2, .invokestatic 103, .ifCond .eq (91)], 87),
  (87, [.iload 1, .goto (93)], 91),
  (91, [.iconst (-13)], 93),
  (93, [.ret 0], 94)]
def qP_X5_isStone : q_P := [(0, [.iload 1, .ifCond .lt (22)], 4),
  (4, [.iload 1, .aload 0, .getfield 503, .getfield 400, .getfield 5, .if_icmp .ge (22)], 18),
  (18, [.iconst (1), .goto (23)], 22),
  (22, [.iconst (0)], 23),
  (23, [.ret 1], 24)]
def qP_X5_isBuilding : q_P := [(0, [.iload 0, .ifCond .lt (13)], 4),
  (4, [.iload 0, .iconst (5), .if_icmp .ge (13)], 9),
  (9, [.iconst (1), .goto (14)], 13),
  (13, [.iconst (0)], 14),
  (14, [.ret 1], 15)]
def qP_X5_orNone : q_P := [(0, [.iload 0, .iconst (5), .if_icmp .ne (9)], 5),
  (5, [.iconst (-1), .goto (10)], 9),
  (9, [.iload 0], 10),
  (10, [.ret 0], 11)]
def qP_X5_isSheet : q_P := [(0, [.iload 0, .ifCond .lt (13)], 4),
  (4, [.iload 0, .iconst (4), .if_icmp .ge (13)], 9),
  (9, [.iconst (1), .goto (14)], 13),
  (13, [.iconst (0)], 14),
  (14, [.ret 1], 15)]
def qP_X5_isByte : q_P := [(0, [.iload 0, .ifCond .lt (15)], 4),
  (4, [.iload 0, .iconst (255), .if_icmp .gt (15)], 11),
  (11, [.iconst (1), .goto (16)], 15),
  (15, [.iconst (0)], 16),
  (16, [.ret 1], 17)]
def qP_X5_isOfKind : q_P := [(0, [.iload 1, .ifCond .eq (9)], 4),
  (4, [.iload 0, .iload 1, .if_icmp .ne (11)], 9),
  (9, [.iconst (1), .ret 1], 11),
  (11, [.iload 1, .iconst (1), .if_icmp .ne (21)], 16),
  (16, [.iload 0, .iconst (3), .if_icmp .eq (31)], 21),
  (21, [.iload 1, .iconst (2), .if_icmp .ne (35)], 26),
  (26, [.iload 0, .iconst (4), .if_icmp .ne (35)], 31),
  (31, [.iconst (1), .goto (36)], 35),
  (35, [.iconst (0)], 36),
  (36, [.ret 1], 37)]
def qP_X5_refusalOfTold : q_P := [(0, [.iload 1, .invokestatic 101, .ifCond .ne (10)], 7),
  (7, [.iconst (-2), .ret 0], 10),
  (10, [.aload 0, .getfield 507, .iload 1, .aaload, .invokestatic 43, .ifCond .eq (25)], 22),
  (22, [.iconst (-11), .ret 0], 25),
  (25, [.aload 0, .getfield 507, .iload 1, .aaload, .getfield 202, .iconst (20), .if_icmp .le (44)], 39),
  (39, [.iconst (-2), .goto (45)], 44),
  (44, [.iconst (0)], 45),
  (45, [.ret 0], 46)]
def qP_X5_firstOtherwise : q_P := [(0, [.aload 0, .getfield 507, .iload 1, .aaload, .astore 3, .iconst (0), .istore 4], 10),
  (10, [.iload 4, .aload 3, .getfield 202, .if_icmp .ge (55)], 19),
  (19, [.aload 0, .getfield 504, .invokestatic 59, .pop, .aload 0, .getfield 504, .getfield 406, .iload 2, .iaload, .aload 3, .getfield 200, .iload 4, .iaload, .if_icmp .eq (49)], 46),
  (46, [.iload 4, .ret 0], 49),
  (49, [.iinc 4 (1), .goto (10)], 55),
  (55, [.iconst (-1), .ret 0], 57)]
def qP_X5_yearsTillIn : q_P := [(0, [.iconst (0), .istore 4], 3),
  (3, [.iload 4, .iload 3, .if_icmp .gt (65)], 9),
  (9, [.iload 4, .ifCond .le (22)], 14),
  (14, [.aload 0, .getfield 504, .invokestatic 59, .pop], 22),
  (22, [.aload 0, .getfield 504, .getfield 400, .getfield 1, .iload 1, .iaload, .istore 5, .iload 2, .iconst (-1), .if_icmp .ne (50)], 41),
  (41, [.iload 5, .iconst (5), .if_icmp .eq (59)], 47),
  (47, [.goto (56)], 50),
  (50, [.iload 5, .iload 2, .if_icmp .ne (59)], 56),
  (56, [.iload 4, .ret 0], 59),
  (59, [.iinc 4 (1), .goto (3)], 65),
  (65, [.iconst (-1), .ret 0], 67)]
def qP_X5_passWeather : q_P := [(0, [.aload 0, .getfield 504, .aload 0, .getfield 503, .invokestatic 49, .iload 1, .i2l, .jsr (1), .ladd, .lstore 2, .iconst (0), .istore 4], 19),
  (19, [.iload 4, .iconst (8), .if_icmp .ge (92)], 26),
  (26, [.lload 2, .jsr (48271), .lmul, .jsr (2147483647), .lrem, .lstore 2, .lload 2, .jsr (5), .lrem, .l2i, .istore 5, .lload 2, .jsr (48271), .lmul, .jsr (2147483647), .lrem, .lstore 2, .aload 0, .iload 5, .invokestatic 98, .ifCond .eq (78)], 63),
  (63, [.aload 0, .getfield 504, .iload 5, .lload 2, .jsr (100), .lrem, .l2i, .invokestatic 51], 78),
  (78, [.aload 0, .getfield 504, .invokestatic 59, .pop, .iinc 4 (1), .goto (19)], 92),
  (92, [.return_], 93)]
def qP_X5_inLowestTerms : q_P := [(0, [.iload 1, .ifCond .ne (8)], 4),
  (4, [.jsr (-4611686018427387904), .lreturn], 8),
  (8, [.iconst (1), .istore 3, .iconst (2), .istore 4], 13),
  (13, [.iload 4, .iload 1, .if_icmp .gt (42)], 19),
  (19, [.iload 0, .iload 4, .irem, .ifCond .ne (36)], 26),
  (26, [.iload 1, .iload 4, .irem, .ifCond .ne (36)], 33),
  (33, [.iload 4, .istore 3], 36),
  (36, [.iinc 4 (1), .goto (13)], 42),
  (42, [.iload 2, .ifCond .ne (50)], 46),
  (46, [.iload 0, .goto (51)], 50),
  (50, [.iload 1], 51),
  (51, [.iload 3, .idiv, .i2l, .lreturn], 55)]
def qP_X6_init : q_P := [(0, [.aload 0, .monitorenter, .aload 0, .iconst (5), .newarray .int, .putfield 601, .aload 0, .iconst (5), .newarray .int, .putfield 602, .aload 0, .iconst (20), .newarray .int, .dup, .iconst (0), .iconst (0), .iastore, .dup, .iconst (1), .iconst (1), .iastore, .dup, .iconst (2), .iconst (0), .iastore, .dup, .iconst (3), .iconst (0), .iastore, .dup, .iconst (4), .iconst (20), .iastore, .dup, .iconst (5), .iconst (1), .iastore, .dup, .iconst (6), .iconst (0), .iastore, .dup, .iconst (7), .iconst (0), .iastore, .dup, .iconst (8), .iconst (40), .iastore, .dup], 65),
  (65, [.iconst (9), .iconst (1), .iastore, .dup, .iconst (10), .iconst (0), .iastore, .dup, .iconst (11), .iconst (0), .iastore, .dup, .iconst (12), .iconst (60), .iastore, .dup, .iconst (13), .iconst (1), .iastore, .dup, .iconst (14), .iconst (0), .iastore, .dup, .iconst (15), .iconst (0), .iastore, .dup, .iconst (16), .iconst (80), .iastore, .dup, .iconst (17), .iconst (1), .iastore, .dup, .iconst (18), .iconst (0), .iastore, .dup, .iconst (19), .iconst (0), .iastore, .putfield 603, .aload 0, .iconst (15), .newarray .int, .putfield 604, .aload 0, .iconst (160)], 136),
  (136, [.newarray .int, .putfield 606, .aload 0, .iconst (1200), .newarray .int, .putfield 608, .aload 0, .iconst (24), .newarray .int, .putfield 609, .aload 0, .iconst (35), .newarray .int, .putfield 613, .aload 0, .iconst (3), .newarray .int, .putfield 614, .aload 0, .iconst (4), .newarray .int, .dup, .iconst (0), .iconst (-1), .iastore, .dup, .iconst (1), .iconst (-1), .iastore, .dup, .iconst (2), .iconst (-1), .iastore, .dup, .iconst (3), .iconst (-1), .iastore, .putfield 615, .aload 0, .iconst (4), .newarray .int, .putfield 616, .aload 0, .iconst (160), .newarray .int, .putfield 617, .aload 0, .iconst (40), .newarray .int, .dup], 218),
  (218, [.iconst (0), .iconst (108), .iastore, .dup, .iconst (1), .iconst (105), .iastore, .dup, .iconst (2), .iconst (107), .iastore, .dup, .iconst (3), .iconst (101), .iastore, .dup, .iconst (4), .iconst (115), .iastore, .dup, .iconst (5), .iconst (32), .iastore, .dup, .iconst (6), .iconst (57), .iastore, .dup, .iconst (7), .iconst (57), .iastore, .dup, .iconst (8), .iconst (32), .iastore, .dup, .iconst (9), .iconst (45), .iastore, .dup, .iconst (10), .iconst (32), .iastore, .dup, .iconst (11), .iconst (102), .iastore, .dup, .iconst (12), .iconst (97)], 288),
  (288, [.iastore, .dup, .iconst (13), .iconst (114), .iastore, .dup, .iconst (14), .iconst (32), .iastore, .dup, .iconst (15), .iconst (59), .iastore, .dup, .iconst (16), .iconst (32), .iastore, .dup, .iconst (17), .iconst (119), .iastore, .dup, .iconst (18), .iconst (97), .iastore, .dup, .iconst (19), .iconst (110), .iastore, .dup, .iconst (20), .iconst (116), .iastore, .dup, .iconst (21), .iconst (115), .iastore, .dup, .iconst (22), .iconst (32), .iastore, .dup, .iconst (23), .iconst (119), .iastore, .dup, .iconst (24), .iconst (101), .iastore, .dup], 362),
  (362, [.iconst (25), .iconst (105), .iastore, .dup, .iconst (26), .iconst (103), .iastore, .dup, .iconst (27), .iconst (104), .iastore, .dup, .iconst (28), .iconst (116), .iastore, .dup, .iconst (29), .iconst (32), .iastore, .dup, .iconst (30), .iconst (59), .iastore, .dup, .iconst (31), .iconst (32), .iastore, .dup, .iconst (32), .iconst (103), .iastore, .dup, .iconst (33), .iconst (111), .iastore, .dup, .iconst (34), .iconst (101), .iastore, .dup, .iconst (35), .iconst (115), .iastore, .dup, .iconst (36), .iconst (32), .iastore, .dup, .iconst (37), .iconst (57)], 438),
  (438, [.iastore, .dup, .iconst (38), .iconst (32), .iastore, .dup, .iconst (39), .iconst (59), .iastore, .putfield 618, .aload 0, .iconst (96), .newarray .int, .dup, .iconst (0), .iconst (108), .iastore, .dup, .iconst (1), .iconst (105), .iastore, .dup, .iconst (2), .iconst (107), .iastore, .dup, .iconst (3), .iconst (101), .iastore, .dup, .iconst (4), .iconst (115), .iastore, .dup, .iconst (5), .iconst (32), .iastore, .dup, .iconst (6), .iconst (32), .iastore, .dup, .iconst (7), .iconst (32), .iastore, .dup, .iconst (8), .iconst (119), .iastore, .dup], 508),
  (508, [.iconst (9), .iconst (97), .iastore, .dup, .iconst (10), .iconst (110), .iastore, .dup, .iconst (11), .iconst (116), .iastore, .dup, .iconst (12), .iconst (115), .iastore, .dup, .iconst (13), .iconst (32), .iastore, .dup, .iconst (14), .iconst (32), .iastore, .dup, .iconst (15), .iconst (32), .iastore, .dup, .iconst (16), .iconst (103), .iastore, .dup, .iconst (17), .iconst (111), .iastore, .dup, .iconst (18), .iconst (101), .iastore, .dup, .iconst (19), .iconst (115), .iastore, .dup, .iconst (20), .iconst (32), .iastore, .dup, .iconst (21), .iconst (32)], 584),
  (584, [.iastore, .dup, .iconst (22), .iconst (32), .iastore, .dup, .iconst (23), .iconst (32), .iastore, .dup, .iconst (24), .iconst (102), .iastore, .dup, .iconst (25), .iconst (97), .iastore, .dup, .iconst (26), .iconst (114), .iastore, .dup, .iconst (27), .iconst (32), .iastore, .dup, .iconst (28), .iconst (32), .iastore, .dup, .iconst (29), .iconst (32), .iastore, .dup, .iconst (30), .iconst (32), .iastore, .dup, .iconst (31), .iconst (32), .iastore, .dup, .iconst (32), .iconst (118), .iastore, .dup, .iconst (33), .iconst (97), .iastore, .dup], 658),
  (658, [.iconst (34), .iconst (105), .iastore, .dup, .iconst (35), .iconst (110), .iastore, .dup, .iconst (36), .iconst (32), .iastore, .dup, .iconst (37), .iconst (32), .iastore, .dup, .iconst (38), .iconst (32), .iastore, .dup, .iconst (39), .iconst (32), .iastore, .dup, .iconst (40), .iconst (98), .iastore, .dup, .iconst (41), .iconst (117), .iastore, .dup, .iconst (42), .iconst (105), .iastore, .dup, .iconst (43), .iconst (108), .iastore, .dup, .iconst (44), .iconst (116), .iastore, .dup, .iconst (45), .iconst (32), .iastore, .dup, .iconst (46), .iconst (32)], 734),
  (734, [.iastore, .dup, .iconst (47), .iconst (32), .iastore, .dup, .iconst (48), .iconst (119), .iastore, .dup, .iconst (49), .iconst (101), .iastore, .dup, .iconst (50), .iconst (105), .iastore, .dup, .iconst (51), .iconst (103), .iastore, .dup, .iconst (52), .iconst (104), .iastore, .dup, .iconst (53), .iconst (116), .iastore, .dup, .iconst (54), .iconst (32), .iastore, .dup, .iconst (55), .iconst (32), .iastore, .dup, .iconst (56), .iconst (121), .iastore, .dup, .iconst (57), .iconst (101), .iastore, .dup, .iconst (58), .iconst (97), .iastore, .dup], 808),
  (808, [.iconst (59), .iconst (114), .iastore, .dup, .iconst (60), .iconst (32), .iastore, .dup, .iconst (61), .iconst (32), .iastore, .dup, .iconst (62), .iconst (32), .iastore, .dup, .iconst (63), .iconst (32), .iastore, .dup, .iconst (64), .iconst (109), .iastore, .dup, .iconst (65), .iconst (111), .iastore, .dup, .iconst (66), .iconst (114), .iastore, .dup, .iconst (67), .iconst (101), .iastore, .dup, .iconst (68), .iconst (32), .iastore, .dup, .iconst (69), .iconst (32), .iastore, .dup, .iconst (70), .iconst (32), .iastore, .dup, .iconst (71), .iconst (32)], 884),
  (884, [.iastore, .dup, .iconst (72), .iconst (111), .iastore, .dup, .iconst (73), .iconst (114), .iastore, .dup, .iconst (74), .iconst (32), .iastore, .dup, .iconst (75), .iconst (32), .iastore, .dup, .iconst (76), .iconst (32), .iastore, .dup, .iconst (77), .iconst (32), .iastore, .dup, .iconst (78), .iconst (32), .iastore, .dup, .iconst (79), .iconst (32), .iastore, .dup, .iconst (80), .iconst (97), .iastore, .dup, .iconst (81), .iconst (110), .iastore, .dup, .iconst (82), .iconst (100), .iastore, .dup, .iconst (83), .iconst (32), .iastore, .dup], 958),
  (958, [.iconst (84), .iconst (32), .iastore, .dup, .iconst (85), .iconst (32), .iastore, .dup, .iconst (86), .iconst (32), .iastore, .dup, .iconst (87), .iconst (32), .iastore, .dup, .iconst (88), .iconst (110), .iastore, .dup, .iconst (89), .iconst (111), .iastore, .dup, .iconst (90), .iconst (116), .iastore, .dup, .iconst (91), .iconst (32), .iastore, .dup, .iconst (92), .iconst (32), .iastore, .dup, .iconst (93), .iconst (32), .iastore, .dup, .iconst (94), .iconst (32), .iastore, .dup, .iconst (95), .iconst (32), .iastore, .putfield 623, .aload 0, .iconst (200)], 1036),
  (1036, [.newarray .int, .putfield 624, .aload 0, .iconst (200), .newarray .int, .putfield 628, .aload 0, .iconst (6), .newarray .int, .putfield 629, .aload 0, .iconst (36), .newarray .int, .putfield 630, .aload 0, .iconst (25), .newarray .int, .putfield 631, .aload 0, .iconst (25), .newarray .int, .putfield 632, .aload 0, .iconst (5), .newarray .int, .putfield 633, .aload 0, .iconst (5), .newarray .int, .putfield 634, .aload 0, .iconst (5), .newarray .int, .putfield 635, .iconst (0), .istore 1], 1105),
  (1105, [.iload 1, .iconst (40), .if_icmp .ge (1129)], 1111),
  (1111, [.aload 0, .getfield 606, .iload 1, .aload 0, .getfield 618, .iload 1, .iaload, .iastore, .iinc 1 (1), .goto (1105)], 1129),
  (1129, [.aload 0, .iconst (40), .putfield 607, .aload 0, .invokestatic 133, .pop, .return_], 1141)]
def qP_X6_in : q_P := [(0, [.iload 0, .iload 1, .if_icmp .lt (14)], 5),
  (5, [.iload 0, .iload 2, .if_icmp .gt (14)], 10),
  (10, [.iconst (1), .goto (15)], 14),
  (14, [.iconst (0)], 15),
  (15, [.ret 1], 16)]
def qP_X6_within : q_P := [(0, [.iload 0, .iload 1, .if_icmp .ge (9)], 5),
  (5, [.iload 1, .goto (19)], 9),
  (9, [.iload 0, .iload 2, .if_icmp .le (18)], 14),
  (14, [.iload 2, .goto (19)], 18),
  (18, [.iload 0], 19),
  (19, [.ret 0], 20)]
def qP_X6_isStone : q_P := [(0, [.iload 1, .iconst (0), .aload 0, .getfield 600, .iconst (1), .isub, .invokestatic 110, .ret 1], 12)]
def qP_X6_isSite : q_P := [(0, [.iload 0, .iconst (0), .iconst (4), .invokestatic 110, .ret 1], 7)]
def qP_X6_outside : q_P := [(0, [.iconst (0), .istore 1, .iconst (0), .istore 2], 4),
  (4, [.iload 2, .aload 0, .getfield 600, .if_icmp .ge (40)], 12),
  (12, [.iload 1, .aload 0, .getfield 604, .iconst (3), .iload 2, .imul, .iconst (2), .iadd, .iaload, .iconst (-1), .if_icmp .ne (31)], 27),
  (27, [.iconst (1), .goto (32)], 31),
  (31, [.iconst (0)], 32),
  (32, [.iadd, .istore 1, .iinc 2 (1), .goto (4)], 40),
  (40, [.iload 1, .ret 0], 42)]
def qP_X6_whoIn : q_P := [(0, [.iconst (0), .istore 2, .iconst (0), .istore 3], 4),
  (4, [.iload 3, .aload 0, .getfield 600, .if_icmp .ge (42)], 12),
  (12, [.iload 2, .aload 0, .getfield 604, .iconst (3), .iload 3, .imul, .iconst (2), .iadd, .iaload, .iload 1, .if_icmp .ne (33)], 27),
  (27, [.iconst (1), .iload 3, .ishl, .goto (34)], 33),
  (33, [.iconst (0)], 34),
  (34, [.ior, .istore 2, .iinc 3 (1), .goto (4)], 42),
  (42, [.iload 2, .ret 0], 44)]
def qP_X6_onesOf : q_P := [(0, [.iconst (0), .istore 1, .iconst (0), .istore 2], 4),
  (4, [.iload 2, .iconst (5), .if_icmp .ge (23)], 9),
  (9, [.iload 1, .iload 0, .iload 2, .ishr, .iconst (1), .iand, .iadd, .istore 1, .iinc 2 (1), .goto (4)], 23),
  (23, [.iload 1, .ret 0], 25)]
def qP_X6_count : q_P := [(0, [.iload 1, .tableswitch (70) (0) (5) #[40, 45, 50, 55, 60, 65]], 40),
  (40, [.aload 0, .getfield 600, .ret 0], 45),
  (45, [.aload 0, .getfield 605, .ret 0], 50),
  (50, [.aload 0, .invokestatic 114, .ret 0], 55),
  (55, [.aload 0, .getfield 610, .ret 0], 60),
  (60, [.aload 0, .getfield 611, .ret 0], 65),
  (65, [.aload 0, .getfield 607, .ret 0], 70),
  (70, [.iconst (-2), .ret 0], 73)]
def qP_X6_dawn : q_P := [(0, [.iload 1, .iconst (0), .iconst (999), .invokestatic 110, .ifCond .ne (14)], 11),
  (11, [.iconst (-2), .ret 0], 14),
  (14, [.aload 0, .getfield 605, .istore 2, .aload 0, .iload 1, .putfield 605, .iload 2, .ret 0], 26)]
def qP_X6_build : q_P := [(0, [.iload 1, .invokestatic 113, .ifCond .ne (10)], 7),
  (7, [.iconst (-5), .ret 0], 10),
  (10, [.iload 2, .iconst (1), .if_icmp .ne (26)], 15),
  (15, [.aload 0, .iload 1, .invokestatic 115, .invokestatic 116, .goto (27)], 26),
  (26, [.iconst (0)], 27),
  (27, [.istore 4, .iload 2, .iconst (0), .iconst (3), .invokestatic 110, .ifCond .eq (58)], 38),
  (38, [.iload 3, .iload 4, .iload 2, .iconst (1), .if_icmp .ne (50)], 46),
  (46, [.iconst (5), .goto (52)], 50),
  (50, [.iconst (99)], 52),
  (52, [.invokestatic 110, .ifCond .ne (61)], 58),
  (58, [.iconst (-7), .ret 0], 61),
  (61, [.aload 0, .getfield 603, .iconst (4), .iload 1, .imul, .iload 2, .iadd, .iaload, .istore 5, .aload 0, .getfield 603, .iconst (4), .iload 1, .imul, .iload 2, .iadd, .iload 3, .iastore, .iconst (0), .istore 6], 87),
  (87, [.iload 6, .aload 0, .getfield 600, .if_icmp .ge (131)], 96),
  (96, [.iload 2, .ifCond .ne (131)], 100),
  (100, [.aload 0, .getfield 604, .iconst (3), .iload 6, .imul, .iconst (2), .iadd, .iaload, .iload 1, .if_icmp .ne (125)], 115),
  (115, [.aload 0, .getfield 604, .iconst (3), .iload 6, .imul, .iload 3, .iastore], 125),
  (125, [.iinc 6 (1), .goto (87)], 131),
  (131, [.iload 5, .ret 0], 134)]
def qP_X6_site : q_P := [(0, [.iload 1, .invokestatic 113, .ifCond .ne (10)], 7),
  (7, [.iconst (-5), .ret 0], 10),
  (10, [.iload 2, .iconst (4), .if_icmp .ne (23)], 15),
  (15, [.aload 0, .iload 1, .invokestatic 115, .goto (47)], 23),
  (23, [.iload 2, .iconst (0), .iconst (3), .invokestatic 110, .ifCond .eq (45)], 32),
  (32, [.aload 0, .getfield 603, .iconst (4), .iload 1, .imul, .iload 2, .iadd, .iaload, .goto (47)], 45),
  (45, [.iconst (-7)], 47),
  (47, [.ret 0], 48)]
def qP_X6_isByte : q_P := [(0, [.iload 0, .iconst (0), .iconst (255), .invokestatic 110, .ret 1], 9)]
def qP_X6_feed : q_P := [(0, [.iload 1, .iconst (1), .iconst (5), .invokestatic 110, .ifCond .eq (47)], 9),
  (9, [.iload 2, .invokestatic 121, .ifCond .eq (47)], 16),
  (16, [.iload 3, .invokestatic 121, .ifCond .eq (47)], 23),
  (23, [.iload 4, .invokestatic 121, .ifCond .eq (47)], 31),
  (31, [.iload 5, .invokestatic 121, .ifCond .eq (47)], 39),
  (39, [.iload 6, .invokestatic 121, .ifCond .ne (50)], 47),
  (47, [.iconst (-2), .ret 0], 50),
  (50, [.aload 0, .getfield 607, .iload 1, .iadd, .iconst (160), .if_icmp .le (65)], 62),
  (62, [.iconst (-4), .ret 0], 65),
  (65, [.iconst (0), .istore 7], 68),
  (68, [.iload 7, .iload 1, .if_icmp .ge (142)], 74),
  (74, [.aload 0, .getfield 606, .aload 0, .getfield 607, .iload 7, .ifCond .ne (91)], 87),
  (87, [.iload 2, .goto (125)], 91),
  (91, [.iload 7, .iconst (1), .if_icmp .ne (101)], 97),
  (97, [.iload 3, .goto (125)], 101),
  (101, [.iload 7, .iconst (2), .if_icmp .ne (112)], 107),
  (107, [.iload 4, .goto (125)], 112),
  (112, [.iload 7, .iconst (3), .if_icmp .ne (123)], 118),
  (118, [.iload 5, .goto (125)], 123),
  (123, [.iload 6], 125),
  (125, [.iastore, .aload 0, .dup, .getfield 607, .iconst (1), .iadd, .putfield 607, .iinc 7 (1), .goto (68)], 142),
  (142, [.aload 0, .getfield 607, .ret 0], 147)]
def qP_X6_wordFrom : q_P := [(0, [.iconst (0), .istore 3], 2),
  (2, [.iload 3, .iconst (12), .if_icmp .ge (101)], 8),
  (8, [.iload 2, .iload 1, .isub, .iconst (8), .if_icmp .gt (20)], 16),
  (16, [.iconst (1), .goto (21)], 20),
  (20, [.iconst (0)], 21),
  (21, [.istore 4, .iconst (0), .istore 5], 26),
  (26, [.iload 5, .iconst (8), .if_icmp .ge (88)], 33),
  (33, [.iload 4, .ifCond .eq (88)], 38),
  (38, [.aload 0, .getfield 623, .iconst (8), .iload 3, .imul, .iload 5, .iadd, .iaload, .iload 1, .iload 5, .iadd, .iload 2, .if_icmp .ge (70)], 58),
  (58, [.aload 0, .getfield 606, .iload 1, .iload 5, .iadd, .iaload, .goto (72)], 70),
  (70, [.iconst (32)], 72),
  (72, [.if_icmp .ne (79)], 75),
  (75, [.iconst (1), .goto (80)], 79),
  (79, [.iconst (0)], 80),
  (80, [.istore 4, .iinc 5 (1), .goto (26)], 88),
  (88, [.iload 4, .ifCond .eq (95)], 93),
  (93, [.iload 3, .ret 0], 95),
  (95, [.iinc 3 (1), .goto (2)], 101),
  (101, [.iconst (12), .ret 0], 104)]
def qP_X6_next : q_P := [(0, [.aload 0, .getfield 619, .aload 0, .getfield 607, .if_icmp .ge (52)], 11),
  (11, [.aload 0, .getfield 606, .aload 0, .getfield 619, .iaload, .iconst (32), .if_icmp .eq (39)], 25),
  (25, [.aload 0, .getfield 606, .aload 0, .getfield 619, .iaload, .iconst (10), .if_icmp .ne (52)], 39),
  (39, [.aload 0, .dup, .getfield 619, .iconst (1), .iadd, .putfield 619, .goto (0)], 52),
  (52, [.aload 0, .aload 0, .getfield 619, .putfield 620, .aload 0, .iconst (0), .putfield 621, .aload 0, .iconst (0), .putfield 622, .aload 0, .getfield 619, .aload 0, .getfield 607, .if_icmp .ne (82)], 81),
  (81, [.return_], 82),
  (82, [.aload 0, .getfield 606, .aload 0, .getfield 619, .iaload, .istore 1, .iload 1, .iconst (97), .iconst (122), .invokestatic 110, .ifCond .eq (217)], 103),
  (103, [.aload 0, .getfield 619, .aload 0, .getfield 607, .if_icmp .ge (146)], 114),
  (114, [.aload 0, .getfield 606, .aload 0, .getfield 619, .iaload, .iconst (97), .iconst (122), .invokestatic 110, .ifCond .eq (146)], 133),
  (133, [.aload 0, .dup, .getfield 619, .iconst (1), .iadd, .putfield 619, .goto (103)], 146),
  (146, [.aload 0, .aload 0, .getfield 620, .aload 0, .getfield 619, .invokestatic 123, .istore 2, .aload 0, .iload 2, .iconst (3), .if_icmp .ge (169)], 165),
  (165, [.iconst (3), .goto (195)], 169),
  (169, [.iload 2, .iconst (9), .if_icmp .ge (179)], 175),
  (175, [.iconst (2), .goto (195)], 179),
  (179, [.iload 2, .iconst (12), .if_icmp .ne (189)], 185),
  (185, [.iconst (-1), .goto (195)], 189),
  (189, [.iconst (4), .iload 2, .iadd, .iconst (9), .isub], 195),
  (195, [.putfield 621, .aload 0, .iload 2, .iconst (3), .if_icmp .ge (208)], 204),
  (204, [.iload 2, .goto (211)], 208),
  (208, [.iload 2, .iconst (3), .isub], 211),
  (211, [.putfield 622, .goto (403)], 217),
  (217, [.iload 1, .iconst (48), .iconst (57), .invokestatic 110, .ifCond .eq (326)], 228),
  (228, [.iconst (0), .istore 2], 230),
  (230, [.aload 0, .getfield 619, .aload 0, .getfield 607, .if_icmp .ge (309)], 241),
  (241, [.aload 0, .getfield 606, .aload 0, .getfield 619, .iaload, .iconst (48), .iconst (57), .invokestatic 110, .ifCond .eq (309)], 260),
  (260, [.aload 0, .iload 2, .iconst (4), .if_icmp .ge (289)], 266),
  (266, [.iconst (10), .aload 0, .getfield 622, .imul, .aload 0, .getfield 606, .aload 0, .getfield 619, .iaload, .iadd, .iconst (48), .isub, .goto (290)], 289),
  (289, [.iconst (0)], 290),
  (290, [.putfield 622, .iinc 2 (1), .aload 0, .dup, .getfield 619, .iconst (1), .iadd, .putfield 619, .goto (230)], 309),
  (309, [.aload 0, .iload 2, .iconst (4), .if_icmp .le (319)], 315),
  (315, [.iconst (-1), .goto (320)], 319),
  (319, [.iconst (1)], 320),
  (320, [.putfield 621, .goto (403)], 326),
  (326, [.iload 1, .iconst (40), .if_icmp .eq (374)], 332),
  (332, [.iload 1, .iconst (41), .if_icmp .eq (374)], 338),
  (338, [.iload 1, .iconst (59), .if_icmp .eq (374)], 344),
  (344, [.iload 1, .iconst (43), .if_icmp .eq (374)], 350),
  (350, [.iload 1, .iconst (45), .if_icmp .eq (374)], 356),
  (356, [.iload 1, .iconst (42), .if_icmp .eq (374)], 362),
  (362, [.iload 1, .iconst (60), .if_icmp .eq (374)], 368),
  (368, [.iload 1, .iconst (61), .if_icmp .ne (378)], 374),
  (374, [.iconst (1), .goto (379)], 378),
  (378, [.iconst (0)], 379),
  (379, [.istore 2, .aload 0, .iload 2, .ifCond .eq (389)], 385),
  (385, [.iload 1, .goto (390)], 389),
  (389, [.iconst (-1)], 390),
  (390, [.putfield 621, .aload 0, .dup, .getfield 619, .iconst (1), .iadd, .putfield 619], 403),
  (403, [.return_], 404)]
def qP_X6_rank : q_P := [(0, [.iload 0, .ifCond .ne (8)], 4),
  (4, [.iconst (0), .goto (71)], 8),
  (8, [.iload 0, .iconst (11), .if_icmp .ne (18)], 14),
  (14, [.iconst (1), .goto (71)], 18),
  (18, [.iload 0, .iconst (12), .if_icmp .ne (28)], 24),
  (24, [.iconst (2), .goto (71)], 28),
  (28, [.iload 0, .iconst (13), .if_icmp .ne (38)], 34),
  (34, [.iconst (3), .goto (71)], 38),
  (38, [.iload 0, .iconst (15), .if_icmp .gt (48)], 44),
  (44, [.iconst (4), .goto (71)], 48),
  (48, [.iload 0, .iconst (17), .if_icmp .gt (58)], 54),
  (54, [.iconst (5), .goto (71)], 58),
  (58, [.iload 0, .iconst (18), .if_icmp .ne (69)], 64),
  (64, [.iconst (6), .goto (71)], 69),
  (69, [.iconst (7)], 71),
  (71, [.ret 0], 72)]
def qP_X6_puts : q_P := [(0, [.aload 0, .getfield 608, .iconst (200), .aload 0, .getfield 610, .imul, .aload 0, .getfield 627, .iadd, .iload 1, .iastore, .aload 0, .dup, .getfield 627, .iconst (1), .iadd, .putfield 627, .return_], 30)]
def qP_X6_unwinds : q_P := [(0, [.aload 0, .getfield 625, .ifCond .le (79)], 7),
  (7, [.aload 0, .getfield 624, .aload 0, .getfield 625, .iconst (1), .isub, .iaload, .invokestatic 125, .iload 1, .if_icmp .lt (79)], 25),
  (25, [.aload 0, .dup, .getfield 625, .iconst (1), .isub, .putfield 625, .aload 0, .getfield 624, .aload 0, .getfield 625, .iaload, .istore 2, .aload 0, .dup, .getfield 626, .iload 2, .iconst (13), .if_icmp .eq (62)], 56),
  (56, [.iload 2, .iconst (19), .if_icmp .ne (66)], 62),
  (62, [.iconst (1), .goto (67)], 66),
  (66, [.iconst (0)], 67),
  (67, [.isub, .putfield 626, .aload 0, .iload 2, .invokestatic 126, .goto (0)], 79),
  (79, [.return_], 80)]
def qP_X6_holds : q_P := [(0, [.aload 0, .getfield 624, .aload 0, .getfield 625, .iload 1, .iastore, .aload 0, .dup, .getfield 625, .iconst (1), .iadd, .putfield 625, .return_], 21)]
def qP_X6_opensOne : q_P := [(0, [.aload 0, .getfield 626, .iconst (5), .if_icmp .ne (10)], 8),
  (8, [.iconst (0), .ret 1], 10),
  (10, [.aload 0, .dup, .getfield 626, .iconst (1), .iadd, .putfield 626, .aload 0, .iload 1, .invokestatic 128, .iconst (1), .ret 1], 27)]
def qP_X6_between : q_P := [(0, [.aload 0, .iload 1, .invokestatic 125, .iconst (4), .if_icmp .ne (13)], 9),
  (9, [.iconst (5), .goto (17)], 13),
  (13, [.iload 1, .invokestatic 125], 17),
  (17, [.invokestatic 127, .iload 1, .invokestatic 125, .iconst (4), .if_icmp .ne (55)], 28),
  (28, [.aload 0, .getfield 625, .ifCond .le (55)], 35),
  (35, [.aload 0, .getfield 624, .aload 0, .getfield 625, .iconst (1), .isub, .iaload, .invokestatic 125, .iconst (4), .if_icmp .ne (55)], 53),
  (53, [.iconst (0), .ret 1], 55),
  (55, [.aload 0, .iload 1, .invokestatic 128, .iconst (1), .ret 1], 62)]
def qP_X6_signOf : q_P := [(0, [.aload 0, .getfield 621, .iconst (4), .if_icmp .ne (13)], 8),
  (8, [.iconst (11), .goto (97)], 13),
  (13, [.aload 0, .getfield 621, .iconst (5), .if_icmp .ne (26)], 21),
  (21, [.iconst (12), .goto (97)], 26),
  (26, [.aload 0, .getfield 621, .iconst (60), .if_icmp .ne (40)], 35),
  (35, [.iconst (14), .goto (97)], 40),
  (40, [.aload 0, .getfield 621, .iconst (61), .if_icmp .ne (54)], 49),
  (49, [.iconst (15), .goto (97)], 54),
  (54, [.aload 0, .getfield 621, .iconst (43), .if_icmp .ne (68)], 63),
  (63, [.iconst (16), .goto (97)], 68),
  (68, [.aload 0, .getfield 621, .iconst (45), .if_icmp .ne (82)], 77),
  (77, [.iconst (17), .goto (97)], 82),
  (82, [.aload 0, .getfield 621, .iconst (42), .if_icmp .ne (96)], 91),
  (91, [.iconst (18), .goto (97)], 96),
  (96, [.iconst (-1)], 97),
  (97, [.ret 0], 98)]
def qP_X6_eRead : q_P := [(0, [.aload 0, .iconst (0), .putfield 625, .aload 0, .iconst (0), .putfield 626, .iconst (1), .istore 1, .iconst (1), .istore 2], 14),
  (14, [.aload 0, .invokestatic 124, .iload 1, .ifCond .eq (150)], 22),
  (22, [.aload 0, .getfield 621, .iconst (1), .if_icmp .eq (38)], 30),
  (30, [.aload 0, .getfield 621, .iconst (2), .if_icmp .ne (75)], 38),
  (38, [.aload 0, .aload 0, .getfield 621, .iconst (1), .if_icmp .ne (57)], 47),
  (47, [.iconst (100000), .aload 0, .getfield 622, .iadd, .goto (61)], 57),
  (57, [.aload 0, .getfield 622], 61),
  (61, [.invokestatic 126, .aload 0, .iconst (7), .invokestatic 127, .iconst (0), .istore 1, .goto (14)], 75),
  (75, [.aload 0, .getfield 621, .iconst (6), .if_icmp .ne (99)], 84),
  (84, [.iload 2, .ifCond .eq (99)], 88),
  (88, [.aload 0, .iconst (13), .invokestatic 129, .ifCond .ne (14)], 97),
  (97, [.iconst (0), .ret 1], 99),
  (99, [.aload 0, .getfield 621, .iconst (45), .if_icmp .ne (124)], 108),
  (108, [.aload 0, .iconst (19), .invokestatic 129, .ifCond .ne (119)], 117),
  (117, [.iconst (0), .ret 1], 119),
  (119, [.iconst (0), .istore 2, .goto (14)], 124),
  (124, [.aload 0, .getfield 621, .iconst (40), .if_icmp .ne (148)], 133),
  (133, [.aload 0, .iconst (0), .invokestatic 129, .ifCond .ne (143)], 141),
  (141, [.iconst (0), .ret 1], 143),
  (143, [.iconst (1), .istore 2, .goto (14)], 148),
  (148, [.iconst (0), .ret 1], 150),
  (150, [.aload 0, .getfield 621, .iconst (59), .if_icmp .ne (177)], 159),
  (159, [.aload 0, .iconst (1), .invokestatic 127, .aload 0, .getfield 625, .ifCond .ne (175)], 171),
  (171, [.iconst (1), .goto (176)], 175),
  (175, [.iconst (0)], 176),
  (176, [.ret 1], 177),
  (177, [.aload 0, .getfield 621, .iconst (41), .if_icmp .ne (229)], 186),
  (186, [.aload 0, .iconst (1), .invokestatic 127, .aload 0, .getfield 625, .ifCond .ne (200)], 198),
  (198, [.iconst (0), .ret 1], 200),
  (200, [.aload 0, .dup, .getfield 625, .iconst (1), .isub, .putfield 625, .aload 0, .dup, .getfield 626, .iconst (1), .isub, .putfield 626, .aload 0, .iconst (7), .invokestatic 127, .goto (14)], 229),
  (229, [.aload 0, .invokestatic 131, .istore 3, .iload 3, .iconst (-1), .if_icmp .eq (247)], 239),
  (239, [.aload 0, .iload 3, .invokestatic 130, .ifCond .ne (249)], 247),
  (247, [.iconst (0), .ret 1], 249),
  (249, [.iconst (1), .istore 1, .iload 3, .iconst (12), .if_icmp .gt (261)], 257),
  (257, [.iconst (1), .goto (262)], 261),
  (261, [.iconst (0)], 262),
  (262, [.istore 2, .goto (14)], 266)]
def qP_X6_text : q_P := [(0, [.aload 0, .getfield 610, .iconst (6), .if_icmp .ne (12)], 9),
  (9, [.iconst (-4), .ret 0], 12),
  (12, [.aload 0, .iconst (0), .putfield 619, .aload 0, .iconst (0), .putfield 627, .iconst (1), .istore 1, .iconst (0), .istore 2], 26),
  (26, [.iload 2, .iconst (3), .if_icmp .ge (101)], 31),
  (31, [.iload 1, .ifCond .eq (101)], 35),
  (35, [.aload 0, .invokestatic 124, .aload 0, .getfield 621, .iconst (3), .if_icmp .ne (59)], 47),
  (47, [.aload 0, .getfield 622, .iload 2, .if_icmp .ne (59)], 55),
  (55, [.iconst (1), .goto (60)], 59),
  (59, [.iconst (0)], 60),
  (60, [.istore 1, .aload 0, .getfield 609, .iconst (4), .aload 0, .getfield 610, .imul, .iload 2, .iadd, .aload 0, .getfield 627, .iastore, .iload 1, .ifCond .eq (93)], 82),
  (82, [.aload 0, .invokestatic 132, .ifCond .eq (93)], 89),
  (89, [.iconst (1), .goto (94)], 93),
  (93, [.iconst (0)], 94),
  (94, [.istore 1, .iinc 2 (1), .goto (26)], 101),
  (101, [.iload 1, .ifCond .eq (122)], 105),
  (105, [.aload 0, .invokestatic 124, .aload 0, .getfield 621, .ifCond .ne (120)], 116),
  (116, [.iconst (1), .goto (121)], 120),
  (120, [.iconst (0)], 121),
  (121, [.istore 1], 122),
  (122, [.aload 0, .getfield 609, .iconst (4), .aload 0, .getfield 610, .imul, .iconst (3), .iadd, .aload 0, .getfield 627, .iastore, .aload 0, .iconst (0), .putfield 607, .iload 1, .ifCond .ne (156)], 148),
  (148, [.iconst (-100), .aload 0, .getfield 620, .isub, .ret 0], 156),
  (156, [.aload 0, .dup, .getfield 610, .iconst (1), .iadd, .putfield 610, .aload 0, .getfield 610, .iconst (1), .isub, .ret 0], 173)]
def qP_X6_two : q_P := [(0, [.iload 0, .tableswitch (102) (11) (17) #[44, 58, 102, 72, 83, 94, 98]], 44),
  (44, [.iload 1, .ifCond .ne (52)], 48),
  (48, [.iload 2, .ifCond .eq (56)], 52),
  (52, [.iconst (1), .goto (57)], 56),
  (56, [.iconst (0)], 57),
  (57, [.ret 0], 58),
  (58, [.iload 1, .ifCond .eq (70)], 62),
  (62, [.iload 2, .ifCond .eq (70)], 66),
  (66, [.iconst (1), .goto (71)], 70),
  (70, [.iconst (0)], 71),
  (71, [.ret 0], 72),
  (72, [.iload 1, .iload 2, .if_icmp .ge (81)], 77),
  (77, [.iconst (1), .goto (82)], 81),
  (81, [.iconst (0)], 82),
  (82, [.ret 0], 83),
  (83, [.iload 1, .iload 2, .if_icmp .ne (92)], 88),
  (88, [.iconst (1), .goto (93)], 92),
  (92, [.iconst (0)], 93),
  (93, [.ret 0], 94),
  (94, [.iload 1, .iload 2, .iadd, .ret 0], 98),
  (98, [.iload 1, .iload 2, .isub, .ret 0], 102),
  (102, [.iload 1, .iload 2, .imul, .ret 0], 106)]
def qP_X6_says : q_P := [(0, [.iconst (0), .istore 2, .aload 0, .getfield 609, .iconst (4), .aload 0, .getfield 611, .imul, .iload 1, .iadd, .iaload, .istore 3], 16),
  (16, [.iload 3, .aload 0, .getfield 609, .iconst (4), .aload 0, .getfield 611, .imul, .iload 1, .iadd, .iconst (1), .iadd, .iaload, .if_icmp .ge (197)], 35),
  (35, [.aload 0, .getfield 608, .iconst (200), .aload 0, .getfield 611, .imul, .iload 3, .iadd, .iaload, .istore 4, .iload 4, .iconst (100000), .if_icmp .ge (66)], 59),
  (59, [.iload 4, .iconst (11), .if_icmp .ge (100)], 66),
  (66, [.aload 0, .getfield 628, .iload 2, .iload 4, .iconst (11), .if_icmp .ge (88)], 78),
  (78, [.aload 0, .getfield 629, .iload 4, .iaload, .goto (93)], 88),
  (88, [.iload 4, .iconst (100000), .isub], 93),
  (93, [.iastore, .iinc 2 (1), .goto (191)], 100),
  (100, [.iload 4, .iconst (13), .if_icmp .ne (134)], 107),
  (107, [.aload 0, .getfield 628, .iload 2, .iconst (1), .isub, .aload 0, .getfield 628, .iload 2, .iconst (1), .isub, .iaload, .ifCond .ne (129)], 125),
  (125, [.iconst (1), .goto (130)], 129),
  (129, [.iconst (0)], 130),
  (130, [.iastore, .goto (191)], 134),
  (134, [.iload 4, .iconst (19), .if_icmp .ne (161)], 141),
  (141, [.aload 0, .getfield 628, .iload 2, .iconst (1), .isub, .aload 0, .getfield 628, .iload 2, .iconst (1), .isub, .iaload, .ineg, .iastore, .goto (191)], 161),
  (161, [.iinc 2 (-1), .aload 0, .getfield 628, .iload 2, .iconst (1), .isub, .iload 4, .aload 0, .getfield 628, .iload 2, .iconst (1), .isub, .iaload, .aload 0, .getfield 628, .iload 2, .iaload, .invokestatic 134, .iastore], 191),
  (191, [.iinc 3 (1), .goto (16)], 197),
  (197, [.aload 0, .getfield 628, .iconst (0), .iaload, .ret 0], 204)]
def qP_X6_force : q_P := [(0, [.iload 1, .iconst (0), .aload 0, .getfield 610, .iconst (1), .isub, .invokestatic 110, .ifCond .ne (17)], 14),
  (14, [.iconst (-2), .ret 0], 17),
  (17, [.aload 0, .getfield 611, .istore 2, .aload 0, .iload 1, .putfield 611, .iload 2, .ret 0], 29)]
def qP_X6_asksOf : q_P := [(0, [.aload 0, .getfield 629, .iconst (0), .iconst (0), .iastore, .aload 0, .getfield 629, .iconst (1), .iconst (0), .iastore, .aload 0, .getfield 629, .iconst (2), .iconst (0), .iastore, .iload 3, .iconst (-1), .if_icmp .eq (96)], 26),
  (26, [.aload 0, .getfield 604, .iconst (3), .iload 2, .imul, .iaload, .aload 0, .getfield 603, .iconst (4), .iload 3, .imul, .iaload, .isub, .istore 4, .aload 0, .getfield 629, .iconst (0), .iload 4, .ifCond .ge (61)], 55),
  (55, [.iload 4, .ineg, .goto (63)], 61),
  (61, [.iload 4], 63),
  (63, [.iastore, .aload 0, .getfield 629, .iconst (1), .aload 0, .getfield 603, .iconst (4), .iload 3, .imul, .iconst (2), .iadd, .iaload, .iastore, .aload 0, .getfield 629, .iconst (2), .aload 0, .getfield 603, .iconst (4), .iload 3, .imul, .iconst (3), .iadd, .iaload, .iastore], 96),
  (96, [.aload 0, .getfield 629, .iconst (3), .aload 0, .getfield 604, .iconst (3), .iload 2, .imul, .iconst (1), .iadd, .iaload, .iastore, .aload 0, .getfield 629, .iconst (4), .aload 0, .getfield 605, .iastore, .aload 0, .getfield 629, .iconst (5), .aload 0, .getfield 602, .iload 2, .iaload, .iastore, .aload 0, .iload 1, .invokestatic 135, .iload 1, .iconst (2), .if_icmp .ne (148)], 144),
  (144, [.iconst (0), .goto (150)], 148),
  (148, [.iconst (-99)], 150),
  (150, [.iconst (99), .invokestatic 111, .ret 0], 156)]
def qP_X6_asks : q_P := [(0, [.iload 1, .iconst (0), .iconst (2), .invokestatic 110, .ifCond .eq (36)], 9),
  (9, [.aload 0, .iload 2, .invokestatic 112, .ifCond .eq (36)], 17),
  (17, [.iload 3, .iconst (-1), .iconst (4), .invokestatic 110, .ifCond .eq (36)], 26),
  (26, [.aload 0, .iload 1, .iload 2, .iload 3, .invokestatic 137, .goto (39)], 36),
  (36, [.iconst (-1000)], 39),
  (39, [.ret 0], 40)]
def qP_X6_stone : q_P := [(0, [.iload 1, .iconst (0), .iconst (59), .invokestatic 110, .ifCond .eq (30)], 10),
  (10, [.iload 2, .iconst (0), .iconst (99), .invokestatic 110, .ifCond .eq (30)], 20),
  (20, [.iload 3, .iconst (0), .iconst (99), .invokestatic 110, .ifCond .ne (33)], 30),
  (30, [.iconst (-2), .ret 0], 33),
  (33, [.aload 0, .getfield 600, .iconst (5), .if_icmp .ne (44)], 41),
  (41, [.iconst (-4), .ret 0], 44),
  (44, [.aload 0, .getfield 601, .aload 0, .getfield 600, .iload 1, .iconst (10), .idiv, .iastore, .aload 0, .getfield 602, .aload 0, .getfield 600, .iload 1, .iconst (10), .irem, .iastore, .aload 0, .getfield 604, .iconst (3), .aload 0, .getfield 600, .imul, .iload 2, .iastore, .aload 0, .getfield 604, .iconst (3), .aload 0, .getfield 600, .imul, .iconst (1), .iadd, .iload 3, .iastore, .aload 0, .getfield 604, .iconst (3), .aload 0, .getfield 600, .imul, .iconst (2), .iadd, .iconst (-1), .iastore, .aload 0, .dup, .getfield 600, .iconst (1), .iadd, .putfield 600, .aload 0, .getfield 600, .iconst (1), .isub, .ret 0], 127)]
def qP_X6_put : q_P := [(0, [.aload 0, .iload 1, .invokestatic 112, .ifCond .ne (11)], 8),
  (8, [.iconst (-5), .ret 0], 11),
  (11, [.iload 2, .iconst (0), .iconst (1), .invokestatic 110, .ifCond .eq (30)], 20),
  (20, [.iload 3, .iconst (0), .iconst (99), .invokestatic 110, .ifCond .ne (33)], 30),
  (30, [.iconst (-7), .ret 0], 33),
  (33, [.aload 0, .getfield 604, .iconst (3), .iload 1, .imul, .iload 2, .iadd, .iaload, .istore 4, .aload 0, .getfield 604, .iconst (3), .iload 1, .imul, .iload 2, .iadd, .iload 3, .iastore, .aload 0, .getfield 604, .iconst (3), .iload 1, .imul, .iconst (2), .iadd, .iload 2, .ifCond .ne (73)], 69),
  (69, [.iconst (-1), .goto (83)], 73),
  (73, [.aload 0, .getfield 604, .iconst (3), .iload 1, .imul, .iconst (2), .iadd, .iaload], 83),
  (83, [.iastore, .iload 4, .ret 0], 87)]
def qP_X6_likesOf : q_P := [(0, [.aload 0, .iconst (0), .iload 1, .iload 2, .invokestatic 137, .istore 3, .aload 0, .getfield 601, .iload 1, .iaload, .tableswitch (116) (1) (5) #[48, 116, 48, 69, 91]], 48),
  (48, [.iload 2, .aload 0, .getfield 602, .iload 1, .iaload, .iconst (5), .irem, .if_icmp .ne (65)], 60),
  (60, [.iconst (99), .goto (68)], 65),
  (65, [.iload 3, .iconst (2), .idiv], 68),
  (68, [.ret 0], 69),
  (69, [.aload 0, .getfield 603, .iconst (4), .iload 2, .imul, .iconst (2), .iadd, .iaload, .iconst (50), .if_icmp .le (89)], 84),
  (84, [.iload 3, .ineg, .goto (90)], 89),
  (89, [.iload 3], 90),
  (90, [.ret 0], 91),
  (91, [.aload 0, .getfield 603, .iconst (4), .iload 2, .imul, .iconst (3), .iadd, .iaload, .aload 0, .getfield 602, .iload 1, .iaload, .if_icmp .le (114)], 110),
  (110, [.iconst (-1), .goto (115)], 114),
  (114, [.iload 3], 115),
  (115, [.ret 0], 116),
  (116, [.iload 3, .ret 0], 118)]
def qP_X6_wantedOf : q_P := [(0, [.aload 0, .iconst (1), .iload 1, .iload 2, .invokestatic 137, .istore 3, .aload 0, .getfield 601, .iload 1, .iaload, .tableswitch (80) (2) (4) #[40, 52, 55]], 40),
  (40, [.iload 3, .iconst (10), .aload 0, .getfield 602, .iload 1, .iaload, .imul, .iadd, .ret 0], 52),
  (52, [.iload 3, .ineg, .ret 0], 55),
  (55, [.aload 0, .getfield 605, .iconst (2), .irem, .ifCond .ne (78)], 64),
  (64, [.iload 3, .iconst (10), .aload 0, .getfield 602, .iload 1, .iaload, .imul, .iadd, .goto (79)], 78),
  (78, [.iload 3], 79),
  (79, [.ret 0], 80),
  (80, [.iload 3, .ret 0], 82)]
def qP_X6_goesOf : q_P := [(0, [.aload 0, .iconst (2), .iload 1, .iconst (-1), .invokestatic 137, .istore 2, .aload 0, .getfield 605, .iconst (10), .if_icmp .ge (21)], 17),
  (17, [.iconst (0), .goto (22)], 21),
  (21, [.iload 2], 22),
  (22, [.istore 3, .aload 0, .getfield 601, .iload 1, .iaload, .tableswitch (81) (1) (5) #[64, 66, 70, 66, 79]], 64),
  (64, [.iload 3, .ret 0], 66),
  (66, [.iload 2, .iconst (2), .idiv, .ret 0], 70),
  (70, [.iload 3, .aload 0, .getfield 602, .iload 1, .iaload, .iadd, .ret 0], 79),
  (79, [.iconst (1), .ret 0], 81),
  (81, [.iload 2, .ret 0], 83)]
def qP_X6_wishOf : q_P := [(0, [.iconst (-1), .istore 2, .iconst (0), .istore 3, .iconst (0), .istore 4], 7),
  (7, [.iload 4, .iconst (5), .if_icmp .ge (54)], 13),
  (13, [.aload 0, .iload 1, .iload 4, .invokestatic 141, .istore 5, .iload 5, .iload 3, .if_icmp .le (33)], 28),
  (28, [.iload 4, .goto (34)], 33),
  (33, [.iload 2], 34),
  (34, [.istore 2, .iload 5, .iload 3, .if_icmp .le (46)], 41),
  (41, [.iload 5, .goto (47)], 46),
  (46, [.iload 3], 47),
  (47, [.istore 3, .iinc 4 (1), .goto (7)], 54),
  (54, [.iload 2, .ret 0], 56)]
def qP_X6_told : q_P := [(0, [.aload 0, .iload 1, .invokestatic 112, .ifCond .ne (11)], 8),
  (8, [.iconst (-5), .ret 0], 11),
  (11, [.iload 2, .tableswitch (93) (0) (6) #[56, 56, 56, 67, 74, 81, 87]], 56),
  (56, [.aload 0, .getfield 604, .iconst (3), .iload 1, .imul, .iload 2, .iadd, .iaload, .ret 0], 67),
  (67, [.aload 0, .getfield 601, .iload 1, .iaload, .ret 0], 74),
  (74, [.aload 0, .getfield 602, .iload 1, .iaload, .ret 0], 81),
  (81, [.aload 0, .iload 1, .invokestatic 144, .ret 0], 87),
  (87, [.aload 0, .iload 1, .invokestatic 143, .ret 0], 93),
  (93, [.iconst (-7), .ret 0], 96)]
def qP_X6_love : q_P := [(0, [.aload 0, .iload 1, .invokestatic 112, .ifCond .eq (15)], 8),
  (8, [.iload 2, .invokestatic 113, .ifCond .ne (19)], 15),
  (15, [.iconst (-5000), .ret 0], 19),
  (19, [.iload 3, .ifCond .ne (32)], 23),
  (23, [.aload 0, .iload 1, .iload 2, .invokestatic 141, .goto (49)], 32),
  (32, [.iload 3, .iconst (1), .if_icmp .ne (46)], 37),
  (37, [.aload 0, .iload 1, .iload 2, .invokestatic 142, .goto (49)], 46),
  (46, [.iconst (-7000)], 49),
  (49, [.ret 0], 50)]
def qP_X6_lastIn : q_P := [(0, [.iconst (-1), .istore 2, .iconst (0), .istore 3, .iconst (0), .istore 4], 7),
  (7, [.iload 4, .aload 0, .getfield 600, .if_icmp .ge (88)], 16),
  (16, [.aload 0, .getfield 604, .iconst (3), .iload 4, .imul, .iconst (2), .iadd, .iaload, .iload 1, .if_icmp .ne (82)], 31),
  (31, [.aload 0, .iload 4, .iload 1, .invokestatic 142, .istore 5, .iload 2, .iconst (-1), .if_icmp .eq (51)], 45),
  (45, [.iload 5, .iload 3, .if_icmp .gt (55)], 51),
  (51, [.iconst (1), .goto (56)], 55),
  (55, [.iconst (0)], 56),
  (56, [.istore 6, .iload 6, .ifCond .eq (68)], 63),
  (63, [.iload 4, .goto (69)], 68),
  (68, [.iload 2], 69),
  (69, [.istore 2, .iload 6, .ifCond .eq (80)], 75),
  (75, [.iload 5, .goto (81)], 80),
  (80, [.iload 3], 81),
  (81, [.istore 3], 82),
  (82, [.iinc 4 (1), .goto (7)], 88),
  (88, [.iload 2, .ret 0], 90)]
def qP_X6_isFullSite : q_P := [(0, [.aload 0, .iload 1, .invokestatic 115, .invokestatic 116, .aload 0, .getfield 603, .iconst (4), .iload 1, .imul, .iconst (1), .iadd, .iaload, .if_icmp .lt (25)], 21),
  (21, [.iconst (1), .goto (26)], 25),
  (25, [.iconst (0)], 26),
  (26, [.ret 1], 27)]
def qP_X6_doesTake : q_P := [(0, [.aload 0, .iload 1, .invokestatic 148, .ifCond .ne (10)], 8),
  (8, [.iconst (1), .ret 1], 10),
  (10, [.aload 0, .iload 1, .invokestatic 147, .istore 3, .iload 3, .iconst (-1), .if_icmp .ne (23)], 21),
  (21, [.iconst (0), .ret 1], 23),
  (23, [.aload 0, .iload 2, .iload 1, .invokestatic 142, .istore 4, .aload 0, .iload 3, .iload 1, .invokestatic 142, .istore 5, .iload 4, .iload 5, .if_icmp .gt (58)], 46),
  (46, [.iload 4, .iload 5, .if_icmp .ne (62)], 53),
  (53, [.iload 2, .iload 3, .if_icmp .ge (62)], 58),
  (58, [.iconst (1), .goto (63)], 62),
  (62, [.iconst (0)], 63),
  (63, [.ret 1], 64)]
def qP_X6_turnOf : q_P := [(0, [.aload 0, .iload 1, .invokestatic 144, .istore 2, .iload 2, .iconst (-1), .if_icmp .ne (13)], 11),
  (11, [.iconst (0), .ret 1], 13),
  (13, [.aload 0, .iload 1, .invokestatic 143, .istore 3, .aload 0, .getfield 603, .iconst (4), .iload 2, .imul, .iaload, .aload 0, .getfield 604, .iconst (3), .iload 1, .imul, .iaload, .isub, .istore 4, .aload 0, .getfield 604, .iconst (3), .iload 1, .imul, .dup2, .iaload, .iload 4, .iload 3, .if_icmp .le (57)], 53),
  (53, [.iload 3, .goto (71)], 57),
  (57, [.iload 4, .iload 3, .ineg, .if_icmp .ge (69)], 64),
  (64, [.iload 3, .ineg, .goto (71)], 69),
  (69, [.iload 4], 71),
  (71, [.iadd, .iastore, .aload 0, .getfield 604, .iconst (3), .iload 1, .imul, .iaload, .aload 0, .getfield 603, .iconst (4), .iload 2, .imul, .iaload, .if_icmp .ne (101)], 92),
  (92, [.aload 0, .iload 2, .iload 1, .invokestatic 149, .ifCond .ne (103)], 101),
  (101, [.iconst (0), .ret 1], 103),
  (103, [.aload 0, .iload 2, .invokestatic 148, .ifCond .eq (135)], 111),
  (111, [.aload 0, .iload 2, .invokestatic 147, .iconst (0), .iconst (4), .invokestatic 111, .istore 5, .aload 0, .getfield 604, .iconst (3), .iload 5, .imul, .iconst (2), .iadd, .iconst (-1), .iastore], 135),
  (135, [.aload 0, .getfield 604, .iconst (3), .iload 1, .imul, .iconst (2), .iadd, .iload 2, .iastore, .aload 0, .getfield 603, .iconst (4), .iload 2, .imul, .iconst (3), .iadd, .aload 0, .getfield 603, .iconst (4), .iload 2, .imul, .iconst (3), .iadd, .iaload, .iconst (1), .iadd, .iconst (0), .iconst (99), .invokestatic 111, .iastore, .iconst (1), .ret 1], 176)]
def qP_X6_yearOf : q_P := [(0, [.iconst (0), .istore 1, .iconst (0), .istore 2], 4),
  (4, [.iload 2, .aload 0, .getfield 600, .if_icmp .ge (50)], 12),
  (12, [.aload 0, .getfield 604, .iconst (3), .iload 2, .imul, .iconst (2), .iadd, .iaload, .iconst (-1), .if_icmp .ne (44)], 26),
  (26, [.iload 1, .aload 0, .iload 2, .invokestatic 150, .ifCond .eq (41)], 35),
  (35, [.iconst (1), .iload 2, .ishl, .goto (42)], 41),
  (41, [.iconst (0)], 42),
  (42, [.ior, .istore 1], 44),
  (44, [.iinc 2 (1), .goto (4)], 50),
  (50, [.aload 0, .dup, .getfield 605, .iconst (1), .iadd, .putfield 605, .iload 1, .ret 0], 62)]
def qP_X6_year : q_P := [(0, [.aload 0, .getfield 605, .iconst (999), .if_icmp .ne (15)], 10),
  (10, [.iconst (-3), .goto (19)], 15),
  (15, [.aload 0, .invokestatic 151], 19),
  (19, [.ret 0], 20)]
def qP_X6_digitsNow : q_P := [(0, [.iconst (0), .istore 1, .iconst (0), .istore 2], 4),
  (4, [.iload 2, .aload 0, .getfield 600, .if_icmp .ge (36)], 12),
  (12, [.iconst (10), .iload 1, .imul, .aload 0, .getfield 604, .iconst (3), .iload 2, .imul, .iconst (2), .iadd, .iaload, .iadd, .iconst (1), .iadd, .istore 1, .iinc 2 (1), .goto (4)], 36),
  (36, [.iload 1, .ret 0], 38)]
def qP_X6_keeps : q_P := [(0, [.iconst (0), .istore 1], 2),
  (2, [.iload 1, .iconst (15), .if_icmp .ge (26)], 8),
  (8, [.aload 0, .getfield 630, .iload 1, .aload 0, .getfield 604, .iload 1, .iaload, .iastore, .iinc 1 (1), .goto (2)], 26),
  (26, [.iconst (0), .istore 1], 28),
  (28, [.iload 1, .iconst (20), .if_icmp .ge (55)], 34),
  (34, [.aload 0, .getfield 630, .iconst (15), .iload 1, .iadd, .aload 0, .getfield 603, .iload 1, .iaload, .iastore, .iinc 1 (1), .goto (28)], 55),
  (55, [.aload 0, .getfield 630, .iconst (35), .aload 0, .getfield 605, .iastore, .return_], 67)]
def qP_X6_lays : q_P := [(0, [.iconst (0), .istore 1], 2),
  (2, [.iload 1, .iconst (15), .if_icmp .ge (26)], 8),
  (8, [.aload 0, .getfield 604, .iload 1, .aload 0, .getfield 630, .iload 1, .iaload, .iastore, .iinc 1 (1), .goto (2)], 26),
  (26, [.iconst (0), .istore 1], 28),
  (28, [.iload 1, .iconst (20), .if_icmp .ge (55)], 34),
  (34, [.aload 0, .getfield 603, .iload 1, .aload 0, .getfield 630, .iconst (15), .iload 1, .iadd, .iaload, .iastore, .iinc 1 (1), .goto (28)], 55),
  (55, [.aload 0, .aload 0, .getfield 630, .iconst (35), .iaload, .putfield 605, .return_], 67)]
def qP_X6_run : q_P := [(0, [.iload 1, .iconst (0), .iconst (40), .invokestatic 110, .ifCond .eq (35)], 10),
  (10, [.iload 2, .iconst (0), .iconst (1), .invokestatic 110, .ifCond .ne (38)], 19),
  (19, [.iload 2, .iconst (10), .iconst (9), .aload 0, .getfield 600, .iadd, .invokestatic 110, .ifCond .ne (38)], 35),
  (35, [.iconst (-2), .ret 0], 38),
  (38, [.aload 0, .invokestatic 154, .iconst (0), .istore 3], 44),
  (44, [.iload 3, .iload 1, .if_icmp .ge (60)], 49),
  (49, [.aload 0, .invokestatic 151, .pop, .iinc 3 (1), .goto (44)], 60),
  (60, [.iconst (0), .istore 3, .iload 2, .iconst (2), .if_icmp .ge (86)], 67),
  (67, [.iload 2, .ifCond .ne (78)], 71),
  (71, [.aload 0, .invokestatic 153, .goto (82)], 78),
  (78, [.aload 0, .invokestatic 114], 82),
  (82, [.istore 3, .goto (98)], 86),
  (86, [.aload 0, .getfield 604, .iconst (3), .iload 2, .iconst (10), .isub, .imul, .iaload, .istore 3], 98),
  (98, [.aload 0, .invokestatic 155, .iload 3, .ret 0], 104)]
def qP_X6_whenIn : q_P := [(0, [.iconst (-1), .istore 3, .iconst (0), .istore 4], 5),
  (5, [.iload 4, .iconst (60), .if_icmp .gt (88)], 12),
  (12, [.iload 3, .iconst (-1), .if_icmp .ne (88)], 17),
  (17, [.iload 2, .iconst (-1), .if_icmp .ne (44)], 22),
  (22, [.aload 0, .getfield 604, .iconst (3), .iload 1, .imul, .iconst (2), .iadd, .iaload, .iconst (-1), .if_icmp .eq (40)], 36),
  (36, [.iconst (1), .goto (63)], 40),
  (40, [.iconst (0), .goto (63)], 44),
  (44, [.aload 0, .getfield 604, .iconst (3), .iload 1, .imul, .iconst (2), .iadd, .iaload, .iload 2, .if_icmp .ne (62)], 58),
  (58, [.iconst (1), .goto (63)], 62),
  (62, [.iconst (0)], 63),
  (63, [.istore 5, .iload 5, .ifCond .eq (75)], 70),
  (70, [.iload 4, .goto (76)], 75),
  (75, [.iconst (-1)], 76),
  (76, [.istore 3, .aload 0, .invokestatic 151, .pop, .iinc 4 (1), .goto (5)], 88),
  (88, [.iload 3, .ret 0], 90)]
def qP_X6_when : q_P := [(0, [.aload 0, .iload 1, .invokestatic 112, .ifCond .ne (11)], 8),
  (8, [.iconst (-5), .ret 0], 11),
  (11, [.iload 2, .iconst (-1), .iconst (4), .invokestatic 110, .ifCond .ne (23)], 20),
  (20, [.iconst (-7), .ret 0], 23),
  (23, [.aload 0, .invokestatic 154, .aload 0, .iload 1, .iload 2, .invokestatic 157, .istore 3, .aload 0, .invokestatic 155, .iload 3, .ret 0], 40)]
def qP_X6_tellsAll : q_P := [(0, [.iconst (0), .istore 1], 2),
  (2, [.iload 1, .aload 0, .getfield 600, .if_icmp .ge (77)], 10),
  (10, [.iconst (0), .istore 2], 12),
  (12, [.iload 2, .iconst (5), .if_icmp .ge (55)], 17),
  (17, [.aload 0, .getfield 631, .iconst (5), .iload 1, .imul, .iload 2, .iadd, .aload 0, .iload 1, .iload 2, .invokestatic 141, .iastore, .aload 0, .getfield 632, .iconst (5), .iload 1, .imul, .iload 2, .iadd, .aload 0, .iload 1, .iload 2, .invokestatic 142, .iastore, .iinc 2 (1), .goto (12)], 55),
  (55, [.aload 0, .getfield 633, .iload 1, .aload 0, .getfield 604, .iconst (3), .iload 1, .imul, .iconst (2), .iadd, .iaload, .iastore, .iinc 1 (1), .goto (2)], 77),
  (77, [.return_], 78)]
def qP_X6_sitting : q_P := [(0, [.iconst (0), .istore 2, .iconst (0), .istore 3], 4),
  (4, [.iload 3, .aload 0, .getfield 600, .if_icmp .ge (36)], 12),
  (12, [.iload 2, .aload 0, .getfield 633, .iload 3, .iaload, .iload 1, .if_icmp .ne (27)], 23),
  (23, [.iconst (1), .goto (28)], 27),
  (27, [.iconst (0)], 28),
  (28, [.iadd, .istore 2, .iinc 3 (1), .goto (4)], 36),
  (36, [.iload 2, .ret 0], 38)]
def qP_X6_lastSitting : q_P := [(0, [.iconst (-1), .istore 2, .iconst (0), .istore 3], 4),
  (4, [.iload 3, .aload 0, .getfield 600, .if_icmp .ge (86)], 12),
  (12, [.aload 0, .getfield 633, .iload 3, .iaload, .iload 1, .if_icmp .ne (80)], 22),
  (22, [.iload 2, .iconst (-1), .if_icmp .ne (31)], 27),
  (27, [.iconst (1), .goto (32)], 31),
  (31, [.iconst (0)], 32),
  (32, [.istore 4, .iload 4, .ifCond .ne (69)], 39),
  (39, [.aload 0, .getfield 632, .iconst (5), .iload 3, .imul, .iload 1, .iadd, .iaload, .aload 0, .getfield 632, .iconst (5), .iload 2, .imul, .iload 1, .iadd, .iaload, .if_icmp .gt (66)], 62),
  (62, [.iconst (1), .goto (67)], 66),
  (66, [.iconst (0)], 67),
  (67, [.istore 4], 69),
  (69, [.iload 4, .ifCond .eq (78)], 74),
  (74, [.iload 3, .goto (79)], 78),
  (78, [.iload 2], 79),
  (79, [.istore 2], 80),
  (80, [.iinc 3 (1), .goto (4)], 86),
  (86, [.iload 2, .ret 0], 88)]
def qP_X6_wouldTake : q_P := [(0, [.aload 0, .iload 1, .invokestatic 160, .aload 0, .getfield 603, .iconst (4), .iload 1, .imul, .iconst (1), .iadd, .iaload, .if_icmp .ge (20)], 18),
  (18, [.iconst (1), .ret 1], 20),
  (20, [.aload 0, .iload 1, .invokestatic 161, .istore 3, .iload 3, .iconst (-1), .if_icmp .ne (33)], 31),
  (31, [.iconst (0), .ret 1], 33),
  (33, [.aload 0, .getfield 632, .iconst (5), .iload 2, .imul, .iload 1, .iadd, .iaload, .istore 4, .aload 0, .getfield 632, .iconst (5), .iload 3, .imul, .iload 1, .iadd, .iaload, .istore 5, .iload 4, .iload 5, .if_icmp .gt (76)], 64),
  (64, [.iload 4, .iload 5, .if_icmp .ne (80)], 71),
  (71, [.iload 2, .iload 3, .if_icmp .ge (80)], 76),
  (76, [.iconst (1), .goto (81)], 80),
  (80, [.iconst (0)], 81),
  (81, [.ret 1], 82)]
def qP_X6_wouldRather : q_P := [(0, [.aload 0, .getfield 631, .iconst (5), .iload 1, .imul, .iload 2, .iadd, .iaload, .istore 3, .aload 0, .getfield 633, .iload 1, .iaload, .istore 4, .iload 3, .ifCond .le (29)], 23),
  (23, [.iload 4, .iload 2, .if_icmp .ne (31)], 29),
  (29, [.iconst (0), .ret 1], 31),
  (31, [.iload 4, .iconst (-1), .if_icmp .ne (39)], 37),
  (37, [.iconst (1), .ret 1], 39),
  (39, [.aload 0, .getfield 631, .iconst (5), .iload 1, .imul, .iload 4, .iadd, .iaload, .istore 5, .iload 3, .iload 5, .if_icmp .gt (70)], 58),
  (58, [.iload 3, .iload 5, .if_icmp .ne (74)], 64),
  (64, [.iload 2, .iload 4, .if_icmp .ge (74)], 70),
  (70, [.iconst (1), .goto (75)], 74),
  (74, [.iconst (0)], 75),
  (75, [.ret 1], 76)]
def qP_X6_against : q_P := [(0, [.iconst (0), .istore 1], 2),
  (2, [.iload 1, .aload 0, .getfield 600, .if_icmp .ge (90)], 10),
  (10, [.aload 0, .getfield 633, .iload 1, .iaload, .iconst (-1), .if_icmp .eq (46)], 20),
  (20, [.aload 0, .getfield 631, .iconst (5), .iload 1, .imul, .aload 0, .getfield 633, .iload 1, .iaload, .iadd, .iaload, .ifCond .gt (46)], 38),
  (38, [.iconst (10), .iload 1, .imul, .iconst (9), .iadd, .ret 0], 46),
  (46, [.iconst (0), .istore 2], 48),
  (48, [.iload 2, .iconst (5), .if_icmp .ge (84)], 53),
  (53, [.aload 0, .iload 1, .iload 2, .invokestatic 163, .ifCond .eq (78)], 62),
  (62, [.aload 0, .iload 2, .iload 1, .invokestatic 162, .ifCond .eq (78)], 71),
  (71, [.iconst (10), .iload 1, .imul, .iload 2, .iadd, .ret 0], 78),
  (78, [.iinc 2 (1), .goto (48)], 84),
  (84, [.iinc 1 (1), .goto (2)], 90),
  (90, [.iconst (-1), .ret 0], 92)]
def qP_X6_sumOf : q_P := [(0, [.iconst (0), .istore 2, .iconst (0), .istore 3], 4),
  (4, [.iload 3, .aload 0, .getfield 600, .if_icmp .ge (69)], 12),
  (12, [.aload 0, .getfield 633, .iload 3, .iaload, .iconst (-1), .if_icmp .eq (63)], 22),
  (22, [.iload 2, .iload 1, .iconst (1), .if_icmp .ne (46)], 28),
  (28, [.aload 0, .getfield 631, .iconst (5), .iload 3, .imul, .aload 0, .getfield 633, .iload 3, .iaload, .iadd, .iaload, .goto (61)], 46),
  (46, [.aload 0, .getfield 632, .iconst (5), .iload 3, .imul, .aload 0, .getfield 633, .iload 3, .iaload, .iadd, .iaload], 61),
  (61, [.iadd, .istore 2], 63),
  (63, [.iinc 3 (1), .goto (4)], 69),
  (69, [.iload 2, .ret 0], 71)]
def qP_X6_sittingDigits : q_P := [(0, [.iconst (0), .istore 1, .iconst (0), .istore 2], 4),
  (4, [.iload 2, .aload 0, .getfield 600, .if_icmp .ge (32)], 12),
  (12, [.iconst (10), .iload 1, .imul, .aload 0, .getfield 633, .iload 2, .iaload, .iadd, .iconst (1), .iadd, .istore 1, .iinc 2 (1), .goto (4)], 32),
  (32, [.iload 1, .ret 0], 34)]
def qP_X6_peace : q_P := [(0, [.iload 1, .iconst (0), .iconst (2), .invokestatic 110, .ifCond .ne (12)], 9),
  (9, [.iconst (-100000), .ret 0], 12),
  (12, [.aload 0, .invokestatic 159, .iload 1, .ifCond .ne (27)], 20),
  (20, [.aload 0, .invokestatic 164, .goto (32)], 27),
  (27, [.aload 0, .iload 1, .invokestatic 165], 32),
  (32, [.ret 0], 33)]
def qP_X6_nextAsked : q_P := [(0, [.iconst (-1), .istore 2, .iconst (0), .istore 3, .iconst (0), .istore 4], 7),
  (7, [.iload 4, .iconst (5), .if_icmp .ge (63)], 13),
  (13, [.aload 0, .getfield 634, .iload 1, .iaload, .iload 4, .ishr, .iconst (1), .iand, .ifCond .ne (57)], 27),
  (27, [.aload 0, .getfield 631, .iconst (5), .iload 1, .imul, .iload 4, .iadd, .iaload, .iload 3, .if_icmp .le (57)], 42),
  (42, [.iload 4, .istore 2, .aload 0, .getfield 631, .iconst (5), .iload 1, .imul, .iload 4, .iadd, .iaload, .istore 3], 57),
  (57, [.iinc 4 (1), .goto (7)], 63),
  (63, [.iload 2, .ret 0], 65)]
def qP_X6_asksOne : q_P := [(0, [.aload 0, .iload 1, .invokestatic 168, .istore 2, .iload 2, .iconst (-1), .if_icmp .ne (13)], 11),
  (11, [.iconst (0), .ret 1], 13),
  (13, [.aload 0, .iload 2, .iload 1, .invokestatic 162, .ifCond .ne (36)], 22),
  (22, [.aload 0, .getfield 634, .iload 1, .dup2, .iaload, .iconst (1), .iload 2, .ishl, .ior, .iastore, .iconst (1), .ret 1], 36),
  (36, [.aload 0, .iload 2, .invokestatic 160, .aload 0, .getfield 603, .iconst (4), .iload 2, .imul, .iconst (1), .iadd, .iaload, .if_icmp .lt (84)], 54),
  (54, [.aload 0, .iload 2, .invokestatic 161, .iconst (0), .iconst (4), .invokestatic 111, .istore 3, .aload 0, .getfield 633, .iload 3, .iconst (-1), .iastore, .aload 0, .getfield 634, .iload 3, .dup2, .iaload, .iconst (1), .iload 2, .ishl, .ior, .iastore], 84),
  (84, [.aload 0, .getfield 633, .iload 1, .iload 2, .iastore, .iconst (1), .ret 1], 93)]
def qP_X6_courts : q_P := [(0, [.aload 0, .invokestatic 159, .iconst (0), .istore 1], 6),
  (6, [.iload 1, .iconst (5), .if_icmp .ge (31)], 11),
  (11, [.aload 0, .getfield 633, .iload 1, .iconst (-1), .iastore, .aload 0, .getfield 634, .iload 1, .iconst (0), .iastore, .iinc 1 (1), .goto (6)], 31),
  (31, [.iconst (1), .istore 1], 33),
  (33, [.iload 1, .ifCond .eq (76)], 37),
  (37, [.iconst (0), .istore 1, .iconst (0), .istore 2], 41),
  (41, [.iload 2, .aload 0, .getfield 600, .if_icmp .ge (73)], 49),
  (49, [.aload 0, .getfield 633, .iload 2, .iaload, .iconst (-1), .if_icmp .ne (67)], 59),
  (59, [.iload 1, .aload 0, .iload 2, .invokestatic 169, .ior, .istore 1], 67),
  (67, [.iinc 2 (1), .goto (41)], 73),
  (73, [.goto (33)], 76),
  (76, [.return_], 77)]
def qP_X6_court : q_P := [(0, [.iload 1, .iconst (0), .iconst (2), .invokestatic 110, .ifCond .ne (12)], 9),
  (9, [.iconst (-100000), .ret 0], 12),
  (12, [.aload 0, .invokestatic 170, .iload 1, .ifCond .ne (27)], 20),
  (20, [.aload 0, .invokestatic 166, .goto (32)], 27),
  (27, [.aload 0, .iload 1, .invokestatic 165], 32),
  (32, [.ret 0], 33)]
def qP_X6_sitsBy : q_P := [(0, [.iload 1, .istore 2, .aload 0, .getfield 600, .iconst (1), .isub, .istore 3], 9),
  (9, [.iload 3, .ifCond .lt (36)], 13),
  (13, [.aload 0, .getfield 633, .iload 3, .iload 2, .iconst (6), .irem, .iconst (1), .isub, .iastore, .iload 2, .iconst (6), .idiv, .istore 2, .iinc 3 (-1), .goto (9)], 36),
  (36, [.iconst (0), .istore 3], 38),
  (38, [.iload 3, .iconst (5), .if_icmp .ge (69)], 43),
  (43, [.aload 0, .iload 3, .invokestatic 160, .aload 0, .getfield 603, .iconst (4), .iload 3, .imul, .iconst (1), .iadd, .iaload, .if_icmp .le (63)], 61),
  (61, [.iconst (0), .ret 1], 63),
  (63, [.iinc 3 (1), .goto (38)], 69),
  (69, [.iconst (1), .ret 1], 71)]
def qP_X6_tellsWays : q_P := [(0, [.aload 0, .invokestatic 159, .iconst (1), .istore 1, .iconst (0), .istore 2], 8),
  (8, [.iload 2, .aload 0, .getfield 600, .if_icmp .ge (27)], 16),
  (16, [.iload 1, .iconst (6), .imul, .istore 1, .iinc 2 (1), .goto (8)], 27),
  (27, [.aload 0, .getfield 635, .iconst (0), .iconst (0), .iastore, .aload 0, .getfield 635, .iconst (1), .iconst (-1), .iastore, .aload 0, .getfield 635, .iconst (2), .iconst (0), .iastore, .aload 0, .getfield 635, .iconst (3), .iconst (-1), .iastore, .aload 0, .getfield 635, .iconst (4), .iconst (0), .iastore, .iconst (0), .istore 2], 64),
  (64, [.iload 2, .iload 1, .if_icmp .ge (216)], 69),
  (69, [.aload 0, .iload 2, .invokestatic 172, .ifCond .eq (210)], 77),
  (77, [.aload 0, .iconst (1), .invokestatic 165, .istore 3, .aload 0, .getfield 635, .iconst (3), .iaload, .iconst (-1), .if_icmp .eq (103)], 93),
  (93, [.iload 3, .aload 0, .getfield 635, .iconst (4), .iaload, .if_icmp .le (120)], 103),
  (103, [.aload 0, .getfield 635, .iconst (3), .aload 0, .invokestatic 166, .iastore, .aload 0, .getfield 635, .iconst (4), .iload 3, .iastore], 120),
  (120, [.aload 0, .invokestatic 164, .iconst (-1), .if_icmp .ne (210)], 128),
  (128, [.aload 0, .getfield 635, .iconst (0), .dup2, .iaload, .iconst (1), .iadd, .iastore, .aload 0, .getfield 635, .iconst (1), .iaload, .iconst (-1), .if_icmp .eq (158)], 148),
  (148, [.iload 3, .aload 0, .getfield 635, .iconst (2), .iaload, .if_icmp .le (162)], 158),
  (158, [.iconst (1), .goto (163)], 162),
  (162, [.iconst (0)], 163),
  (163, [.istore 4, .aload 0, .getfield 635, .iconst (1), .iload 4, .ifCond .eq (182)], 175),
  (175, [.aload 0, .invokestatic 166, .goto (188)], 182),
  (182, [.aload 0, .getfield 635, .iconst (1), .iaload], 188),
  (188, [.iastore, .aload 0, .getfield 635, .iconst (2), .iload 4, .ifCond .eq (203)], 199),
  (199, [.iload 3, .goto (209)], 203),
  (203, [.aload 0, .getfield 635, .iconst (2), .iaload], 209),
  (209, [.iastore], 210),
  (210, [.iinc 2 (1), .goto (64)], 216),
  (216, [.return_], 217)]
def qP_X6_all : q_P := [(0, [.iload 1, .iconst (0), .iconst (4), .invokestatic 110, .ifCond .ne (12)], 9),
  (9, [.iconst (-100000), .ret 0], 12),
  (12, [.aload 0, .invokestatic 173, .aload 0, .getfield 635, .iload 1, .iaload, .ret 0], 23)]
def qP_X6_annex : q_P := [(0, [.iload 1, .iconst (0), .iconst (1), .invokestatic 110, .ifCond .ne (12)], 9),
  (9, [.iconst (-100000), .ret 0], 12),
  (12, [.iconst (-1), .istore 2, .iconst (0), .istore 3, .iconst (0), .istore 4], 19),
  (19, [.iload 4, .iconst (5), .if_icmp .ge (114)], 25),
  (25, [.aload 0, .getfield 603, .iconst (4), .iload 4, .imul, .iconst (1), .iadd, .dup2, .iaload, .iconst (1), .iadd, .iastore, .aload 0, .invokestatic 170, .aload 0, .iconst (1), .invokestatic 165, .istore 5, .aload 0, .getfield 603, .iconst (4), .iload 4, .imul, .iconst (1), .iadd, .dup2, .iaload, .iconst (1), .isub, .iastore, .iload 2, .iconst (-1), .if_icmp .eq (77)], 71),
  (71, [.iload 5, .iload 3, .if_icmp .le (81)], 77),
  (77, [.iconst (1), .goto (82)], 81),
  (81, [.iconst (0)], 82),
  (82, [.istore 6, .iload 6, .ifCond .eq (94)], 89),
  (89, [.iload 4, .goto (95)], 94),
  (94, [.iload 2], 95),
  (95, [.istore 2, .iload 6, .ifCond .eq (106)], 101),
  (101, [.iload 5, .goto (107)], 106),
  (106, [.iload 3], 107),
  (107, [.istore 3, .iinc 4 (1), .goto (19)], 114),
  (114, [.iload 1, .ifCond .ne (122)], 118),
  (118, [.iload 2, .goto (123)], 122),
  (122, [.iload 3], 123),
  (123, [.ret 0], 124)]
def qP_X6_cart : q_P := [(0, [.aload 0, .iload 1, .invokestatic 112, .ifCond .ne (11)], 8),
  (8, [.iconst (-5), .ret 0], 11),
  (11, [.iload 2, .iconst (0), .iconst (1), .invokestatic 110, .ifCond .ne (23)], 20),
  (20, [.iconst (-7), .ret 0], 23),
  (23, [.iconst (-1), .istore 3, .iconst (-1), .istore 4, .aload 0, .invokestatic 154, .iconst (0), .istore 5], 35),
  (35, [.iload 5, .iconst (100), .if_icmp .ge (132)], 42),
  (42, [.aload 0, .getfield 604, .iconst (3), .iload 1, .imul, .iload 5, .iastore, .aload 0, .getfield 604, .iconst (3), .iload 1, .imul, .iconst (2), .iadd, .iconst (-1), .iastore, .aload 0, .iload 1, .iconst (-1), .invokestatic 157, .istore 6, .aload 0, .invokestatic 155, .iload 6, .iconst (-1), .if_icmp .eq (97)], 81),
  (81, [.iload 3, .iconst (-1), .if_icmp .eq (93)], 86),
  (86, [.iload 6, .iload 4, .if_icmp .ge (97)], 93),
  (93, [.iconst (1), .goto (98)], 97),
  (97, [.iconst (0)], 98),
  (98, [.istore 7, .iload 7, .ifCond .eq (110)], 105),
  (105, [.iload 5, .goto (111)], 110),
  (110, [.iload 3], 111),
  (111, [.istore 3, .iload 7, .ifCond .eq (122)], 117),
  (117, [.iload 6, .goto (124)], 122),
  (122, [.iload 4], 124),
  (124, [.istore 4, .iinc 5 (1), .goto (35)], 132),
  (132, [.iload 2, .ifCond .ne (140)], 136),
  (136, [.iload 3, .goto (142)], 140),
  (140, [.iload 4], 142),
  (142, [.ret 0], 143)]
def qP_X6_lowest : q_P := [(0, [.lload 0, .jsr (0), .lcmp, .ifCond .ne (10)], 6),
  (6, [.iload 4, .i2l, .lreturn], 10),
  (10, [.lload 0, .lstore 5, .lload 2, .lstore 7], 16),
  (16, [.lload 7, .jsr (0), .lcmp, .ifCond .eq (41)], 23),
  (23, [.lload 5, .lload 7, .lrem, .lstore 9, .lload 7, .lstore 5, .lload 9, .lstore 7, .goto (16)], 41),
  (41, [.iload 4, .ifCond .ne (50)], 46),
  (46, [.lload 0, .goto (51)], 50),
  (50, [.lload 2], 51),
  (51, [.lload 5, .ldiv, .lreturn], 55)]
def qP_X6_share : q_P := [(0, [.iconst (0), .istore 2, .iconst (0), .istore 3, .iconst (0), .istore 4], 7),
  (7, [.iload 4, .aload 0, .getfield 600, .if_icmp .ge (69)], 16),
  (16, [.iload 3, .aload 0, .getfield 604, .iconst (3), .iload 4, .imul, .iconst (1), .iadd, .iaload, .iadd, .istore 3, .iload 2, .aload 0, .getfield 604, .iconst (3), .iload 4, .imul, .iconst (2), .iadd, .iaload, .iconst (-1), .if_icmp .ne (50)], 46),
  (46, [.iconst (0), .goto (61)], 50),
  (50, [.aload 0, .getfield 604, .iconst (3), .iload 4, .imul, .iconst (1), .iadd, .iaload], 61),
  (61, [.iadd, .istore 2, .iinc 4 (1), .goto (7)], 69),
  (69, [.iload 1, .iconst (0), .iconst (1), .invokestatic 110, .ifCond .eq (93)], 78),
  (78, [.iload 3, .ifCond .le (93)], 82),
  (82, [.iload 2, .i2l, .iload 3, .i2l, .iload 1, .invokestatic 177, .goto (96)], 93),
  (93, [.jsr (-4611686018427387904)], 96),
  (96, [.lreturn], 97)]
def qP_X6_sheetWrong : q_P := [(0, [.iload 1, .iconst (0), .iconst (3), .invokestatic 110, .ifCond .ne (12)], 9),
  (9, [.iconst (-2), .ret 0], 12),
  (12, [.aload 0, .getfield 615, .iload 1, .iaload, .iconst (-1), .if_icmp .ne (25)], 22),
  (22, [.iconst (-11), .ret 0], 25),
  (25, [.aload 0, .getfield 616, .iload 1, .iaload, .iconst (20), .if_icmp .le (41)], 36),
  (36, [.iconst (-2), .goto (42)], 41),
  (41, [.iconst (0)], 42),
  (42, [.ret 0], 43)]
def qP_X6_toldWrong : q_P := [(0, [.aload 0, .iload 1, .invokestatic 179, .istore 3, .iload 3, .ifCond .eq (14)], 10),
  (10, [.iload 3, .goto (28)], 14),
  (14, [.aload 0, .iload 2, .invokestatic 112, .ifCond .eq (26)], 22),
  (22, [.iconst (0), .goto (28)], 26),
  (26, [.iconst (-5)], 28),
  (28, [.ret 0], 29)]
def qP_X6_unlike : q_P := [(0, [.iconst (-1), .istore 3, .aload 0, .invokestatic 154, .iconst (0), .istore 4], 9),
  (9, [.iload 4, .aload 0, .getfield 616, .iload 1, .iaload, .if_icmp .ge (66)], 20),
  (20, [.iload 3, .iconst (-1), .if_icmp .ne (66)], 25),
  (25, [.aload 0, .invokestatic 151, .pop, .aload 0, .getfield 617, .iconst (40), .iload 1, .imul, .iload 4, .iadd, .iaload, .aload 0, .getfield 604, .iconst (3), .iload 2, .imul, .iaload, .if_icmp .ne (57)], 53),
  (53, [.iconst (-1), .goto (59)], 57),
  (57, [.iload 4], 59),
  (59, [.istore 3, .iinc 4 (1), .goto (9)], 66),
  (66, [.aload 0, .invokestatic 155, .iload 3, .ret 0], 72)]
def qP_X6_judge : q_P := [(0, [.aload 0, .iload 1, .iload 2, .invokestatic 180, .istore 3, .iload 3, .ifCond .ne (20)], 11),
  (11, [.aload 0, .iload 1, .iload 2, .invokestatic 181, .goto (21)], 20),
  (20, [.iload 3], 21),
  (21, [.ret 0], 22)]
def qP_X6_kinds : q_P := [(0, [.aload 0, .iload 1, .iload 2, .invokestatic 180, .istore 4, .iload 4, .ifCond .eq (16)], 13),
  (13, [.iload 4, .ret 0], 16),
  (16, [.iload 3, .iconst (0), .iconst (1), .invokestatic 110, .ifCond .ne (28)], 25),
  (25, [.iconst (-7), .ret 0], 28),
  (28, [.aload 0, .getfield 601, .iload 2, .iaload, .istore 5, .aload 0, .getfield 602, .iload 2, .iaload, .istore 6, .iconst (0), .istore 7, .iconst (0), .istore 8], 50),
  (50, [.iload 8, .iload 3, .ifCond .ne (61)], 56),
  (56, [.iconst (6), .goto (63)], 61),
  (61, [.iconst (10)], 63),
  (63, [.if_icmp .ge (130)], 66),
  (66, [.aload 0, .getfield 601, .iload 2, .iload 3, .ifCond .ne (80)], 75),
  (75, [.iload 8, .goto (82)], 80),
  (80, [.iload 5], 82),
  (82, [.iastore, .aload 0, .getfield 602, .iload 2, .iload 3, .iconst (1), .if_icmp .ne (98)], 93),
  (93, [.iload 8, .goto (100)], 98),
  (98, [.iload 6], 100),
  (100, [.iastore, .iload 7, .aload 0, .iload 1, .iload 2, .invokestatic 181, .iconst (-1), .if_icmp .ne (120)], 113),
  (113, [.iconst (1), .iload 8, .ishl, .goto (121)], 120),
  (120, [.iconst (0)], 121),
  (121, [.ior, .istore 7, .iinc 8 (1), .goto (50)], 130),
  (130, [.aload 0, .getfield 601, .iload 2, .iload 5, .iastore, .aload 0, .getfield 602, .iload 2, .iload 6, .iastore, .iload 7, .ret 0], 149)]
def qP_X6_states : q_P := [(0, [.aload 0, .iload 1, .iload 2, .invokestatic 180, .istore 5, .iload 5, .ifCond .eq (16)], 13),
  (13, [.iload 5, .ret 0], 16),
  (16, [.iload 3, .iconst (0), .iconst (1), .invokestatic 110, .ifCond .eq (35)], 25),
  (25, [.iload 4, .iconst (0), .iconst (1), .invokestatic 110, .ifCond .ne (38)], 35),
  (35, [.iconst (-7), .ret 0], 38),
  (38, [.aload 0, .getfield 604, .iconst (3), .iload 2, .imul, .iload 3, .iadd, .iaload, .istore 6, .iconst (0), .istore 7, .iconst (-1), .istore 8, .iconst (0), .istore 9], 59),
  (59, [.iload 9, .iconst (99), .if_icmp .gt (136)], 66),
  (66, [.aload 0, .getfield 604, .iconst (3), .iload 2, .imul, .iload 3, .iadd, .iload 9, .iastore, .aload 0, .iload 1, .iload 2, .invokestatic 181, .iconst (-1), .if_icmp .ne (92)], 88),
  (88, [.iconst (1), .goto (93)], 92),
  (92, [.iconst (0)], 93),
  (93, [.istore 10, .iload 7, .iload 10, .ifCond .eq (106)], 102),
  (102, [.iconst (1), .goto (107)], 106),
  (106, [.iconst (0)], 107),
  (107, [.iadd, .istore 7, .iload 10, .ifCond .eq (126)], 115),
  (115, [.iload 8, .iconst (-1), .if_icmp .ne (126)], 121),
  (121, [.iload 9, .goto (128)], 126),
  (126, [.iload 8], 128),
  (128, [.istore 8, .iinc 9 (1), .goto (59)], 136),
  (136, [.aload 0, .getfield 604, .iconst (3), .iload 2, .imul, .iload 3, .iadd, .iload 6, .iastore, .iload 4, .ifCond .ne (158)], 153),
  (153, [.iload 7, .goto (160)], 158),
  (158, [.iload 8], 160),
  (160, [.ret 0], 161)]
def qP_X6_whose : q_P := [(0, [.aload 0, .iload 1, .invokestatic 179, .istore 2, .iload 2, .ifCond .eq (12)], 10),
  (10, [.iload 2, .ret 0], 12),
  (12, [.iconst (0), .istore 3, .iconst (0), .istore 4], 17),
  (17, [.iload 4, .aload 0, .getfield 600, .if_icmp .ge (54)], 26),
  (26, [.iload 3, .aload 0, .iload 1, .iload 4, .invokestatic 181, .iconst (-1), .if_icmp .ne (45)], 38),
  (38, [.iconst (1), .iload 4, .ishl, .goto (46)], 45),
  (45, [.iconst (0)], 46),
  (46, [.ior, .istore 3, .iinc 4 (1), .goto (17)], 54),
  (54, [.iload 3, .ret 0], 56)]
def qP_X6_laws : q_P := [(0, [.aload 0, .iload 1, .iload 2, .invokestatic 180, .istore 3, .iload 3, .ifCond .eq (13)], 11),
  (11, [.iload 3, .ret 0], 13),
  (13, [.aload 0, .getfield 611, .istore 4, .iconst (0), .istore 5, .iconst (0), .istore 6], 25),
  (25, [.iload 6, .aload 0, .getfield 610, .if_icmp .ge (69)], 34),
  (34, [.aload 0, .iload 6, .putfield 611, .iload 5, .aload 0, .iload 1, .iload 2, .invokestatic 181, .iconst (-1), .if_icmp .ne (59)], 52),
  (52, [.iconst (1), .iload 6, .ishl, .goto (60)], 59),
  (59, [.iconst (0)], 60),
  (60, [.ior, .istore 5, .iinc 6 (1), .goto (25)], 69),
  (69, [.aload 0, .iload 4, .putfield 611, .iload 5, .ret 0], 78)]
def qP_X6_film : q_P := [(0, [.iload 1, .iconst (0), .iconst (3), .invokestatic 110, .ifCond .ne (12)], 9),
  (9, [.iconst (-2), .ret 0], 12),
  (12, [.aload 0, .iload 2, .invokestatic 112, .ifCond .ne (23)], 20),
  (20, [.iconst (-5), .ret 0], 23),
  (23, [.iload 3, .iconst (0), .iconst (20), .invokestatic 110, .ifCond .ne (36)], 33),
  (33, [.iconst (-7), .ret 0], 36),
  (36, [.aload 0, .getfield 615, .iload 1, .iconst (0), .iastore, .aload 0, .getfield 616, .iload 1, .iload 3, .iastore, .aload 0, .invokestatic 154, .iconst (0), .istore 4], 57),
  (57, [.iload 4, .iconst (40), .if_icmp .ge (114)], 64),
  (64, [.aload 0, .getfield 617, .iconst (40), .iload 1, .imul, .iload 4, .iadd, .iconst (0), .iastore, .iload 4, .iload 3, .if_icmp .ge (108)], 83),
  (83, [.aload 0, .invokestatic 151, .pop, .aload 0, .getfield 617, .iconst (40), .iload 1, .imul, .iload 4, .iadd, .aload 0, .getfield 604, .iconst (3), .iload 2, .imul, .iaload, .iastore], 108),
  (108, [.iinc 4 (1), .goto (57)], 114),
  (114, [.aload 0, .invokestatic 155, .iload 3, .ret 0], 120)]
def qP_X6_weather : q_P := [(0, [.iload 1, .i2l, .jsr (1), .ladd, .lstore 2, .aload 0, .invokestatic 154, .iconst (0), .istore 4], 12),
  (12, [.iload 4, .iconst (8), .if_icmp .ge (94)], 19),
  (19, [.lload 2, .jsr (48271), .lmul, .jsr (2147483647), .lrem, .lstore 2, .lload 2, .jsr (5), .lrem, .l2i, .istore 5, .lload 2, .jsr (48271), .lmul, .jsr (2147483647), .lrem, .lstore 2, .iload 5, .aload 0, .getfield 600, .if_icmp .ge (83)], 56),
  (56, [.aload 0, .getfield 604, .iconst (3), .iload 5, .imul, .lload 2, .jsr (100), .lrem, .l2i, .iastore, .aload 0, .getfield 604, .iconst (3), .iload 5, .imul, .iconst (2), .iadd, .iconst (-1), .iastore], 83),
  (83, [.aload 0, .invokestatic 151, .pop, .iinc 4 (1), .goto (12)], 94),
  (94, [.aload 0, .invokestatic 153, .istore 4, .aload 0, .aload 0, .invokestatic 114, .putfield 636, .aload 0, .invokestatic 155, .iload 4, .ret 0], 115)]
def qP_X6_drawn : q_P := [(0, [.iload 1, .iconst (0), .iconst (99999), .invokestatic 110, .ifCond .eq (20)], 11),
  (11, [.iload 2, .iconst (0), .iconst (1), .invokestatic 110, .ifCond .ne (23)], 20),
  (20, [.iconst (-2), .ret 0], 23),
  (23, [.aload 0, .iload 1, .invokestatic 188, .istore 3, .iload 2, .ifCond .ne (37)], 33),
  (33, [.iload 3, .goto (41)], 37),
  (37, [.aload 0, .getfield 636], 41),
  (41, [.ret 0], 42)]
def qP_X6_odds : q_P := [(0, [.iload 1, .iconst (0), .iconst (99999), .invokestatic 110, .ifCond .eq (40)], 11),
  (11, [.iload 2, .iconst (1), .iconst (40), .invokestatic 110, .ifCond .eq (40)], 21),
  (21, [.iload 3, .iconst (0), .iconst (5), .invokestatic 110, .ifCond .eq (40)], 30),
  (30, [.iload 4, .iconst (0), .iconst (1), .invokestatic 110, .ifCond .ne (44)], 40),
  (40, [.jsr (-4611686018427387904), .lreturn], 44),
  (44, [.jsr (0), .lstore 5, .iconst (0), .istore 7], 50),
  (50, [.iload 7, .iload 2, .if_icmp .ge (89)], 56),
  (56, [.aload 0, .iload 1, .iload 7, .iadd, .invokestatic 188, .pop, .lload 5, .aload 0, .getfield 636, .iload 3, .if_icmp .gt (79)], 75),
  (75, [.jsr (1), .goto (80)], 79),
  (79, [.jsr (0)], 80),
  (80, [.ladd, .lstore 5, .iinc 7 (1), .goto (50)], 89),
  (89, [.lload 5, .iload 2, .i2l, .iload 4, .invokestatic 177, .lreturn], 99)]
def qP_X6_image : q_P := [(0, [.aload 0, .iconst (1), .putfield 612, .iconst (0), .istore 1], 7),
  (7, [.iload 1, .iconst (15), .if_icmp .ge (31)], 13),
  (13, [.aload 0, .getfield 613, .iload 1, .aload 0, .getfield 604, .iload 1, .iaload, .iastore, .iinc 1 (1), .goto (7)], 31),
  (31, [.iconst (0), .istore 1], 33),
  (33, [.iload 1, .iconst (20), .if_icmp .ge (60)], 39),
  (39, [.aload 0, .getfield 613, .iconst (15), .iload 1, .iadd, .aload 0, .getfield 603, .iload 1, .iaload, .iastore, .iinc 1 (1), .goto (33)], 60),
  (60, [.aload 0, .getfield 614, .iconst (0), .aload 0, .getfield 600, .iastore, .aload 0, .getfield 614, .iconst (1), .aload 0, .getfield 605, .iastore, .aload 0, .getfield 614, .iconst (2), .aload 0, .getfield 611, .iastore, .aload 0, .getfield 600, .ret 0], 95)]
def qP_X6_back : q_P := [(0, [.aload 0, .getfield 612, .ifCond .ne (10)], 7),
  (7, [.iconst (-3), .ret 0], 10),
  (10, [.iconst (0), .istore 1], 12),
  (12, [.iload 1, .iconst (15), .if_icmp .ge (36)], 18),
  (18, [.aload 0, .getfield 604, .iload 1, .aload 0, .getfield 613, .iload 1, .iaload, .iastore, .iinc 1 (1), .goto (12)], 36),
  (36, [.iconst (0), .istore 1], 38),
  (38, [.iload 1, .iconst (20), .if_icmp .ge (65)], 44),
  (44, [.aload 0, .getfield 603, .iload 1, .aload 0, .getfield 613, .iconst (15), .iload 1, .iadd, .iaload, .iastore, .iinc 1 (1), .goto (38)], 65),
  (65, [.aload 0, .aload 0, .getfield 614, .iconst (0), .iaload, .putfield 600, .aload 0, .aload 0, .getfield 614, .iconst (1), .iaload, .putfield 605, .aload 0, .aload 0, .getfield 614, .iconst (2), .iaload, .putfield 611, .aload 0, .getfield 600, .ret 0], 100)]
def qP_X6_sheet : q_P := [(0, [.iload 1, .iconst (0), .iconst (3), .invokestatic 110, .ifCond .eq (29)], 9),
  (9, [.iload 2, .iconst (-1), .iconst (2), .invokestatic 110, .ifCond .eq (29)], 18),
  (18, [.iload 2, .iconst (-1), .if_icmp .eq (32)], 23),
  (23, [.iload 3, .iconst (40), .if_icmp .le (32)], 29),
  (29, [.iconst (-2), .ret 0], 32),
  (32, [.iload 2, .iconst (-1), .if_icmp .eq (44)], 37),
  (37, [.iload 3, .ifCond .ge (44)], 41),
  (41, [.iconst (-14), .ret 0], 44),
  (44, [.aload 0, .getfield 615, .iload 1, .iload 2, .iastore, .aload 0, .getfield 616, .iload 1, .iload 2, .iconst (-1), .if_icmp .ne (65)], 61),
  (61, [.iconst (0), .goto (66)], 65),
  (65, [.iload 3], 66),
  (66, [.iastore, .iconst (0), .istore 4], 70),
  (70, [.iload 4, .iconst (40), .if_icmp .ge (96)], 77),
  (77, [.aload 0, .getfield 617, .iconst (40), .iload 1, .imul, .iload 4, .iadd, .iconst (0), .iastore, .iinc 4 (1), .goto (70)], 96),
  (96, [.iconst (1), .ret 0], 98)]
def qP_X6_cell : q_P := [(0, [.iload 1, .iconst (0), .iconst (3), .invokestatic 110, .ifCond .ne (12)], 9),
  (9, [.iconst (-2), .ret 0], 12),
  (12, [.aload 0, .getfield 615, .iload 1, .iaload, .iconst (-1), .if_icmp .ne (25)], 22),
  (22, [.iconst (-11), .ret 0], 25),
  (25, [.iload 2, .iconst (0), .aload 0, .getfield 616, .iload 1, .iaload, .iconst (1), .isub, .invokestatic 110, .ifCond .ne (44)], 41),
  (41, [.iconst (-12), .ret 0], 44),
  (44, [.aload 0, .getfield 617, .iconst (40), .iload 1, .imul, .iload 2, .iadd, .aload 0, .getfield 615, .iload 1, .iaload, .ifCond .ne (68)], 63),
  (63, [.iload 3, .i2b, .goto (84)], 68),
  (68, [.aload 0, .getfield 615, .iload 1, .iaload, .iconst (1), .if_icmp .ne (83)], 78),
  (78, [.iload 3, .i2s, .goto (84)], 83),
  (83, [.iload 3], 84),
  (84, [.iastore, .iconst (1), .ret 0], 87)]
def qP_X6_copy : q_P := [(0, [.iload 1, .iconst (0), .iconst (3), .invokestatic 110, .ifCond .eq (18)], 9),
  (9, [.iload 3, .iconst (0), .iconst (3), .invokestatic 110, .ifCond .ne (21)], 18),
  (18, [.iconst (-2), .ret 0], 21),
  (21, [.aload 0, .getfield 615, .iload 1, .iaload, .iconst (-1), .if_icmp .eq (41)], 31),
  (31, [.aload 0, .getfield 615, .iload 3, .iaload, .iconst (-1), .if_icmp .ne (44)], 41),
  (41, [.iconst (-11), .ret 0], 44),
  (44, [.aload 0, .getfield 615, .iload 1, .iaload, .aload 0, .getfield 615, .iload 3, .iaload, .if_icmp .eq (62)], 59),
  (59, [.iconst (-13), .ret 0], 62),
  (62, [.iload 5, .ifCond .lt (124)], 67),
  (67, [.iload 2, .ifCond .lt (124)], 71),
  (71, [.iload 4, .ifCond .lt (124)], 76),
  (76, [.iload 2, .aload 0, .getfield 616, .iload 1, .iaload, .if_icmp .gt (124)], 86),
  (86, [.iload 4, .aload 0, .getfield 616, .iload 3, .iaload, .if_icmp .gt (124)], 97),
  (97, [.iload 5, .aload 0, .getfield 616, .iload 1, .iaload, .iload 2, .isub, .if_icmp .gt (124)], 110),
  (110, [.iload 5, .aload 0, .getfield 616, .iload 3, .iaload, .iload 4, .isub, .if_icmp .le (127)], 124),
  (124, [.iconst (-12), .ret 0], 127),
  (127, [.iconst (40), .iload 1, .imul, .iload 2, .iadd, .istore 6, .iconst (40), .iload 3, .imul, .iload 4, .iadd, .istore 7, .iconst (0), .istore 8], 147),
  (147, [.iload 8, .iload 5, .if_icmp .ge (201)], 154),
  (154, [.iload 6, .iload 7, .if_icmp .ge (171)], 161),
  (161, [.iload 5, .iconst (1), .isub, .iload 8, .isub, .goto (173)], 171),
  (171, [.iload 8], 173),
  (173, [.istore 9, .aload 0, .getfield 617, .iload 7, .iload 9, .iadd, .aload 0, .getfield 617, .iload 6, .iload 9, .iadd, .iaload, .iastore, .iinc 8 (1), .goto (147)], 201),
  (201, [.iload 5, .ret 0], 204)]
def qP_X6_stonesBy : q_P := [(0, [.iload 1, .iconst (0), .iconst (3), .invokestatic 110, .ifCond .eq (28)], 9),
  (9, [.iload 2, .iconst (0), .iconst (2), .invokestatic 110, .ifCond .eq (28)], 18),
  (18, [.iload 4, .iconst (0), .iconst (5), .invokestatic 110, .ifCond .ne (31)], 28),
  (28, [.iconst (-2), .ret 0], 31),
  (31, [.aload 0, .getfield 615, .iload 1, .iaload, .iconst (-1), .if_icmp .ne (44)], 41),
  (41, [.iconst (-11), .ret 0], 44),
  (44, [.aload 0, .getfield 615, .iload 1, .iaload, .iload 2, .if_icmp .eq (57)], 54),
  (54, [.iconst (-13), .ret 0], 57),
  (57, [.iconst (0), .istore 5, .iconst (0), .istore 6], 63),
  (63, [.iload 6, .iload 4, .if_icmp .ge (161)], 70),
  (70, [.iload 3, .iconst (3), .iload 6, .imul, .iadd, .istore 7, .iload 3, .ifCond .lt (101)], 82),
  (82, [.iload 7, .iload 3, .if_icmp .lt (101)], 88),
  (88, [.iload 7, .aload 0, .getfield 616, .iload 1, .iaload, .iconst (3), .isub, .if_icmp .le (104)], 101),
  (101, [.iconst (-12), .ret 0], 104),
  (104, [.iconst (40), .iload 1, .imul, .iload 7, .iadd, .istore 8, .iload 5, .aload 0, .aload 0, .getfield 617, .iload 8, .iaload, .aload 0, .getfield 617, .iload 8, .iconst (1), .iadd, .iaload, .aload 0, .getfield 617, .iload 8, .iconst (2), .iadd, .iaload, .invokestatic 139, .ifCond .lt (151)], 147),
  (147, [.iconst (1), .goto (152)], 151),
  (151, [.iconst (0)], 152),
  (152, [.iadd, .istore 5, .iinc 6 (1), .goto (63)], 161),
  (161, [.iload 5, .ret 0], 164)]
def qP_X6_isUnder : q_P := [(0, [.iload 1, .ifCond .eq (29)], 4),
  (4, [.iload 0, .iload 1, .if_icmp .eq (29)], 9),
  (9, [.iload 1, .iconst (1), .if_icmp .ne (19)], 14),
  (14, [.iload 0, .iconst (3), .if_icmp .eq (29)], 19),
  (19, [.iload 1, .iconst (2), .if_icmp .ne (33)], 24),
  (24, [.iload 0, .iconst (4), .if_icmp .ne (33)], 29),
  (29, [.iconst (1), .goto (34)], 33),
  (33, [.iconst (0)], 34),
  (34, [.ret 1], 35)]
def qP_X6_taken : q_P := [(0, [.iload 2, .iconst (0), .iconst (6), .invokestatic 110, .ifCond .ne (13)], 10),
  (10, [.iconst (-2), .ret 0], 13),
  (13, [.iload 1, .iconst (0), .iconst (9), .invokestatic 110, .ifCond .ne (26)], 23),
  (23, [.iconst (-12), .ret 0], 26),
  (26, [.iload 1, .iconst (5), .if_icmp .lt (55)], 31),
  (31, [.iload 2, .iconst (6), .if_icmp .ne (52)], 37),
  (37, [.aload 0, .getfield 603, .iconst (4), .iload 1, .iconst (5), .isub, .imul, .iconst (3), .iadd, .iaload, .goto (54)], 52),
  (52, [.iconst (-13)], 54),
  (54, [.ret 0], 55),
  (55, [.iload 1, .aload 0, .getfield 600, .if_icmp .lt (68)], 63),
  (63, [.iconst (-11), .goto (93)], 68),
  (68, [.iload 2, .iconst (6), .if_icmp .ge (91)], 74),
  (74, [.aload 0, .getfield 601, .iload 1, .iaload, .iload 2, .invokestatic 197, .ifCond .eq (91)], 87),
  (87, [.iload 1, .goto (93)], 91),
  (91, [.iconst (-13)], 93),
  (93, [.ret 0], 94)]
def qP_J0_length_8abf5 : q_P := [(0, [.aload 0, .getfield 10000, .arraylength, .aload 0, .invokestatic 201, .ishr, .ret 0], 11)]
def qP_J0_charAt_5068e : q_P := [(0, [.aload 0, .invokestatic 202, .ifCond .eq (16)], 7),
  (7, [.aload 0, .getfield 10000, .iload 1, .invokestatic 203, .ret 2], 16),
  (16, [.aload 0, .getfield 10000, .iload 1, .athrow, .ret 2], 25)]
def qP_J0_coder_7d493 : q_P := [(0, [.getstatic 0, .ifCond .eq (13)], 6),
  (6, [.aload 0, .getfield 10001, .goto (14)], 13),
  (13, [.iconst (1)], 14),
  (14, [.ret 3], 15)]
def qP_J0_isLatin1_aae02 : q_P := [(0, [.getstatic 0, .ifCond .eq (17)], 6),
  (6, [.aload 0, .getfield 10001, .ifCond .ne (17)], 13),
  (13, [.iconst (1), .goto (18)], 17),
  (17, [.iconst (0)], 18),
  (18, [.ret 1], 19)]
def qP_J1_charAt_3b067 : q_P := [(0, [.iload 1, .aload 0, .arraylength, .invokestatic 204, .aload 0, .iload 1, .baload, .iconst (255), .iand, .i2c, .ret 2], 15)]
def qP_J0_checkIndex_df160 : q_P := [(0, [.iload 0, .iload 1, .getstatic 1, .invokestatic 205, .pop, .return_], 10)]
def qP_J3_checkIndex_8e157 : q_P := [(0, [.iload 0, .ifCond .lt (9)], 4),
  (4, [.iload 0, .iload 1, .if_icmp .lt (16)], 9),
  (9, [.aload 2, .iload 0, .iload 1, .athrow, .athrow], 16),
  (16, [.iload 0, .ret 0], 18)]
def qP_J9_abs_0f7a4 : q_P := [(0, [.iload 0, .ifCond .ge (9)], 4),
  (4, [.iload 0, .ineg, .goto (10)], 9),
  (9, [.iload 0], 10),
  (10, [.ret 0], 11)]
def qP_J9_max_7cf53 : q_P := [(0, [.iload 0, .iload 1, .if_icmp .lt (9)], 5),
  (5, [.iload 0, .goto (10)], 9),
  (9, [.iload 1], 10),
  (10, [.ret 0], 11)]
def qP_J9_min_7cf53 : q_P := [(0, [.iload 0, .iload 1, .if_icmp .gt (9)], 5),
  (5, [.iload 0, .goto (10)], 9),
  (9, [.iload 1], 10),
  (10, [.ret 0], 11)]
def qP_L_law : q_P := [(0, [.new 5, .dup, .invokestatic 61, .astore 1, .new 6, .dup, .invokestatic 109, .astore 2, .iconst (0), .istore 3], 18),
  (18, [.iload 3, .aload 0, .arraylength, .iconst (7), .isub, .if_icmp .gt (1438)], 27),
  (27, [.aload 0, .iload 3, .iaload, .iconst (63), .iand, .tableswitch (1432) (0) (35) #[192, 215, 238, 281, 314, 389, 402, 425, 468, 511, 554, 587, 630, 643, 676, 709, 732, 755, 778, 801, 834, 857, 890, 933, 986, 1009, 1042, 1085, 1118, 1171, 1184, 1197, 1240, 1283, 1346, 1399]], 192),
  (192, [.aload 1, .aload 0, .iload 3, .iconst (1), .iadd, .iaload, .invokestatic 62, .pop, .aload 2, .aload 0, .iload 3, .iconst (1), .iadd, .iaload, .invokestatic 117, .pop, .goto (1432)], 215),
  (215, [.aload 1, .aload 0, .iload 3, .iconst (1), .iadd, .iaload, .invokestatic 63, .pop, .aload 2, .aload 0, .iload 3, .iconst (1), .iadd, .iaload, .invokestatic 118, .pop, .goto (1432)], 238),
  (238, [.aload 1, .aload 0, .iload 3, .iconst (1), .iadd, .iaload, .aload 0, .iload 3, .iconst (2), .iadd, .iaload, .aload 0, .iload 3, .iconst (3), .iadd, .iaload, .invokestatic 64, .pop, .aload 2, .aload 0, .iload 3, .iconst (1), .iadd, .iaload, .aload 0, .iload 3, .iconst (2), .iadd, .iaload, .aload 0, .iload 3, .iconst (3), .iadd, .iaload, .invokestatic 119, .pop, .goto (1432)], 281),
  (281, [.aload 1, .aload 0, .iload 3, .iconst (1), .iadd, .iaload, .aload 0, .iload 3, .iconst (2), .iadd, .iaload, .invokestatic 65, .pop, .aload 2, .aload 0, .iload 3, .iconst (1), .iadd, .iaload, .aload 0, .iload 3, .iconst (2), .iadd, .iaload, .invokestatic 120, .pop, .goto (1432)], 314),
  (314, [.aload 1, .aload 0, .iload 3, .iconst (1), .iadd, .iaload, .aload 0, .iload 3, .iconst (2), .iadd, .iaload, .aload 0, .iload 3, .iconst (3), .iadd, .iaload, .aload 0, .iload 3, .iconst (4), .iadd, .iaload, .aload 0, .iload 3, .iconst (5), .iadd, .iaload, .aload 0, .iload 3, .iconst (6), .iadd, .iaload, .invokestatic 66, .pop, .aload 2, .aload 0, .iload 3, .iconst (1), .iadd, .iaload, .aload 0, .iload 3, .iconst (2), .iadd, .iaload, .aload 0, .iload 3, .iconst (3), .iadd, .iaload, .aload 0], 367),
  (367, [.iload 3, .iconst (4), .iadd, .iaload, .aload 0, .iload 3, .iconst (5), .iadd, .iaload, .aload 0, .iload 3, .iconst (6), .iadd, .iaload, .invokestatic 122, .pop, .goto (1432)], 389),
  (389, [.aload 1, .invokestatic 67, .pop, .aload 2, .invokestatic 133, .pop, .goto (1432)], 402),
  (402, [.aload 1, .aload 0, .iload 3, .iconst (1), .iadd, .iaload, .invokestatic 68, .pop, .aload 2, .aload 0, .iload 3, .iconst (1), .iadd, .iaload, .invokestatic 136, .pop, .goto (1432)], 425),
  (425, [.aload 1, .aload 0, .iload 3, .iconst (1), .iadd, .iaload, .aload 0, .iload 3, .iconst (2), .iadd, .iaload, .aload 0, .iload 3, .iconst (3), .iadd, .iaload, .invokestatic 69, .pop, .aload 2, .aload 0, .iload 3, .iconst (1), .iadd, .iaload, .aload 0, .iload 3, .iconst (2), .iadd, .iaload, .aload 0, .iload 3, .iconst (3), .iadd, .iaload, .invokestatic 138, .pop, .goto (1432)], 468),
  (468, [.aload 1, .aload 0, .iload 3, .iconst (1), .iadd, .iaload, .aload 0, .iload 3, .iconst (2), .iadd, .iaload, .aload 0, .iload 3, .iconst (3), .iadd, .iaload, .invokestatic 70, .pop, .aload 2, .aload 0, .iload 3, .iconst (1), .iadd, .iaload, .aload 0, .iload 3, .iconst (2), .iadd, .iaload, .aload 0, .iload 3, .iconst (3), .iadd, .iaload, .invokestatic 139, .pop, .goto (1432)], 511),
  (511, [.aload 1, .aload 0, .iload 3, .iconst (1), .iadd, .iaload, .aload 0, .iload 3, .iconst (2), .iadd, .iaload, .aload 0, .iload 3, .iconst (3), .iadd, .iaload, .invokestatic 71, .pop, .aload 2, .aload 0, .iload 3, .iconst (1), .iadd, .iaload, .aload 0, .iload 3, .iconst (2), .iadd, .iaload, .aload 0, .iload 3, .iconst (3), .iadd, .iaload, .invokestatic 140, .pop, .goto (1432)], 554),
  (554, [.aload 1, .aload 0, .iload 3, .iconst (1), .iadd, .iaload, .aload 0, .iload 3, .iconst (2), .iadd, .iaload, .invokestatic 72, .pop, .aload 2, .aload 0, .iload 3, .iconst (1), .iadd, .iaload, .aload 0, .iload 3, .iconst (2), .iadd, .iaload, .invokestatic 145, .pop, .goto (1432)], 587),
  (587, [.aload 1, .aload 0, .iload 3, .iconst (1), .iadd, .iaload, .aload 0, .iload 3, .iconst (2), .iadd, .iaload, .aload 0, .iload 3, .iconst (3), .iadd, .iaload, .invokestatic 73, .pop, .aload 2, .aload 0, .iload 3, .iconst (1), .iadd, .iaload, .aload 0, .iload 3, .iconst (2), .iadd, .iaload, .aload 0, .iload 3, .iconst (3), .iadd, .iaload, .invokestatic 146, .pop, .goto (1432)], 630),
  (630, [.aload 1, .invokestatic 74, .pop, .aload 2, .invokestatic 152, .pop, .goto (1432)], 643),
  (643, [.aload 1, .aload 0, .iload 3, .iconst (1), .iadd, .iaload, .aload 0, .iload 3, .iconst (2), .iadd, .iaload, .invokestatic 75, .pop, .aload 2, .aload 0, .iload 3, .iconst (1), .iadd, .iaload, .aload 0, .iload 3, .iconst (2), .iadd, .iaload, .invokestatic 156, .pop, .goto (1432)], 676),
  (676, [.aload 1, .aload 0, .iload 3, .iconst (1), .iadd, .iaload, .aload 0, .iload 3, .iconst (2), .iadd, .iaload, .invokestatic 76, .pop, .aload 2, .aload 0, .iload 3, .iconst (1), .iadd, .iaload, .aload 0, .iload 3, .iconst (2), .iadd, .iaload, .invokestatic 158, .pop, .goto (1432)], 709),
  (709, [.aload 1, .aload 0, .iload 3, .iconst (1), .iadd, .iaload, .invokestatic 77, .pop, .aload 2, .aload 0, .iload 3, .iconst (1), .iadd, .iaload, .invokestatic 167, .pop, .goto (1432)], 732),
  (732, [.aload 1, .aload 0, .iload 3, .iconst (1), .iadd, .iaload, .invokestatic 78, .pop, .aload 2, .aload 0, .iload 3, .iconst (1), .iadd, .iaload, .invokestatic 171, .pop, .goto (1432)], 755),
  (755, [.aload 1, .aload 0, .iload 3, .iconst (1), .iadd, .iaload, .invokestatic 79, .pop, .aload 2, .aload 0, .iload 3, .iconst (1), .iadd, .iaload, .invokestatic 174, .pop, .goto (1432)], 778),
  (778, [.aload 1, .aload 0, .iload 3, .iconst (1), .iadd, .iaload, .invokestatic 80, .pop, .aload 2, .aload 0, .iload 3, .iconst (1), .iadd, .iaload, .invokestatic 175, .pop, .goto (1432)], 801),
  (801, [.aload 1, .aload 0, .iload 3, .iconst (1), .iadd, .iaload, .aload 0, .iload 3, .iconst (2), .iadd, .iaload, .invokestatic 81, .pop, .aload 2, .aload 0, .iload 3, .iconst (1), .iadd, .iaload, .aload 0, .iload 3, .iconst (2), .iadd, .iaload, .invokestatic 176, .pop, .goto (1432)], 834),
  (834, [.aload 1, .aload 0, .iload 3, .iconst (1), .iadd, .iaload, .invokestatic 82, .pop2, .aload 2, .aload 0, .iload 3, .iconst (1), .iadd, .iaload, .invokestatic 178, .pop2, .goto (1432)], 857),
  (857, [.aload 1, .aload 0, .iload 3, .iconst (1), .iadd, .iaload, .aload 0, .iload 3, .iconst (2), .iadd, .iaload, .invokestatic 83, .pop, .aload 2, .aload 0, .iload 3, .iconst (1), .iadd, .iaload, .aload 0, .iload 3, .iconst (2), .iadd, .iaload, .invokestatic 182, .pop, .goto (1432)], 890),
  (890, [.aload 1, .aload 0, .iload 3, .iconst (1), .iadd, .iaload, .aload 0, .iload 3, .iconst (2), .iadd, .iaload, .aload 0, .iload 3, .iconst (3), .iadd, .iaload, .invokestatic 84, .pop, .aload 2, .aload 0, .iload 3, .iconst (1), .iadd, .iaload, .aload 0, .iload 3, .iconst (2), .iadd, .iaload, .aload 0, .iload 3, .iconst (3), .iadd, .iaload, .invokestatic 183, .pop, .goto (1432)], 933),
  (933, [.aload 1, .aload 0, .iload 3, .iconst (1), .iadd, .iaload, .aload 0, .iload 3, .iconst (2), .iadd, .iaload, .aload 0, .iload 3, .iconst (3), .iadd, .iaload, .aload 0, .iload 3, .iconst (4), .iadd, .iaload, .invokestatic 85, .pop, .aload 2, .aload 0, .iload 3, .iconst (1), .iadd, .iaload, .aload 0, .iload 3, .iconst (2), .iadd, .iaload, .aload 0, .iload 3, .iconst (3), .iadd, .iaload, .aload 0, .iload 3, .iconst (4), .iadd, .iaload, .invokestatic 184, .pop, .goto (1432)], 986),
  (986, [.aload 1, .aload 0, .iload 3, .iconst (1), .iadd, .iaload, .invokestatic 86, .pop, .aload 2, .aload 0, .iload 3, .iconst (1), .iadd, .iaload, .invokestatic 185, .pop, .goto (1432)], 1009),
  (1009, [.aload 1, .aload 0, .iload 3, .iconst (1), .iadd, .iaload, .aload 0, .iload 3, .iconst (2), .iadd, .iaload, .invokestatic 87, .pop, .aload 2, .aload 0, .iload 3, .iconst (1), .iadd, .iaload, .aload 0, .iload 3, .iconst (2), .iadd, .iaload, .invokestatic 186, .pop, .goto (1432)], 1042),
  (1042, [.aload 1, .aload 0, .iload 3, .iconst (1), .iadd, .iaload, .aload 0, .iload 3, .iconst (2), .iadd, .iaload, .aload 0, .iload 3, .iconst (3), .iadd, .iaload, .invokestatic 88, .pop, .aload 2, .aload 0, .iload 3, .iconst (1), .iadd, .iaload, .aload 0, .iload 3, .iconst (2), .iadd, .iaload, .aload 0, .iload 3, .iconst (3), .iadd, .iaload, .invokestatic 187, .pop, .goto (1432)], 1085),
  (1085, [.aload 1, .aload 0, .iload 3, .iconst (1), .iadd, .iaload, .aload 0, .iload 3, .iconst (2), .iadd, .iaload, .invokestatic 89, .pop, .aload 2, .aload 0, .iload 3, .iconst (1), .iadd, .iaload, .aload 0, .iload 3, .iconst (2), .iadd, .iaload, .invokestatic 189, .pop, .goto (1432)], 1118),
  (1118, [.aload 1, .aload 0, .iload 3, .iconst (1), .iadd, .iaload, .aload 0, .iload 3, .iconst (2), .iadd, .iaload, .aload 0, .iload 3, .iconst (3), .iadd, .iaload, .aload 0, .iload 3, .iconst (4), .iadd, .iaload, .invokestatic 90, .pop2, .aload 2, .aload 0, .iload 3, .iconst (1), .iadd, .iaload, .aload 0, .iload 3, .iconst (2), .iadd, .iaload, .aload 0, .iload 3, .iconst (3), .iadd, .iaload, .aload 0, .iload 3, .iconst (4), .iadd, .iaload, .invokestatic 190, .pop2, .goto (1432)], 1171),
  (1171, [.aload 1, .invokestatic 91, .pop, .aload 2, .invokestatic 191, .pop, .goto (1432)], 1184),
  (1184, [.aload 1, .invokestatic 92, .pop, .aload 2, .invokestatic 192, .pop, .goto (1432)], 1197),
  (1197, [.aload 1, .aload 0, .iload 3, .iconst (1), .iadd, .iaload, .aload 0, .iload 3, .iconst (2), .iadd, .iaload, .aload 0, .iload 3, .iconst (3), .iadd, .iaload, .invokestatic 93, .pop, .aload 2, .aload 0, .iload 3, .iconst (1), .iadd, .iaload, .aload 0, .iload 3, .iconst (2), .iadd, .iaload, .aload 0, .iload 3, .iconst (3), .iadd, .iaload, .invokestatic 193, .pop, .goto (1432)], 1240),
  (1240, [.aload 1, .aload 0, .iload 3, .iconst (1), .iadd, .iaload, .aload 0, .iload 3, .iconst (2), .iadd, .iaload, .aload 0, .iload 3, .iconst (3), .iadd, .iaload, .invokestatic 94, .pop, .aload 2, .aload 0, .iload 3, .iconst (1), .iadd, .iaload, .aload 0, .iload 3, .iconst (2), .iadd, .iaload, .aload 0, .iload 3, .iconst (3), .iadd, .iaload, .invokestatic 194, .pop, .goto (1432)], 1283),
  (1283, [.aload 1, .aload 0, .iload 3, .iconst (1), .iadd, .iaload, .aload 0, .iload 3, .iconst (2), .iadd, .iaload, .aload 0, .iload 3, .iconst (3), .iadd, .iaload, .aload 0, .iload 3, .iconst (4), .iadd, .iaload, .aload 0, .iload 3, .iconst (5), .iadd, .iaload, .invokestatic 95, .pop, .aload 2, .aload 0, .iload 3, .iconst (1), .iadd, .iaload, .aload 0, .iload 3, .iconst (2), .iadd, .iaload, .aload 0, .iload 3, .iconst (3), .iadd, .iaload, .aload 0, .iload 3, .iconst (4), .iadd, .iaload, .aload 0, .iload 3, .iconst (5), .iadd, .iaload, .invokestatic 195, .pop, .goto (1432)], 1346),
  (1346, [.aload 1, .aload 0, .iload 3, .iconst (1), .iadd, .iaload, .aload 0, .iload 3, .iconst (2), .iadd, .iaload, .aload 0, .iload 3, .iconst (3), .iadd, .iaload, .aload 0, .iload 3, .iconst (4), .iadd, .iaload, .invokestatic 96, .pop, .aload 2, .aload 0, .iload 3, .iconst (1), .iadd, .iaload, .aload 0, .iload 3, .iconst (2), .iadd, .iaload, .aload 0, .iload 3, .iconst (3), .iadd, .iaload, .aload 0, .iload 3, .iconst (4), .iadd, .iaload, .invokestatic 196, .pop, .goto (1432)], 1399),
  (1399, [.aload 1, .aload 0, .iload 3, .iconst (1), .iadd, .iaload, .aload 0, .iload 3, .iconst (2), .iadd, .iaload, .invokestatic 97, .aload 2, .aload 0, .iload 3, .iconst (1), .iadd, .iaload, .aload 0, .iload 3, .iconst (2), .iadd, .iaload, .invokestatic 198, .if_icmp .eq (1432)], 1430),
  (1430, [.iconst (0), .ret 1], 1432),
  (1432, [.iinc 3 (7), .goto (18)], 1438),
  (1438, [.iconst (1), .ret 1], 1440)]
def q_mP (id : Nat) : q_P := if id < 104 then (if id < 52 then (if id < 26 then (if id < 13 then (if id < 6 then (if id < 3 then (if id < 1 then (qP_X0_init) else (if id < 2 then (qP_X0_copyFrom) else (qP_X0_emptyAll))) else (if id < 4 then (qP_X0_inNone) else (if id < 5 then (qP_X0_housed) else (qP_X0_housedBits)))) else (if id < 9 then (if id < 7 then (qP_X0_digits) else (if id < 8 then (qP_X0_liked) else (qP_X0_wanted))) else (if id < 11 then (if id < 10 then (qP_X0_ratherBeIn) else (qP_X0_dearest)) else (if id < 12 then (qP_X0_ratherHave) else (qP_X0_last))))) else (if id < 19 then (if id < 16 then (if id < 14 then (qP_X0_takes) else (if id < 15 then (qP_X0_comeIn) else (qP_X0_askInTurn))) else (if id < 17 then (qP_X0_ask) else (if id < 18 then (qP_X0_complaint) else (qP_X0_fits)))) else (if id < 22 then (if id < 20 then (qP_X0_nextWay) else (if id < 21 then (qP_X1_init) else (qP_X1_clear))) else (if id < 24 then (if id < 23 then (qP_X1_take) else (qP_X1_read)) else (if id < 25 then (qP_X1_made) else (qP_X1_part)))))) else (if id < 39 then (if id < 32 then (if id < 29 then (if id < 27 then (qP_X1_expect) else (if id < 28 then (qP_X1_fail) else (qP_X1_emit))) else (if id < 30 then (qP_X1_either) else (if id < 31 then (qP_X1_both) else (qP_X1_not)))) else (if id < 35 then (if id < 33 then (qP_X1_sum) else (if id < 34 then (qP_X1_term) else (qP_X1_one))) else (if id < 37 then (if id < 36 then (qP_X1_next) else (qP_X1_word)) else (if id < 38 then (qP_X1_number) else (qP_X1_mean))))) else (if id < 45 then (if id < 42 then (if id < 40 then (qP_X1_isLetter) else (if id < 41 then (qP_X1_isDigit) else (qP_X1_isSign))) else (if id < 43 then (qP_X2_init) else (if id < 44 then (qP_X2_isMissing) else (qP_X2_become)))) else (if id < 48 then (if id < 46 then (qP_X2_write) else (if id < 47 then (qP_X3_init) else (qP_X3_value))) else (if id < 50 then (if id < 49 then (qP_X4_init) else (qP_X4_copyFrom)) else (if id < 51 then (qP_X4_add) else (qP_X4_lay))))))) else (if id < 78 then (if id < 65 then (if id < 58 then (if id < 55 then (if id < 53 then (qP_X4_move) else (if id < 54 then (qP_X4_says) else (qP_X4_likes))) else (if id < 56 then (qP_X4_wants) else (if id < 57 then (qP_X4_goes) else (qP_X4_tellAll)))) else (if id < 61 then (if id < 59 then (qP_X4_wish) else (if id < 60 then (qP_X4_passYear) else (qP_X4_goTo))) else (if id < 63 then (if id < 62 then (qP_X5_init) else (qP_X5_count)) else (if id < 64 then (qP_X5_dawn) else (qP_X5_build))))) else (if id < 71 then (if id < 68 then (if id < 66 then (qP_X5_site) else (if id < 67 then (qP_X5_feed) else (qP_X5_text))) else (if id < 69 then (qP_X5_force) else (if id < 70 then (qP_X5_asks) else (qP_X5_stone)))) else (if id < 74 then (if id < 72 then (qP_X5_put) else (if id < 73 then (qP_X5_told) else (qP_X5_love))) else (if id < 76 then (if id < 75 then (qP_X5_year) else (qP_X5_run)) else (if id < 77 then (qP_X5_when) else (qP_X5_peace)))))) else (if id < 91 then (if id < 84 then (if id < 81 then (if id < 79 then (qP_X5_court) else (if id < 80 then (qP_X5_all) else (qP_X5_annex))) else (if id < 82 then (qP_X5_cart) else (if id < 83 then (qP_X5_share) else (qP_X5_judge)))) else (if id < 87 then (if id < 85 then (qP_X5_kinds) else (if id < 86 then (qP_X5_states) else (qP_X5_whose))) else (if id < 89 then (if id < 88 then (qP_X5_laws) else (qP_X5_film)) else (if id < 90 then (qP_X5_drawn) else (qP_X5_odds))))) else (if id < 97 then (if id < 94 then (if id < 92 then (qP_X5_image) else (if id < 93 then (qP_X5_back) else (qP_X5_sheet))) else (if id < 95 then (qP_X5_cell) else (if id < 96 then (qP_X5_copy) else (qP_X5_stonesBy)))) else (if id < 100 then (if id < 98 then (qP_X5_taken) else (if id < 99 then (qP_X5_isStone) else (qP_X5_isBuilding))) else (if id < 102 then (if id < 101 then (qP_X5_orNone) else (qP_X5_isSheet)) else (if id < 103 then (qP_X5_isByte) else (qP_X5_isOfKind)))))))) else (if id < 156 then (if id < 130 then (if id < 117 then (if id < 110 then (if id < 107 then (if id < 105 then (qP_X5_refusalOfTold) else (if id < 106 then (qP_X5_firstOtherwise) else (qP_X5_yearsTillIn))) else (if id < 108 then (qP_X5_passWeather) else (if id < 109 then (qP_X5_inLowestTerms) else (qP_X6_init)))) else (if id < 113 then (if id < 111 then (qP_X6_in) else (if id < 112 then (qP_X6_within) else (qP_X6_isStone))) else (if id < 115 then (if id < 114 then (qP_X6_isSite) else (qP_X6_outside)) else (if id < 116 then (qP_X6_whoIn) else (qP_X6_onesOf))))) else (if id < 123 then (if id < 120 then (if id < 118 then (qP_X6_count) else (if id < 119 then (qP_X6_dawn) else (qP_X6_build))) else (if id < 121 then (qP_X6_site) else (if id < 122 then (qP_X6_isByte) else (qP_X6_feed)))) else (if id < 126 then (if id < 124 then (qP_X6_wordFrom) else (if id < 125 then (qP_X6_next) else (qP_X6_rank))) else (if id < 128 then (if id < 127 then (qP_X6_puts) else (qP_X6_unwinds)) else (if id < 129 then (qP_X6_holds) else (qP_X6_opensOne)))))) else (if id < 143 then (if id < 136 then (if id < 133 then (if id < 131 then (qP_X6_between) else (if id < 132 then (qP_X6_signOf) else (qP_X6_eRead))) else (if id < 134 then (qP_X6_text) else (if id < 135 then (qP_X6_two) else (qP_X6_says)))) else (if id < 139 then (if id < 137 then (qP_X6_force) else (if id < 138 then (qP_X6_asksOf) else (qP_X6_asks))) else (if id < 141 then (if id < 140 then (qP_X6_stone) else (qP_X6_put)) else (if id < 142 then (qP_X6_likesOf) else (qP_X6_wantedOf))))) else (if id < 149 then (if id < 146 then (if id < 144 then (qP_X6_goesOf) else (if id < 145 then (qP_X6_wishOf) else (qP_X6_told))) else (if id < 147 then (qP_X6_love) else (if id < 148 then (qP_X6_lastIn) else (qP_X6_isFullSite)))) else (if id < 152 then (if id < 150 then (qP_X6_doesTake) else (if id < 151 then (qP_X6_turnOf) else (qP_X6_yearOf))) else (if id < 154 then (if id < 153 then (qP_X6_year) else (qP_X6_digitsNow)) else (if id < 155 then (qP_X6_keeps) else (qP_X6_lays))))))) else (if id < 182 then (if id < 169 then (if id < 162 then (if id < 159 then (if id < 157 then (qP_X6_run) else (if id < 158 then (qP_X6_whenIn) else (qP_X6_when))) else (if id < 160 then (qP_X6_tellsAll) else (if id < 161 then (qP_X6_sitting) else (qP_X6_lastSitting)))) else (if id < 165 then (if id < 163 then (qP_X6_wouldTake) else (if id < 164 then (qP_X6_wouldRather) else (qP_X6_against))) else (if id < 167 then (if id < 166 then (qP_X6_sumOf) else (qP_X6_sittingDigits)) else (if id < 168 then (qP_X6_peace) else (qP_X6_nextAsked))))) else (if id < 175 then (if id < 172 then (if id < 170 then (qP_X6_asksOne) else (if id < 171 then (qP_X6_courts) else (qP_X6_court))) else (if id < 173 then (qP_X6_sitsBy) else (if id < 174 then (qP_X6_tellsWays) else (qP_X6_all)))) else (if id < 178 then (if id < 176 then (qP_X6_annex) else (if id < 177 then (qP_X6_cart) else (qP_X6_lowest))) else (if id < 180 then (if id < 179 then (qP_X6_share) else (qP_X6_sheetWrong)) else (if id < 181 then (qP_X6_toldWrong) else (qP_X6_unlike)))))) else (if id < 195 then (if id < 188 then (if id < 185 then (if id < 183 then (qP_X6_judge) else (if id < 184 then (qP_X6_kinds) else (qP_X6_states))) else (if id < 186 then (qP_X6_whose) else (if id < 187 then (qP_X6_laws) else (qP_X6_film)))) else (if id < 191 then (if id < 189 then (qP_X6_weather) else (if id < 190 then (qP_X6_drawn) else (qP_X6_odds))) else (if id < 193 then (if id < 192 then (qP_X6_image) else (qP_X6_back)) else (if id < 194 then (qP_X6_sheet) else (qP_X6_cell))))) else (if id < 202 then (if id < 198 then (if id < 196 then (qP_X6_copy) else (if id < 197 then (qP_X6_stonesBy) else (qP_X6_isUnder))) else (if id < 200 then (if id < 199 then (qP_X6_taken) else (qP_J0_length_8abf5)) else (if id < 201 then (qP_J0_charAt_5068e) else (qP_J0_coder_7d493)))) else (if id < 205 then (if id < 203 then (qP_J0_isLatin1_aae02) else (if id < 204 then (qP_J1_charAt_3b067) else (qP_J0_checkIndex_df160))) else (if id < 207 then (if id < 206 then (qP_J3_checkIndex_8e157) else (qP_J9_abs_0f7a4)) else (if id < 208 then (qP_J9_max_7cf53) else (qP_J9_min_7cf53))))))))
end
section
/-! THE RUN, and what it comes to -/
def q_ent (id : Nat) (as : List q_V) : List q_V := q_entL as ++ List.replicate (q_mL id - (q_entL as).length) (qS 0)
def q_step (md : Nat) (P : q_P) (c : q_C) : q_R := match c with
  | (nx, [], ls, st, g, M) => (q_blk P nx).bind fun b => q_go b.2 b.1 ls st g M
  | (nx, op :: ops, ls, st, g, M) => q_op md op nx ops ls st g M
def q_push (v : Option q_V) (st : List q_V) : List q_V := match v with
  | none => st
  | some v => v :: st
def q_put (c : q_C) (v : Option q_V) (g : q_G) (M : q_M) : q_C := match c with
  | (nx, ops, ls, st, _, _) => (nx, ops, ls, q_push v st, g, M)
def q_run : Nat → Nat → Nat → q_P → q_C → Option (Option q_V × q_G × q_M)
  | 0, _, _, _, _ => none
  | f + 1, md, d, P, c => match q_step md P c with
    | none => none
    | some (.inl c') => q_run f md d P c'
    | some (.inr (.inl v)) => some (v, c.2.2.2.2.1, c.2.2.2.2.2)
    | some (.inr (.inr (id, as, c'))) => match d with
      | 0 => none
      | d + 1 => match q_run f md d (q_mP id) (0, [], q_ent id as, [], c'.2.2.2.2.1, c'.2.2.2.2.2) with
        | none => none
        | some (v, g, M) => q_run f md (d + 1) P (q_put c' v g M)
/-- the run from here ends, in a world with Q -/
def q_T (md d : Nat) (P : q_P) (nx : Nat) (ops : List Instr) (ls st : List q_V) (g : q_G) (M : q_M) (Q : Option q_V → q_G → q_M → Prop) : Prop :=
  ∃ f r, q_run f md d P (nx, ops, ls, st, g, M) = some r ∧ Q r.1 r.2.1 r.2.2
/-- a call of method id -/
def q_S (md d id : Nat) (as : List q_V) (g : q_G) (M : q_M) (Q : Option q_V → q_G → q_M → Prop) : Prop := q_T md d (q_mP id) 0 [] (q_ent id as) [] g M Q
/-- what is left behind a call -/
def q_K (md d : Nat) (P : q_P) (nx : Nat) (ops : List Instr) (ls st : List q_V) (Q : Option q_V → q_G → q_M → Prop) : Option q_V → q_G → q_M → Prop := fun v g M => q_T md d P nx ops ls (q_push v st) g M Q
theorem q_run_step {f md d : Nat} {P : q_P} {c c' : q_C} (h : q_step md P c = some (.inl c')) : q_run (f + 1) md d P c = q_run f md d P c' := by
  rw [q_run, h]
theorem q_run_mono : ∀ (f : Nat) {md d : Nat} {P : q_P} {c : q_C} {r : Option q_V × q_G × q_M}, q_run f md d P c = some r → q_run (f + 1) md d P c = some r := by
  intro f
  induction f with
  | zero => intro md d P c r h; rw [q_run] at h; cases h
  | succ f ih =>
    intro md d P c r h
    rw [q_run] at h
    rw [q_run]
    split at h
    · cases h
    · next c' hs => exact ih h
    · next v hs => exact h
    · next id as c' hs =>
      cases d with
      | zero => cases h
      | succ d =>
        simp only at h ⊢
        split at h
        · cases h
        · next v g M hr =>
          rw [ih hr]
          exact ih h
theorem q_run_le {f f' md d : Nat} {P : q_P} {c : q_C} {r : Option q_V × q_G × q_M} (h : q_run f md d P c = some r) (hf : f ≤ f') : q_run f' md d P c = some r := by
  induction hf with
  | refl => exact h
  | step _ ih => exact q_run_mono _ ih
theorem q_T_next {md d : Nat} {P : q_P} {nx nx' : Nat} {ops ops' : List Instr} {ls st ls' st' : List q_V} {g g' : q_G} {M M' : q_M} {Q : Option q_V → q_G → q_M → Prop}
    (h : q_step md P (nx, ops, ls, st, g, M) = q_go nx' ops' ls' st' g' M') : q_T md d P nx ops ls st g M Q = q_T md d P nx' ops' ls' st' g' M' Q := by
  apply propext
  constructor
  · rintro ⟨f, r, h1, h2⟩
    cases f with
    | zero => rw [q_run] at h1; cases h1
    | succ f =>
      rw [q_run_step h] at h1
      exact ⟨f, r, h1, h2⟩
  · rintro ⟨f, r, h1, h2⟩
    exact ⟨f + 1, r, by rw [q_run_step h]; exact h1, h2⟩
theorem q_T_stuck {md d : Nat} {P : q_P} {nx : Nat} {ops : List Instr} {ls st : List q_V} {g : q_G} {M : q_M} {Q : Option q_V → q_G → q_M → Prop}
    (h : q_step md P (nx, ops, ls, st, g, M) = none) : q_T md d P nx ops ls st g M Q = False := by
  apply propext
  constructor
  · rintro ⟨f, r, h1, h2⟩
    cases f with
    | zero => rw [q_run] at h1; cases h1
    | succ f => rw [q_run, h] at h1; cases h1
  · exact False.elim
theorem q_T_if {md d : Nat} {P : q_P} {nx nx' : Nat} {ops ops' : List Instr} {ls st ls' st' : List q_V} {g g' : q_G} {M M' : q_M} {Q : Option q_V → q_G → q_M → Prop} {c : Prop} [Decidable c]
    (h : q_step md P (nx, ops, ls, st, g, M) = if c then q_go nx' ops' ls' st' g' M' else none) : q_T md d P nx ops ls st g M Q = (c ∧ q_T md d P nx' ops' ls' st' g' M' Q) := by
  by_cases hc : c
  · rw [if_pos hc] at h
    rw [q_T_next h]
    simp [hc]
  · rw [if_neg hc] at h
    rw [q_T_stuck h]
    simp [hc]
theorem q_T_br {md d : Nat} {P : q_P} {nx t e : Nat} {ops : List Instr} {ls st ls' st' : List q_V} {g g' : q_G} {M M' : q_M} {Q : Option q_V → q_G → q_M → Prop} {c : Prop} [Decidable c]
    (h : q_step md P (nx, ops, ls, st, g, M) = q_go (if c then t else e) [] ls' st' g' M') : q_T md d P nx ops ls st g M Q = ((c → q_T md d P t [] ls' st' g' M' Q) ∧ (¬ c → q_T md d P e [] ls' st' g' M' Q)) := by
  by_cases hc : c
  · rw [if_pos hc] at h
    rw [q_T_next h]
    simp [hc]
  · rw [if_neg hc] at h
    rw [q_T_next h]
    simp [hc]
theorem q_T_ret {md d : Nat} {P : q_P} {nx : Nat} {ops : List Instr} {ls st : List q_V} {g : q_G} {M : q_M} {Q : Option q_V → q_G → q_M → Prop} {v : Option q_V}
    (h : q_step md P (nx, ops, ls, st, g, M) = q_rt v) : q_T md d P nx ops ls st g M Q = Q v g M := by
  apply propext
  constructor
  · rintro ⟨f, r, h1, h2⟩
    cases f with
    | zero => rw [q_run] at h1; cases h1
    | succ f =>
      rw [q_run, h] at h1
      simp only [q_rt, Option.some.injEq] at h1
      subst h1
      exact h2
  · intro hq
    exact ⟨1, (v, g, M), by rw [q_run, h]; rfl, hq⟩
theorem q_T_retif {md d : Nat} {P : q_P} {nx : Nat} {ops : List Instr} {ls st : List q_V} {g : q_G} {M : q_M} {Q : Option q_V → q_G → q_M → Prop} {v : Option q_V} {c : Prop} [Decidable c]
    (h : q_step md P (nx, ops, ls, st, g, M) = if c then q_rt v else none) : q_T md d P nx ops ls st g M Q = (c ∧ Q v g M) := by
  by_cases hc : c
  · rw [if_pos hc] at h
    rw [q_T_ret h]
    simp [hc]
  · rw [if_neg hc] at h
    rw [q_T_stuck h]
    simp [hc]
theorem q_T_call {md d : Nat} {P : q_P} {nx nx' id : Nat} {ops ops' : List Instr} {ls st ls' st' as : List q_V} {g g' : q_G} {M M' : q_M} {Q : Option q_V → q_G → q_M → Prop}
    (h : q_step md P (nx, ops, ls, st, g, M) = some (.inr (.inr (id, as, (nx', ops', ls', st', g', M'))))) : q_T md (d + 1) P nx ops ls st g M Q = q_S md d id as g' M' (q_K md (d + 1) P nx' ops' ls' st' Q) := by
  apply propext
  constructor
  · rintro ⟨f, r, h1, h2⟩
    cases f with
    | zero => rw [q_run] at h1; cases h1
    | succ f =>
      rw [q_run, h] at h1
      simp only at h1
      split at h1
      · cases h1
      · next v g2 M2 hr => exact ⟨f, (v, g2, M2), hr, f, r, h1, h2⟩
  · rintro ⟨f, ⟨v, g2, M2⟩, h1, f2, r, h2, h3⟩
    refine ⟨f + f2 + 1, r, ?_, h3⟩
    rw [q_run, h]
    simp only
    rw [q_run_le h1 (Nat.le_add_right f f2)]
    exact q_run_le h2 (Nat.le_add_left f2 f)
theorem q_T_mono {md d : Nat} {P : q_P} {nx : Nat} {ops : List Instr} {ls st : List q_V} {g : q_G} {M : q_M} {Q Q' : Option q_V → q_G → q_M → Prop}
    (h : q_T md d P nx ops ls st g M Q) (hq : ∀ v g M, Q v g M → Q' v g M) : q_T md d P nx ops ls st g M Q' := by
  obtain ⟨f, r, h1, h2⟩ := h
  exact ⟨f, r, h1, hq _ _ _ h2⟩
theorem q_S_mono {md d id : Nat} {as : List q_V} {g : q_G} {M : q_M} {Q Q' : Option q_V → q_G → q_M → Prop}
    (h : q_S md d id as g M Q) (hq : ∀ v g M, Q v g M → Q' v g M) : q_S md d id as g M Q' := q_T_mono h hq
theorem x_K {md d : Nat} {P : q_P} {nx : Nat} {ops : List Instr} {ls st : List q_V} {Q : Option q_V → q_G → q_M → Prop} {v : q_V} {g : q_G} {M : q_M} : q_K md d P nx ops ls st Q (some v) g M = q_T md d P nx ops ls (v :: st) g M Q := rfl
theorem x_Kn {md d : Nat} {P : q_P} {nx : Nat} {ops : List Instr} {ls st : List q_V} {Q : Option q_V → q_G → q_M → Prop} {g : q_G} {M : q_M} : q_K md d P nx ops ls st Q none g M = q_T md d P nx ops ls st g M Q := rfl
end
section
/-! SYMBOLIC EXECUTION: one equation an opcode -/
section OPS
variable {md d : Nat} {P : q_P} {nx : Nat} {ops : List Instr} {ls st : List q_V} {g : q_G} {M : q_M} {Q : Option q_V → q_G → q_M → Prop}
theorem q_T_ifb {st0 : List q_V} {c : Prop} [Decidable c] {nx' : Nat} {ops' : List Instr} {g' : q_G} {M' : q_M} {ls' : List q_V}
    (h : q_step md P (nx, ops, ls, st, g, M) = (if c then some ls' else none).bind fun l => q_go nx' ops' l st0 g' M') : q_T md d P nx ops ls st g M Q = (c ∧ q_T md d P nx' ops' ls' st0 g' M' Q) := by
  by_cases hc : c
  · rw [if_pos hc] at h
    rw [q_T_next (h.trans rfl)]
    simp [hc]
  · rw [if_neg hc] at h
    rw [q_T_stuck (h.trans rfl)]
    simp [hc]
theorem x_iincG {k : Nat} {n x : Int} (h : ls.getD k (qS 0) = qI x) : q_T md d P nx (.iinc k n :: ops) ls st g M Q = ((decide (k < ls.length) && !q_isL (ls.getD (k - 1) (qS 0)) && q_c1 (qI (q_add x n))) = true ∧ q_T md d P nx ops (ls.set k (qI (q_add x n))) st g M Q) := q_T_ifb (by
  show q_ii [ls.getD k (qS 0)] _ = _
  rw [h]
  rfl)
theorem q_T_ifT {nx' : Nat} {ops' : List Instr} {ls' st' : List q_V} {g' : q_G} {M' : q_M} {c : Prop} [Decidable c] (hc : c)
    (h : q_step md P (nx, ops, ls, st, g, M) = if c then q_go nx' ops' ls' st' g' M' else none) : q_T md d P nx ops ls st g M Q = q_T md d P nx' ops' ls' st' g' M' Q := q_T_next (h.trans (if_pos hc))
theorem q_T_retT {v : Option q_V} {c : Prop} [Decidable c] (hc : c) (h : q_step md P (nx, ops, ls, st, g, M) = if c then q_rt v else none) : q_T md d P nx ops ls st g M Q = Q v g M := q_T_ret (h.trans (if_pos hc))
theorem x_astoreG {k kk aa : Nat} : q_T md d P nx (.astore k :: ops) ls (qR kk aa :: st) g M Q = ((decide (k < ls.length) && !q_isL (ls.getD (k - 1) (qS 0)) && q_c1 (qR kk aa)) = true ∧ q_T md d P nx ops (ls.set k (qR kk aa)) st g M Q) := q_T_ifb (by
  show (if q_isRf (qR kk aa) = true then (q_st1 ls k (qR kk aa)).bind (fun ls => q_go nx ops ls st g M) else none) = _
  rw [if_pos (show q_isRf (qR kk aa) = true from rfl)]
  rfl)
theorem x_iconst {v : Int} : q_T md d P nx (.iconst v :: ops) ls st g M Q = q_T md d P nx ops ls (qI v :: st) g M Q := q_T_next rfl
theorem x_lconst {v : Int} : q_T md d P nx (.jsr v :: ops) ls st g M Q = q_T md d P nx ops ls (qL v :: st) g M Q := q_T_next rfl
theorem x_ldc {v : Nat} : q_T md d P nx (.ldc v :: ops) ls st g M Q = q_T md d P nx ops ls (qS (16 + v) :: st) g M Q := q_T_next rfl
theorem q_c1_I {x : Int} : q_c1 (qI x) = true := rfl
theorem q_c1_R {k a : Nat} : q_c1 (qR k a) = true := rfl
theorem q_isL_I {x : Int} : q_isL (qI x) = false := rfl
theorem q_isL_R {k a : Nat} : q_isL (qR k a) = false := rfl
theorem q_isL_S {t : Nat} : q_isL (qS t) = false := rfl
theorem x_loadI_0 {l : List q_V} {x : Int} : q_T md d P nx (.iload 0 :: ops) ((qI x) :: l) st g M Q = q_T md d P nx ops ((qI x) :: l) ((qI x) :: st) g M Q := q_T_next rfl
theorem x_loadL_0 {l : List q_V} {x : Int} : q_T md d P nx (.lload 0 :: ops) ((qL x) :: l) st g M Q = q_T md d P nx ops ((qL x) :: l) ((qL x) :: st) g M Q := q_T_next rfl
theorem x_loadR_0 {l : List q_V} {kk aa : Nat} : q_T md d P nx (.aload 0 :: ops) ((qR kk aa) :: l) st g M Q = q_T md d P nx ops ((qR kk aa) :: l) ((qR kk aa) :: st) g M Q := q_T_next rfl
theorem x_loadS_0 {l : List q_V} {t : Nat} : q_T md d P nx (.aload 0 :: ops) ((qS (16 + t)) :: l) st g M Q = q_T md d P nx ops ((qS (16 + t)) :: l) (qS (16 + t) :: st) g M Q := q_T_next (if_pos (by simp [q_isRf, qS, List.getD]))
theorem x_loadI_1 {a0 : q_V} {l : List q_V} {x : Int} : q_T md d P nx (.iload 1 :: ops) (a0 :: (qI x) :: l) st g M Q = q_T md d P nx ops (a0 :: (qI x) :: l) ((qI x) :: st) g M Q := q_T_next rfl
theorem x_loadR_1 {a0 : q_V} {l : List q_V} {kk aa : Nat} : q_T md d P nx (.aload 1 :: ops) (a0 :: (qR kk aa) :: l) st g M Q = q_T md d P nx ops (a0 :: (qR kk aa) :: l) ((qR kk aa) :: st) g M Q := q_T_next rfl
theorem x_loadS_1 {a0 : q_V} {l : List q_V} {t : Nat} : q_T md d P nx (.aload 1 :: ops) (a0 :: (qS (16 + t)) :: l) st g M Q = q_T md d P nx ops (a0 :: (qS (16 + t)) :: l) (qS (16 + t) :: st) g M Q := q_T_next (if_pos (by simp [q_isRf, qS, List.getD]))
theorem x_storeI_1 {a0 a1 : q_V} {l : List q_V} {x : Int} : q_T md d P nx (.istore 1 :: ops) (a0 :: a1 :: l) ((qI x) :: st) g M Q = (q_isL a0 = false ∧ q_T md d P nx ops (a0 :: (qI x) :: l) st g M Q) := (q_T_ifb rfl).trans (by simp [q_c1, qI, qR, List.getD])
theorem x_iinc_1 {a0 : q_V} {l : List q_V} {x n : Int} : q_T md d P nx (.iinc 1 n :: ops) (a0 :: qI x :: l) st g M Q = (q_isL a0 = false ∧ q_T md d P nx ops (a0 :: qI (q_add x n) :: l) st g M Q) := (x_iincG (k := 1) rfl).trans (by simp [q_c1_I, List.getD])
theorem x_loadI_2 {a0 a1 : q_V} {l : List q_V} {x : Int} : q_T md d P nx (.iload 2 :: ops) (a0 :: a1 :: (qI x) :: l) st g M Q = q_T md d P nx ops (a0 :: a1 :: (qI x) :: l) ((qI x) :: st) g M Q := q_T_next rfl
theorem x_loadL_2 {a0 a1 : q_V} {l : List q_V} {x : Int} : q_T md d P nx (.lload 2 :: ops) (a0 :: a1 :: (qL x) :: l) st g M Q = q_T md d P nx ops (a0 :: a1 :: (qL x) :: l) ((qL x) :: st) g M Q := q_T_next rfl
theorem x_loadR_2 {a0 a1 : q_V} {l : List q_V} {kk aa : Nat} : q_T md d P nx (.aload 2 :: ops) (a0 :: a1 :: (qR kk aa) :: l) st g M Q = q_T md d P nx ops (a0 :: a1 :: (qR kk aa) :: l) ((qR kk aa) :: st) g M Q := q_T_next rfl
theorem x_loadS_2 {a0 a1 : q_V} {l : List q_V} {t : Nat} : q_T md d P nx (.aload 2 :: ops) (a0 :: a1 :: (qS (16 + t)) :: l) st g M Q = q_T md d P nx ops (a0 :: a1 :: (qS (16 + t)) :: l) (qS (16 + t) :: st) g M Q := q_T_next (if_pos (by simp [q_isRf, qS, List.getD]))
theorem x_storeI_2 {a0 a1 a2 : q_V} {l : List q_V} {x : Int} : q_T md d P nx (.istore 2 :: ops) (a0 :: a1 :: a2 :: l) ((qI x) :: st) g M Q = (q_isL a1 = false ∧ q_T md d P nx ops (a0 :: a1 :: (qI x) :: l) st g M Q) := (q_T_ifb rfl).trans (by simp [q_c1, qI, qR, List.getD])
theorem x_storeR_2 {a0 a1 a2 : q_V} {l : List q_V} {kk aa : Nat} : q_T md d P nx (.astore 2 :: ops) (a0 :: a1 :: a2 :: l) ((qR kk aa) :: st) g M Q = (q_isL a1 = false ∧ q_T md d P nx ops (a0 :: a1 :: (qR kk aa) :: l) st g M Q) := x_astoreG.trans (by simp [q_c1_R, List.getD])
theorem x_storeL_2 {a0 a1 a2 a3 : q_V} {l : List q_V} {x : Int} : q_T md d P nx (.lstore 2 :: ops) (a0 :: a1 :: a2 :: a3 :: l) (qL x :: st) g M Q = (q_isL a1 = false ∧ q_T md d P nx ops (a0 :: a1 :: qL x :: qS 0 :: l) st g M Q) := (q_T_ifb rfl).trans (by simp [q_isL, qL, List.getD])
theorem x_iinc_2 {a0 a1 : q_V} {l : List q_V} {x n : Int} : q_T md d P nx (.iinc 2 n :: ops) (a0 :: a1 :: qI x :: l) st g M Q = (q_isL a1 = false ∧ q_T md d P nx ops (a0 :: a1 :: qI (q_add x n) :: l) st g M Q) := (x_iincG (k := 2) rfl).trans (by simp [q_c1_I, List.getD])
theorem x_loadI_3 {a0 a1 a2 : q_V} {l : List q_V} {x : Int} : q_T md d P nx (.iload 3 :: ops) (a0 :: a1 :: a2 :: (qI x) :: l) st g M Q = q_T md d P nx ops (a0 :: a1 :: a2 :: (qI x) :: l) ((qI x) :: st) g M Q := q_T_next rfl
theorem x_loadR_3 {a0 a1 a2 : q_V} {l : List q_V} {kk aa : Nat} : q_T md d P nx (.aload 3 :: ops) (a0 :: a1 :: a2 :: (qR kk aa) :: l) st g M Q = q_T md d P nx ops (a0 :: a1 :: a2 :: (qR kk aa) :: l) ((qR kk aa) :: st) g M Q := q_T_next rfl
theorem x_loadS_3 {a0 a1 a2 : q_V} {l : List q_V} {t : Nat} : q_T md d P nx (.aload 3 :: ops) (a0 :: a1 :: a2 :: (qS (16 + t)) :: l) st g M Q = q_T md d P nx ops (a0 :: a1 :: a2 :: (qS (16 + t)) :: l) (qS (16 + t) :: st) g M Q := q_T_next (if_pos (by simp [q_isRf, qS, List.getD]))
theorem x_storeI_3 {a0 a1 a2 a3 : q_V} {l : List q_V} {x : Int} : q_T md d P nx (.istore 3 :: ops) (a0 :: a1 :: a2 :: a3 :: l) ((qI x) :: st) g M Q = (q_isL a2 = false ∧ q_T md d P nx ops (a0 :: a1 :: a2 :: (qI x) :: l) st g M Q) := (q_T_ifb rfl).trans (by simp [q_c1, qI, qR, List.getD])
theorem x_storeR_3 {a0 a1 a2 a3 : q_V} {l : List q_V} {kk aa : Nat} : q_T md d P nx (.astore 3 :: ops) (a0 :: a1 :: a2 :: a3 :: l) ((qR kk aa) :: st) g M Q = (q_isL a2 = false ∧ q_T md d P nx ops (a0 :: a1 :: a2 :: (qR kk aa) :: l) st g M Q) := x_astoreG.trans (by simp [q_c1_R, List.getD])
theorem x_iinc_3 {a0 a1 a2 : q_V} {l : List q_V} {x n : Int} : q_T md d P nx (.iinc 3 n :: ops) (a0 :: a1 :: a2 :: qI x :: l) st g M Q = (q_isL a2 = false ∧ q_T md d P nx ops (a0 :: a1 :: a2 :: qI (q_add x n) :: l) st g M Q) := (x_iincG (k := 3) rfl).trans (by simp [q_c1_I, List.getD])
theorem x_loadI_4 {a0 a1 a2 a3 : q_V} {l : List q_V} {x : Int} : q_T md d P nx (.iload 4 :: ops) (a0 :: a1 :: a2 :: a3 :: (qI x) :: l) st g M Q = q_T md d P nx ops (a0 :: a1 :: a2 :: a3 :: (qI x) :: l) ((qI x) :: st) g M Q := q_T_next rfl
theorem x_storeI_4 {a0 a1 a2 a3 a4 : q_V} {l : List q_V} {x : Int} : q_T md d P nx (.istore 4 :: ops) (a0 :: a1 :: a2 :: a3 :: a4 :: l) ((qI x) :: st) g M Q = (q_isL a3 = false ∧ q_T md d P nx ops (a0 :: a1 :: a2 :: a3 :: (qI x) :: l) st g M Q) := (q_T_ifb rfl).trans (by simp [q_c1, qI, qR, List.getD])
theorem x_iinc_4 {a0 a1 a2 a3 : q_V} {l : List q_V} {x n : Int} : q_T md d P nx (.iinc 4 n :: ops) (a0 :: a1 :: a2 :: a3 :: qI x :: l) st g M Q = (q_isL a3 = false ∧ q_T md d P nx ops (a0 :: a1 :: a2 :: a3 :: qI (q_add x n) :: l) st g M Q) := (x_iincG (k := 4) rfl).trans (by simp [q_c1_I, List.getD])
theorem x_loadI_5 {a0 a1 a2 a3 a4 : q_V} {l : List q_V} {x : Int} : q_T md d P nx (.iload 5 :: ops) (a0 :: a1 :: a2 :: a3 :: a4 :: (qI x) :: l) st g M Q = q_T md d P nx ops (a0 :: a1 :: a2 :: a3 :: a4 :: (qI x) :: l) ((qI x) :: st) g M Q := q_T_next rfl
theorem x_loadL_5 {a0 a1 a2 a3 a4 : q_V} {l : List q_V} {x : Int} : q_T md d P nx (.lload 5 :: ops) (a0 :: a1 :: a2 :: a3 :: a4 :: (qL x) :: l) st g M Q = q_T md d P nx ops (a0 :: a1 :: a2 :: a3 :: a4 :: (qL x) :: l) ((qL x) :: st) g M Q := q_T_next rfl
theorem x_loadR_5 {a0 a1 a2 a3 a4 : q_V} {l : List q_V} {kk aa : Nat} : q_T md d P nx (.aload 5 :: ops) (a0 :: a1 :: a2 :: a3 :: a4 :: (qR kk aa) :: l) st g M Q = q_T md d P nx ops (a0 :: a1 :: a2 :: a3 :: a4 :: (qR kk aa) :: l) ((qR kk aa) :: st) g M Q := q_T_next rfl
theorem x_loadS_5 {a0 a1 a2 a3 a4 : q_V} {l : List q_V} {t : Nat} : q_T md d P nx (.aload 5 :: ops) (a0 :: a1 :: a2 :: a3 :: a4 :: (qS (16 + t)) :: l) st g M Q = q_T md d P nx ops (a0 :: a1 :: a2 :: a3 :: a4 :: (qS (16 + t)) :: l) (qS (16 + t) :: st) g M Q := q_T_next (if_pos (by simp [q_isRf, qS, List.getD]))
theorem x_storeI_5 {a0 a1 a2 a3 a4 a5 : q_V} {l : List q_V} {x : Int} : q_T md d P nx (.istore 5 :: ops) (a0 :: a1 :: a2 :: a3 :: a4 :: a5 :: l) ((qI x) :: st) g M Q = (q_isL a4 = false ∧ q_T md d P nx ops (a0 :: a1 :: a2 :: a3 :: a4 :: (qI x) :: l) st g M Q) := (q_T_ifb rfl).trans (by simp [q_c1, qI, qR, List.getD])
theorem x_storeR_5 {a0 a1 a2 a3 a4 a5 : q_V} {l : List q_V} {kk aa : Nat} : q_T md d P nx (.astore 5 :: ops) (a0 :: a1 :: a2 :: a3 :: a4 :: a5 :: l) ((qR kk aa) :: st) g M Q = (q_isL a4 = false ∧ q_T md d P nx ops (a0 :: a1 :: a2 :: a3 :: a4 :: (qR kk aa) :: l) st g M Q) := x_astoreG.trans (by simp [q_c1_R, List.getD])
theorem x_storeL_5 {a0 a1 a2 a3 a4 a5 a6 : q_V} {l : List q_V} {x : Int} : q_T md d P nx (.lstore 5 :: ops) (a0 :: a1 :: a2 :: a3 :: a4 :: a5 :: a6 :: l) (qL x :: st) g M Q = (q_isL a4 = false ∧ q_T md d P nx ops (a0 :: a1 :: a2 :: a3 :: a4 :: qL x :: qS 0 :: l) st g M Q) := (q_T_ifb rfl).trans (by simp [q_isL, qL, List.getD])
theorem x_iinc_5 {a0 a1 a2 a3 a4 : q_V} {l : List q_V} {x n : Int} : q_T md d P nx (.iinc 5 n :: ops) (a0 :: a1 :: a2 :: a3 :: a4 :: qI x :: l) st g M Q = (q_isL a4 = false ∧ q_T md d P nx ops (a0 :: a1 :: a2 :: a3 :: a4 :: qI (q_add x n) :: l) st g M Q) := (x_iincG (k := 5) rfl).trans (by simp [q_c1_I, List.getD])
theorem x_loadI_6 {a0 a1 a2 a3 a4 a5 : q_V} {l : List q_V} {x : Int} : q_T md d P nx (.iload 6 :: ops) (a0 :: a1 :: a2 :: a3 :: a4 :: a5 :: (qI x) :: l) st g M Q = q_T md d P nx ops (a0 :: a1 :: a2 :: a3 :: a4 :: a5 :: (qI x) :: l) ((qI x) :: st) g M Q := q_T_next rfl
theorem x_loadR_6 {a0 a1 a2 a3 a4 a5 : q_V} {l : List q_V} {kk aa : Nat} : q_T md d P nx (.aload 6 :: ops) (a0 :: a1 :: a2 :: a3 :: a4 :: a5 :: (qR kk aa) :: l) st g M Q = q_T md d P nx ops (a0 :: a1 :: a2 :: a3 :: a4 :: a5 :: (qR kk aa) :: l) ((qR kk aa) :: st) g M Q := q_T_next rfl
theorem x_loadS_6 {a0 a1 a2 a3 a4 a5 : q_V} {l : List q_V} {t : Nat} : q_T md d P nx (.aload 6 :: ops) (a0 :: a1 :: a2 :: a3 :: a4 :: a5 :: (qS (16 + t)) :: l) st g M Q = q_T md d P nx ops (a0 :: a1 :: a2 :: a3 :: a4 :: a5 :: (qS (16 + t)) :: l) (qS (16 + t) :: st) g M Q := q_T_next (if_pos (by simp [q_isRf, qS, List.getD]))
theorem x_storeI_6 {a0 a1 a2 a3 a4 a5 a6 : q_V} {l : List q_V} {x : Int} : q_T md d P nx (.istore 6 :: ops) (a0 :: a1 :: a2 :: a3 :: a4 :: a5 :: a6 :: l) ((qI x) :: st) g M Q = (q_isL a5 = false ∧ q_T md d P nx ops (a0 :: a1 :: a2 :: a3 :: a4 :: a5 :: (qI x) :: l) st g M Q) := (q_T_ifb rfl).trans (by simp [q_c1, qI, qR, List.getD])
theorem x_storeR_6 {a0 a1 a2 a3 a4 a5 a6 : q_V} {l : List q_V} {kk aa : Nat} : q_T md d P nx (.astore 6 :: ops) (a0 :: a1 :: a2 :: a3 :: a4 :: a5 :: a6 :: l) ((qR kk aa) :: st) g M Q = (q_isL a5 = false ∧ q_T md d P nx ops (a0 :: a1 :: a2 :: a3 :: a4 :: a5 :: (qR kk aa) :: l) st g M Q) := x_astoreG.trans (by simp [q_c1_R, List.getD])
theorem x_iinc_6 {a0 a1 a2 a3 a4 a5 : q_V} {l : List q_V} {x n : Int} : q_T md d P nx (.iinc 6 n :: ops) (a0 :: a1 :: a2 :: a3 :: a4 :: a5 :: qI x :: l) st g M Q = (q_isL a5 = false ∧ q_T md d P nx ops (a0 :: a1 :: a2 :: a3 :: a4 :: a5 :: qI (q_add x n) :: l) st g M Q) := (x_iincG (k := 6) rfl).trans (by simp [q_c1_I, List.getD])
theorem x_loadI_7 {a0 a1 a2 a3 a4 a5 a6 : q_V} {l : List q_V} {x : Int} : q_T md d P nx (.iload 7 :: ops) (a0 :: a1 :: a2 :: a3 :: a4 :: a5 :: a6 :: (qI x) :: l) st g M Q = q_T md d P nx ops (a0 :: a1 :: a2 :: a3 :: a4 :: a5 :: a6 :: (qI x) :: l) ((qI x) :: st) g M Q := q_T_next rfl
theorem x_loadL_7 {a0 a1 a2 a3 a4 a5 a6 : q_V} {l : List q_V} {x : Int} : q_T md d P nx (.lload 7 :: ops) (a0 :: a1 :: a2 :: a3 :: a4 :: a5 :: a6 :: (qL x) :: l) st g M Q = q_T md d P nx ops (a0 :: a1 :: a2 :: a3 :: a4 :: a5 :: a6 :: (qL x) :: l) ((qL x) :: st) g M Q := q_T_next rfl
theorem x_loadR_7 {a0 a1 a2 a3 a4 a5 a6 : q_V} {l : List q_V} {kk aa : Nat} : q_T md d P nx (.aload 7 :: ops) (a0 :: a1 :: a2 :: a3 :: a4 :: a5 :: a6 :: (qR kk aa) :: l) st g M Q = q_T md d P nx ops (a0 :: a1 :: a2 :: a3 :: a4 :: a5 :: a6 :: (qR kk aa) :: l) ((qR kk aa) :: st) g M Q := q_T_next rfl
theorem x_loadS_7 {a0 a1 a2 a3 a4 a5 a6 : q_V} {l : List q_V} {t : Nat} : q_T md d P nx (.aload 7 :: ops) (a0 :: a1 :: a2 :: a3 :: a4 :: a5 :: a6 :: (qS (16 + t)) :: l) st g M Q = q_T md d P nx ops (a0 :: a1 :: a2 :: a3 :: a4 :: a5 :: a6 :: (qS (16 + t)) :: l) (qS (16 + t) :: st) g M Q := q_T_next (if_pos (by simp [q_isRf, qS, List.getD]))
theorem x_storeI_7 {a0 a1 a2 a3 a4 a5 a6 a7 : q_V} {l : List q_V} {x : Int} : q_T md d P nx (.istore 7 :: ops) (a0 :: a1 :: a2 :: a3 :: a4 :: a5 :: a6 :: a7 :: l) ((qI x) :: st) g M Q = (q_isL a6 = false ∧ q_T md d P nx ops (a0 :: a1 :: a2 :: a3 :: a4 :: a5 :: a6 :: (qI x) :: l) st g M Q) := (q_T_ifb rfl).trans (by simp [q_c1, qI, qR, List.getD])
theorem x_storeR_7 {a0 a1 a2 a3 a4 a5 a6 a7 : q_V} {l : List q_V} {kk aa : Nat} : q_T md d P nx (.astore 7 :: ops) (a0 :: a1 :: a2 :: a3 :: a4 :: a5 :: a6 :: a7 :: l) ((qR kk aa) :: st) g M Q = (q_isL a6 = false ∧ q_T md d P nx ops (a0 :: a1 :: a2 :: a3 :: a4 :: a5 :: a6 :: (qR kk aa) :: l) st g M Q) := x_astoreG.trans (by simp [q_c1_R, List.getD])
theorem x_storeL_7 {a0 a1 a2 a3 a4 a5 a6 a7 a8 : q_V} {l : List q_V} {x : Int} : q_T md d P nx (.lstore 7 :: ops) (a0 :: a1 :: a2 :: a3 :: a4 :: a5 :: a6 :: a7 :: a8 :: l) (qL x :: st) g M Q = (q_isL a6 = false ∧ q_T md d P nx ops (a0 :: a1 :: a2 :: a3 :: a4 :: a5 :: a6 :: qL x :: qS 0 :: l) st g M Q) := (q_T_ifb rfl).trans (by simp [q_isL, qL, List.getD])
theorem x_iinc_7 {a0 a1 a2 a3 a4 a5 a6 : q_V} {l : List q_V} {x n : Int} : q_T md d P nx (.iinc 7 n :: ops) (a0 :: a1 :: a2 :: a3 :: a4 :: a5 :: a6 :: qI x :: l) st g M Q = (q_isL a6 = false ∧ q_T md d P nx ops (a0 :: a1 :: a2 :: a3 :: a4 :: a5 :: a6 :: qI (q_add x n) :: l) st g M Q) := (x_iincG (k := 7) rfl).trans (by simp [q_c1_I, List.getD])
theorem x_loadI_8 {a0 a1 a2 a3 a4 a5 a6 a7 : q_V} {l : List q_V} {x : Int} : q_T md d P nx (.iload 8 :: ops) (a0 :: a1 :: a2 :: a3 :: a4 :: a5 :: a6 :: a7 :: (qI x) :: l) st g M Q = q_T md d P nx ops (a0 :: a1 :: a2 :: a3 :: a4 :: a5 :: a6 :: a7 :: (qI x) :: l) ((qI x) :: st) g M Q := q_T_next rfl
theorem x_storeI_8 {a0 a1 a2 a3 a4 a5 a6 a7 a8 : q_V} {l : List q_V} {x : Int} : q_T md d P nx (.istore 8 :: ops) (a0 :: a1 :: a2 :: a3 :: a4 :: a5 :: a6 :: a7 :: a8 :: l) ((qI x) :: st) g M Q = (q_isL a7 = false ∧ q_T md d P nx ops (a0 :: a1 :: a2 :: a3 :: a4 :: a5 :: a6 :: a7 :: (qI x) :: l) st g M Q) := (q_T_ifb rfl).trans (by simp [q_c1, qI, qR, List.getD])
theorem x_iinc_8 {a0 a1 a2 a3 a4 a5 a6 a7 : q_V} {l : List q_V} {x n : Int} : q_T md d P nx (.iinc 8 n :: ops) (a0 :: a1 :: a2 :: a3 :: a4 :: a5 :: a6 :: a7 :: qI x :: l) st g M Q = (q_isL a7 = false ∧ q_T md d P nx ops (a0 :: a1 :: a2 :: a3 :: a4 :: a5 :: a6 :: a7 :: qI (q_add x n) :: l) st g M Q) := (x_iincG (k := 8) rfl).trans (by simp [q_c1_I, List.getD])
theorem x_loadI_9 {a0 a1 a2 a3 a4 a5 a6 a7 a8 : q_V} {l : List q_V} {x : Int} : q_T md d P nx (.iload 9 :: ops) (a0 :: a1 :: a2 :: a3 :: a4 :: a5 :: a6 :: a7 :: a8 :: (qI x) :: l) st g M Q = q_T md d P nx ops (a0 :: a1 :: a2 :: a3 :: a4 :: a5 :: a6 :: a7 :: a8 :: (qI x) :: l) ((qI x) :: st) g M Q := q_T_next rfl
theorem x_loadL_9 {a0 a1 a2 a3 a4 a5 a6 a7 a8 : q_V} {l : List q_V} {x : Int} : q_T md d P nx (.lload 9 :: ops) (a0 :: a1 :: a2 :: a3 :: a4 :: a5 :: a6 :: a7 :: a8 :: (qL x) :: l) st g M Q = q_T md d P nx ops (a0 :: a1 :: a2 :: a3 :: a4 :: a5 :: a6 :: a7 :: a8 :: (qL x) :: l) ((qL x) :: st) g M Q := q_T_next rfl
theorem x_storeI_9 {a0 a1 a2 a3 a4 a5 a6 a7 a8 a9 : q_V} {l : List q_V} {x : Int} : q_T md d P nx (.istore 9 :: ops) (a0 :: a1 :: a2 :: a3 :: a4 :: a5 :: a6 :: a7 :: a8 :: a9 :: l) ((qI x) :: st) g M Q = (q_isL a8 = false ∧ q_T md d P nx ops (a0 :: a1 :: a2 :: a3 :: a4 :: a5 :: a6 :: a7 :: a8 :: (qI x) :: l) st g M Q) := (q_T_ifb rfl).trans (by simp [q_c1, qI, qR, List.getD])
theorem x_storeL_9 {a0 a1 a2 a3 a4 a5 a6 a7 a8 a9 a10 : q_V} {l : List q_V} {x : Int} : q_T md d P nx (.lstore 9 :: ops) (a0 :: a1 :: a2 :: a3 :: a4 :: a5 :: a6 :: a7 :: a8 :: a9 :: a10 :: l) (qL x :: st) g M Q = (q_isL a8 = false ∧ q_T md d P nx ops (a0 :: a1 :: a2 :: a3 :: a4 :: a5 :: a6 :: a7 :: a8 :: qL x :: qS 0 :: l) st g M Q) := (q_T_ifb rfl).trans (by simp [q_isL, qL, List.getD])
theorem x_iinc_9 {a0 a1 a2 a3 a4 a5 a6 a7 a8 : q_V} {l : List q_V} {x n : Int} : q_T md d P nx (.iinc 9 n :: ops) (a0 :: a1 :: a2 :: a3 :: a4 :: a5 :: a6 :: a7 :: a8 :: qI x :: l) st g M Q = (q_isL a8 = false ∧ q_T md d P nx ops (a0 :: a1 :: a2 :: a3 :: a4 :: a5 :: a6 :: a7 :: a8 :: qI (q_add x n) :: l) st g M Q) := (x_iincG (k := 9) rfl).trans (by simp [q_c1_I, List.getD])
theorem x_loadI_10 {a0 a1 a2 a3 a4 a5 a6 a7 a8 a9 : q_V} {l : List q_V} {x : Int} : q_T md d P nx (.iload 10 :: ops) (a0 :: a1 :: a2 :: a3 :: a4 :: a5 :: a6 :: a7 :: a8 :: a9 :: (qI x) :: l) st g M Q = q_T md d P nx ops (a0 :: a1 :: a2 :: a3 :: a4 :: a5 :: a6 :: a7 :: a8 :: a9 :: (qI x) :: l) ((qI x) :: st) g M Q := q_T_next rfl
theorem x_storeI_10 {a0 a1 a2 a3 a4 a5 a6 a7 a8 a9 a10 : q_V} {l : List q_V} {x : Int} : q_T md d P nx (.istore 10 :: ops) (a0 :: a1 :: a2 :: a3 :: a4 :: a5 :: a6 :: a7 :: a8 :: a9 :: a10 :: l) ((qI x) :: st) g M Q = (q_isL a9 = false ∧ q_T md d P nx ops (a0 :: a1 :: a2 :: a3 :: a4 :: a5 :: a6 :: a7 :: a8 :: a9 :: (qI x) :: l) st g M Q) := (q_T_ifb rfl).trans (by simp [q_c1, qI, qR, List.getD])
theorem x_popI {x : Int} : q_T md d P nx (.pop :: ops) ls (qI x :: st) g M Q = q_T md d P nx ops ls st g M Q := q_T_next rfl
theorem x_dupI {x : Int} : q_T md d P nx (.dup :: ops) ls (qI x :: st) g M Q = q_T md d P nx ops ls (qI x :: qI x :: st) g M Q := q_T_next rfl
theorem x_popR {kk aa : Nat} : q_T md d P nx (.pop :: ops) ls (qR kk aa :: st) g M Q = q_T md d P nx ops ls st g M Q := q_T_next rfl
theorem x_dupR {kk aa : Nat} : q_T md d P nx (.dup :: ops) ls (qR kk aa :: st) g M Q = q_T md d P nx ops ls (qR kk aa :: qR kk aa :: st) g M Q := q_T_next rfl
theorem x_pop2 {x : Int} : q_T md d P nx (.pop2 :: ops) ls (qL x :: st) g M Q = q_T md d P nx ops ls st g M Q := q_T_next rfl
theorem x_dup2 {kk aa : Nat} {j : Int} : q_T md d P nx (.dup2 :: ops) ls (qI j :: qR kk aa :: st) g M Q = q_T md d P nx ops ls (qI j :: qR kk aa :: qI j :: qR kk aa :: st) g M Q := q_T_next rfl
theorem x_iadd {x y : Int} : q_T md d P nx (.iadd :: ops) ls (qI y :: qI x :: st) g M Q = q_T md d P nx ops ls (qI (q_add x y) :: st) g M Q := q_T_next rfl
theorem x_isub {x y : Int} : q_T md d P nx (.isub :: ops) ls (qI y :: qI x :: st) g M Q = q_T md d P nx ops ls (qI (q_sub x y) :: st) g M Q := q_T_next rfl
theorem x_imul {x y : Int} : q_T md d P nx (.imul :: ops) ls (qI y :: qI x :: st) g M Q = q_T md d P nx ops ls (qI (q_mul x y) :: st) g M Q := q_T_next rfl
theorem x_iand {x y : Int} : q_T md d P nx (.iand :: ops) ls (qI y :: qI x :: st) g M Q = q_T md d P nx ops ls (qI (q_and x y) :: st) g M Q := q_T_next rfl
theorem x_ior {x y : Int} : q_T md d P nx (.ior :: ops) ls (qI y :: qI x :: st) g M Q = q_T md d P nx ops ls (qI (q_or x y) :: st) g M Q := q_T_next rfl
theorem x_ishl {x y : Int} : q_T md d P nx (.ishl :: ops) ls (qI y :: qI x :: st) g M Q = q_T md d P nx ops ls (qI (q_shl x y) :: st) g M Q := q_T_next rfl
theorem x_ishr {x y : Int} : q_T md d P nx (.ishr :: ops) ls (qI y :: qI x :: st) g M Q = q_T md d P nx ops ls (qI (q_shr x y) :: st) g M Q := q_T_next rfl
theorem x_ladd {x y : Int} : q_T md d P nx (.ladd :: ops) ls (qL y :: qL x :: st) g M Q = q_T md d P nx ops ls (qL (q_ladd x y) :: st) g M Q := q_T_next rfl
theorem x_lmul {x y : Int} : q_T md d P nx (.lmul :: ops) ls (qL y :: qL x :: st) g M Q = q_T md d P nx ops ls (qL (q_lmul x y) :: st) g M Q := q_T_next rfl
theorem x_lcmp {x y : Int} : q_T md d P nx (.lcmp :: ops) ls (qL y :: qL x :: st) g M Q = q_T md d P nx ops ls (qI (q_lcmp x y) :: st) g M Q := q_T_next rfl
theorem x_ineg {x : Int} : q_T md d P nx (.ineg :: ops) ls (qI x :: st) g M Q = q_T md d P nx ops ls (qI (q_neg x) :: st) g M Q := q_T_next rfl
theorem x_i2b {x : Int} : q_T md d P nx (.i2b :: ops) ls (qI x :: st) g M Q = q_T md d P nx ops ls (qI (q_i2b x) :: st) g M Q := q_T_next rfl
theorem x_i2s {x : Int} : q_T md d P nx (.i2s :: ops) ls (qI x :: st) g M Q = q_T md d P nx ops ls (qI (q_i2s x) :: st) g M Q := q_T_next rfl
theorem x_i2l {x : Int} : q_T md d P nx (.i2l :: ops) ls (qI x :: st) g M Q = q_T md d P nx ops ls (qL (q_i2l x) :: st) g M Q := q_T_next rfl
theorem x_l2i {x : Int} : q_T md d P nx (.l2i :: ops) ls (qL x :: st) g M Q = q_T md d P nx ops ls (qI (q_l2i x) :: st) g M Q := q_T_next rfl
theorem x_ic_lt {x y t : Int} : q_T md d P nx [.if_icmp .lt t] ls (qI y :: qI x :: st) g M Q = ((x < y → q_T md d P t.toNat [] ls st g M Q) ∧ (¬ (x < y) → q_T md d P nx [] ls st g M Q)) := (q_T_br (c := q_cmp .lt x y = true) rfl).trans (by simp [q_cmp])
theorem x_if_ge {x t : Int} : q_T md d P nx [.ifCond .ge t] ls (qI x :: st) g M Q = ((0 ≤ x → q_T md d P t.toNat [] ls st g M Q) ∧ (¬ (0 ≤ x) → q_T md d P nx [] ls st g M Q)) := (q_T_br (c := q_cmp .ge x 0 = true) rfl).trans (by simp [q_cmp])
theorem x_ic_gt {x y t : Int} : q_T md d P nx [.if_icmp .gt t] ls (qI y :: qI x :: st) g M Q = ((y < x → q_T md d P t.toNat [] ls st g M Q) ∧ (¬ (y < x) → q_T md d P nx [] ls st g M Q)) := (q_T_br (c := q_cmp .gt x y = true) rfl).trans (by simp [q_cmp])
theorem x_goto {t : Int} : q_T md d P nx [.goto t] ls st g M Q = q_T md d P t.toNat [] ls st g M Q := q_T_next rfl
theorem x_lsw {x dd : Int} {ps : Array (Int × Int)} : q_T md d P nx [.lookupswitch dd ps] ls (qI x :: st) g M Q = q_T md d P (q_sw ps.toList dd x).toNat [] ls st g M Q := q_T_next rfl
theorem x_tsw {x dd lo hi : Int} {offs : Array Int} : q_T md d P nx [.tableswitch dd lo hi offs] ls (qI x :: st) g M Q = q_T md d P (if x < lo ∨ hi < x then dd.toNat else (offs.toList.getD (x - lo).toNat dd).toNat) [] ls st g M Q := q_T_next rfl
theorem x_ret0 {x : Int} : q_T md d P nx (.ret 0 :: ops) ls [qI x] g M Q = Q (some (qI x)) g M := q_T_retT (c := (0 : Nat) = 0 ∨ ((0 : Nat) = 1 ∧ (x = 0 ∨ x = 1)) ∨ ((0 : Nat) = 2 ∧ 0 ≤ x ∧ x < 65536) ∨ ((0 : Nat) = 3 ∧ -128 ≤ x ∧ x < 128)) (Or.inl rfl) rfl
theorem x_ret1 {x : Int} : q_T md d P nx (.ret 1 :: ops) ls [qI x] g M Q = ((x = 0 ∨ x = 1) ∧ Q (some (qI x)) g M) := (q_T_retif rfl).trans (by simp)
theorem x_ret1_0 : q_T md d P nx (.ret 1 :: ops) ls [qI 0] g M Q = Q (some (qI 0)) g M := x_ret1.trans (by simp)
theorem x_ret1_1 : q_T md d P nx (.ret 1 :: ops) ls [qI 1] g M Q = Q (some (qI 1)) g M := x_ret1.trans (by simp)
theorem x_lret {x : Int} : q_T md d P nx (.lreturn :: ops) ls [qL x] g M Q = Q (some (qL x)) g M := q_T_ret rfl
theorem x_aret {k a : Nat} : q_T md d P nx (.areturn :: ops) ls [qR k a] g M Q = Q (some (qR k a)) g M := q_T_ret rfl
theorem x_vret : q_T md d P nx (.return_ :: ops) ls [] g M Q = Q none g M := q_T_ret rfl
theorem x_objInit {kk aa : Nat} : q_T md d P nx (.monitorenter :: ops) ls (qR kk aa :: st) g M Q = (st.length ≤ 20 ∧ q_T md d P nx ops ls st g M Q) := q_T_if rfl
end OPS
section FIELDS
variable {d : Nat} {P : q_P} {nx : Nat} {ops : List Instr} {ls st : List q_V} {g : q_G} {M : q_M} {Q : Option q_V → q_G → q_M → Prop} {a : Nat}
/-- a laid reference, as it is read -/
def q_dyn (k : Nat) (x : Int) : q_V := if x < 0 then qS 1 else qR k x.toNat
theorem q_dyn_of {k : Nat} {x : Int} (n : Nat) (h : x = n) : q_dyn k x = qR k n := by subst h; rw [q_dyn, if_neg (by omega)]; rfl
theorem q_put_int {md c k : Nat} {x : Int} (h1 : k = c / 100 ∧ c % 100 < q_nf k) (h2 : (q_ty md k (c % 100)).1 = 0) : q_T md d P nx (.putfield c :: ops) ls (qI x :: qR k a :: st) g M Q = q_T md d P nx ops ls st g (q_upd M a (c % 100) x) Q := q_T_next (by
  show (if k = c / 100 ∧ c % 100 < q_nf k then (if (q_ty md k (c % 100)).1 = 0 ∨ ((q_ty md k (c % 100)).1 = 1 ∧ (x = 0 ∨ x = 1)) then q_go nx ops ls st g (q_upd M a (c % 100) x) else none) else none) = _
  rw [if_pos h1, if_pos (Or.inl h2)])
theorem q_put_bool {md c k : Nat} {x : Int} (h1 : k = c / 100 ∧ c % 100 < q_nf k) (h2 : (q_ty md k (c % 100)).1 = 1) : q_T md d P nx (.putfield c :: ops) ls (qI x :: qR k a :: st) g M Q = ((x = 0 ∨ x = 1) ∧ q_T md d P nx ops ls st g (q_upd M a (c % 100) x) Q) := q_T_if (by
  show (if k = c / 100 ∧ c % 100 < q_nf k then (if (q_ty md k (c % 100)).1 = 0 ∨ ((q_ty md k (c % 100)).1 = 1 ∧ (x = 0 ∨ x = 1)) then q_go nx ops ls st g (q_upd M a (c % 100) x) else none) else none) = _
  rw [if_pos h1, h2]
  simp)
theorem q_put_ref {md c k k' b : Nat} (h1 : k = c / 100 ∧ c % 100 < q_nf k) (h2 : (q_ty md k (c % 100)).1 = 2) (h3 : (q_ty md k (c % 100)).2.1 = k') : q_T md d P nx (.putfield c :: ops) ls (qR k' b :: qR k a :: st) g M Q = (b < 2147483648 ∧ q_T md d P nx ops ls st g (q_upd M a (c % 100) b) Q) := q_T_if (by
  show (if k = c / 100 ∧ c % 100 < q_nf k then (if (q_ty md k (c % 100)).1 = 2 ∧ (q_ty md k (c % 100)).2.1 = k' ∧ b < 2147483648 then q_go nx ops ls st g (q_upd M a (c % 100) b) else none) else none) = _
  rw [if_pos h1, h2, h3]
  simp)
theorem f_0_0 : q_T 1 d P nx (.getfield 0 :: ops) ls (qR 0 a :: st) g M Q = q_T 1 d P nx ops ls (qR 26 (a + 1) :: st) g M Q := q_T_ifT (c := 0 = 0 / 100 ∧ 0 % 100 < q_nf 0) (by decide) rfl
theorem f_0_1 : q_T 1 d P nx (.getfield 1 :: ops) ls (qR 0 a :: st) g M Q = q_T 1 d P nx ops ls (qR 26 (a + 2) :: st) g M Q := q_T_ifT (c := 0 = 1 / 100 ∧ 1 % 100 < q_nf 0) (by decide) rfl
theorem f_0_2 : q_T 1 d P nx (.getfield 2 :: ops) ls (qR 0 a :: st) g M Q = q_T 1 d P nx ops ls (qR 7 (a + 3) :: st) g M Q := q_T_ifT (c := 0 = 2 / 100 ∧ 2 % 100 < q_nf 0) (by decide) rfl
theorem f_0_3 : q_T 1 d P nx (.getfield 3 :: ops) ls (qR 0 a :: st) g M Q = q_T 1 d P nx ops ls (qR 7 (a + 10) :: st) g M Q := q_T_ifT (c := 0 = 3 / 100 ∧ 3 % 100 < q_nf 0) (by decide) rfl
theorem f_0_4 : q_T 1 d P nx (.getfield 4 :: ops) ls (qR 0 a :: st) g M Q = q_T 1 d P nx ops ls (qR 26 (a + 17) :: st) g M Q := q_T_ifT (c := 0 = 4 / 100 ∧ 4 % 100 < q_nf 0) (by decide) rfl
theorem f_0_5 : q_T 1 d P nx (.getfield 5 :: ops) ls (qR 0 a :: st) g M Q = q_T 1 d P nx ops ls (qI (M a 5) :: st) g M Q := q_T_ifT (c := 0 = 5 / 100 ∧ 5 % 100 < q_nf 0) (by decide) rfl
theorem p_0_5 {x : Int} : q_T 1 d P nx (.putfield 5 :: ops) ls (qI x :: qR 0 a :: st) g M Q = q_T 1 d P nx ops ls st g (q_upd M a 5 x) Q := q_put_int (c := 5) (by decide) (by decide)
theorem f_1_0 : q_T 1 d P nx (.getfield 100 :: ops) ls (qR 1 a :: st) g M Q = q_T 1 d P nx ops ls (qR 180 (a + 1) :: st) g M Q := q_T_ifT (c := 1 = 100 / 100 ∧ 100 % 100 < q_nf 1) (by decide) rfl
theorem f_1_1 : q_T 1 d P nx (.getfield 101 :: ops) ls (qR 1 a :: st) g M Q = q_T 1 d P nx ops ls (qI (M a 1) :: st) g M Q := q_T_ifT (c := 1 = 101 / 100 ∧ 101 % 100 < q_nf 1) (by decide) rfl
theorem p_1_1 {x : Int} : q_T 1 d P nx (.putfield 101 :: ops) ls (qI x :: qR 1 a :: st) g M Q = q_T 1 d P nx ops ls st g (q_upd M a 1 x) Q := q_put_int (c := 101) (by decide) (by decide)
theorem f_1_2 : q_T 1 d P nx (.getfield 102 :: ops) ls (qR 1 a :: st) g M Q = q_T 1 d P nx ops ls (qR 180 (a + 2) :: st) g M Q := q_T_ifT (c := 1 = 102 / 100 ∧ 102 % 100 < q_nf 1) (by decide) rfl
theorem f_1_3 : q_T 1 d P nx (.getfield 103 :: ops) ls (qR 1 a :: st) g M Q = q_T 1 d P nx ops ls (qI (M a 3) :: st) g M Q := q_T_ifT (c := 1 = 103 / 100 ∧ 103 % 100 < q_nf 1) (by decide) rfl
theorem p_1_3 {x : Int} : q_T 1 d P nx (.putfield 103 :: ops) ls (qI x :: qR 1 a :: st) g M Q = q_T 1 d P nx ops ls st g (q_upd M a 3 x) Q := q_put_int (c := 103) (by decide) (by decide)
theorem f_1_4 : q_T 1 d P nx (.getfield 104 :: ops) ls (qR 1 a :: st) g M Q = q_T 1 d P nx ops ls (qR 23 (a + 3) :: st) g M Q := q_T_ifT (c := 1 = 104 / 100 ∧ 104 % 100 < q_nf 1) (by decide) rfl
theorem f_1_5 : q_T 1 d P nx (.getfield 105 :: ops) ls (qR 1 a :: st) g M Q = q_T 1 d P nx ops ls (qI (M a 5) :: st) g M Q := q_T_ifT (c := 1 = 105 / 100 ∧ 105 % 100 < q_nf 1) (by decide) rfl
theorem p_1_5 {x : Int} : q_T 1 d P nx (.putfield 105 :: ops) ls (qI x :: qR 1 a :: st) g M Q = q_T 1 d P nx ops ls st g (q_upd M a 5 x) Q := q_put_int (c := 105) (by decide) (by decide)
theorem f_1_6 : q_T 1 d P nx (.getfield 106 :: ops) ls (qR 1 a :: st) g M Q = q_T 1 d P nx ops ls (qI (M a 6) :: st) g M Q := q_T_ifT (c := 1 = 106 / 100 ∧ 106 % 100 < q_nf 1) (by decide) rfl
theorem p_1_6 {x : Int} : q_T 1 d P nx (.putfield 106 :: ops) ls (qI x :: qR 1 a :: st) g M Q = q_T 1 d P nx ops ls st g (q_upd M a 6 x) Q := q_put_int (c := 106) (by decide) (by decide)
theorem f_1_7 : q_T 1 d P nx (.getfield 107 :: ops) ls (qR 1 a :: st) g M Q = q_T 1 d P nx ops ls (qI (M a 7) :: st) g M Q := q_T_ifT (c := 1 = 107 / 100 ∧ 107 % 100 < q_nf 1) (by decide) rfl
theorem p_1_7 {x : Int} : q_T 1 d P nx (.putfield 107 :: ops) ls (qI x :: qR 1 a :: st) g M Q = q_T 1 d P nx ops ls st g (q_upd M a 7 x) Q := q_put_int (c := 107) (by decide) (by decide)
theorem f_1_8 : q_T 1 d P nx (.getfield 108 :: ops) ls (qR 1 a :: st) g M Q = q_T 1 d P nx ops ls (qI (M a 8) :: st) g M Q := q_T_ifT (c := 1 = 108 / 100 ∧ 108 % 100 < q_nf 1) (by decide) rfl
theorem p_1_8 {x : Int} : q_T 1 d P nx (.putfield 108 :: ops) ls (qI x :: qR 1 a :: st) g M Q = q_T 1 d P nx ops ls st g (q_upd M a 8 x) Q := q_put_int (c := 108) (by decide) (by decide)
theorem f_1_9 : q_T 1 d P nx (.getfield 109 :: ops) ls (qR 1 a :: st) g M Q = q_T 1 d P nx ops ls (qI (M a 9) :: st) g M Q := q_T_ifT (c := 1 = 109 / 100 ∧ 109 % 100 < q_nf 1) (by decide) rfl
theorem p_1_9 {x : Int} : q_T 1 d P nx (.putfield 109 :: ops) ls (qI x :: qR 1 a :: st) g M Q = q_T 1 d P nx ops ls st g (q_upd M a 9 x) Q := q_put_int (c := 109) (by decide) (by decide)
theorem f_2_0 : q_T 1 d P nx (.getfield 200 :: ops) ls (qR 2 a :: st) g M Q = q_T 1 d P nx ops ls (qR 60 (a + 1) :: st) g M Q := q_T_ifT (c := 2 = 200 / 100 ∧ 200 % 100 < q_nf 2) (by decide) rfl
theorem f_2_1 : q_T 1 d P nx (.getfield 201 :: ops) ls (qR 2 a :: st) g M Q = q_T 1 d P nx ops ls (qI (M a 1) :: st) g M Q := q_T_ifT (c := 2 = 201 / 100 ∧ 201 % 100 < q_nf 2) (by decide) rfl
theorem p_2_1 {x : Int} : q_T 1 d P nx (.putfield 201 :: ops) ls (qI x :: qR 2 a :: st) g M Q = q_T 1 d P nx ops ls st g (q_upd M a 1 x) Q := q_put_int (c := 201) (by decide) (by decide)
theorem f_2_2 : q_T 1 d P nx (.getfield 202 :: ops) ls (qR 2 a :: st) g M Q = q_T 1 d P nx ops ls (qI (M a 2) :: st) g M Q := q_T_ifT (c := 2 = 202 / 100 ∧ 202 % 100 < q_nf 2) (by decide) rfl
theorem p_2_2 {x : Int} : q_T 1 d P nx (.putfield 202 :: ops) ls (qI x :: qR 2 a :: st) g M Q = q_T 1 d P nx ops ls st g (q_upd M a 2 x) Q := q_put_int (c := 202) (by decide) (by decide)
theorem f_3_0 : q_T 1 d P nx (.getfield 300 :: ops) ls (qR 3 a :: st) g M Q = q_T 1 d P nx ops ls (qI (M a 0) :: st) g M Q := q_T_ifT (c := 3 = 300 / 100 ∧ 300 % 100 < q_nf 3) (by decide) rfl
theorem p_3_0 {x : Int} : q_T 1 d P nx (.putfield 300 :: ops) ls (qI x :: qR 3 a :: st) g M Q = q_T 1 d P nx ops ls st g (q_upd M a 0 x) Q := q_put_int (c := 300) (by decide) (by decide)
theorem f_3_1 : q_T 1 d P nx (.getfield 301 :: ops) ls (qR 3 a :: st) g M Q = q_T 1 d P nx ops ls (q_dyn 10 (M a 1) :: st) g M Q := q_T_ifT (c := 3 = 301 / 100 ∧ 301 % 100 < q_nf 3) (by decide) rfl
theorem f_3_2 : q_T 1 d P nx (.getfield 302 :: ops) ls (qR 3 a :: st) g M Q = q_T 1 d P nx ops ls (q_dyn 23 (M a 2) :: st) g M Q := q_T_ifT (c := 3 = 302 / 100 ∧ 302 % 100 < q_nf 3) (by decide) rfl
theorem f_3_3 : q_T 1 d P nx (.getfield 303 :: ops) ls (qR 3 a :: st) g M Q = q_T 1 d P nx ops ls (q_dyn 60 (M a 3) :: st) g M Q := q_T_ifT (c := 3 = 303 / 100 ∧ 303 % 100 < q_nf 3) (by decide) rfl
theorem f_4_0 : q_T 1 d P nx (.getfield 400 :: ops) ls (qR 4 a :: st) g M Q = q_T 1 d P nx ops ls (qR 0 (a + 1) :: st) g M Q := q_T_ifT (c := 4 = 400 / 100 ∧ 400 % 100 < q_nf 4) (by decide) rfl
theorem f_4_1 : q_T 1 d P nx (.getfield 401 :: ops) ls (qR 4 a :: st) g M Q = q_T 1 d P nx ops ls (qR 26 (a + 19) :: st) g M Q := q_T_ifT (c := 4 = 401 / 100 ∧ 401 % 100 < q_nf 4) (by decide) rfl
theorem f_4_2 : q_T 1 d P nx (.getfield 402 :: ops) ls (qR 4 a :: st) g M Q = q_T 1 d P nx ops ls (qR 26 (a + 20) :: st) g M Q := q_T_ifT (c := 4 = 402 / 100 ∧ 402 % 100 < q_nf 4) (by decide) rfl
theorem f_4_3 : q_T 1 d P nx (.getfield 403 :: ops) ls (qR 4 a :: st) g M Q = q_T 1 d P nx ops ls (qR 26 (a + 21) :: st) g M Q := q_T_ifT (c := 4 = 403 / 100 ∧ 403 % 100 < q_nf 4) (by decide) rfl
theorem f_4_4 : q_T 1 d P nx (.getfield 404 :: ops) ls (qR 4 a :: st) g M Q = q_T 1 d P nx ops ls (qR 26 (a + 22) :: st) g M Q := q_T_ifT (c := 4 = 404 / 100 ∧ 404 % 100 < q_nf 4) (by decide) rfl
theorem f_4_5 : q_T 1 d P nx (.getfield 405 :: ops) ls (qR 4 a :: st) g M Q = q_T 1 d P nx ops ls (qR 26 (a + 23) :: st) g M Q := q_T_ifT (c := 4 = 405 / 100 ∧ 405 % 100 < q_nf 4) (by decide) rfl
theorem f_4_6 : q_T 1 d P nx (.getfield 406 :: ops) ls (qR 4 a :: st) g M Q = q_T 1 d P nx ops ls (qR 26 (a + 24) :: st) g M Q := q_T_ifT (c := 4 = 406 / 100 ∧ 406 % 100 < q_nf 4) (by decide) rfl
theorem f_4_7 : q_T 1 d P nx (.getfield 407 :: ops) ls (qR 4 a :: st) g M Q = q_T 1 d P nx ops ls (qR 26 (a + 25) :: st) g M Q := q_T_ifT (c := 4 = 407 / 100 ∧ 407 % 100 < q_nf 4) (by decide) rfl
theorem f_4_8 : q_T 1 d P nx (.getfield 408 :: ops) ls (qR 4 a :: st) g M Q = q_T 1 d P nx ops ls (qR 26 (a + 26) :: st) g M Q := q_T_ifT (c := 4 = 408 / 100 ∧ 408 % 100 < q_nf 4) (by decide) rfl
theorem f_4_9 : q_T 1 d P nx (.getfield 409 :: ops) ls (qR 4 a :: st) g M Q = q_T 1 d P nx ops ls (qI (M a 9) :: st) g M Q := q_T_ifT (c := 4 = 409 / 100 ∧ 409 % 100 < q_nf 4) (by decide) rfl
theorem p_4_9 {x : Int} : q_T 1 d P nx (.putfield 409 :: ops) ls (qI x :: qR 4 a :: st) g M Q = q_T 1 d P nx ops ls st g (q_upd M a 9 x) Q := q_put_int (c := 409) (by decide) (by decide)
theorem f_4_10 : q_T 1 d P nx (.getfield 410 :: ops) ls (qR 4 a :: st) g M Q = q_T 1 d P nx ops ls (q_dyn 3 (M a 10) :: st) g M Q := q_T_ifT (c := 4 = 410 / 100 ∧ 410 % 100 < q_nf 4) (by decide) rfl
theorem p_4_10 {b : Nat} : q_T 1 d P nx (.putfield 410 :: ops) ls (qR 3 b :: qR 4 a :: st) g M Q = (b < 2147483648 ∧ q_T 1 d P nx ops ls st g (q_upd M a 10 b) Q) := q_put_ref (c := 410) (by decide) (by decide) (by decide)
theorem f_5_0 : q_T 1 d P nx (.getfield 500 :: ops) ls (qR 5 a :: st) g M Q = q_T 1 d P nx ops ls (qR 1 (a + 1) :: st) g M Q := q_T_ifT (c := 5 = 500 / 100 ∧ 500 % 100 < q_nf 5) (by decide) rfl
theorem f_5_1 : q_T 1 d P nx (.getfield 501 :: ops) ls (qR 5 a :: st) g M Q = q_T 1 d P nx ops ls (qR 8 (a + 5) :: st) g M Q := q_T_ifT (c := 5 = 501 / 100 ∧ 501 % 100 < q_nf 5) (by decide) rfl
theorem f_5_2 : q_T 1 d P nx (.getfield 502 :: ops) ls (qR 5 a :: st) g M Q = q_T 1 d P nx ops ls (qI (M a 2) :: st) g M Q := q_T_ifT (c := 5 = 502 / 100 ∧ 502 % 100 < q_nf 5) (by decide) rfl
theorem p_5_2 {x : Int} : q_T 1 d P nx (.putfield 502 :: ops) ls (qI x :: qR 5 a :: st) g M Q = q_T 1 d P nx ops ls st g (q_upd M a 2 x) Q := q_put_int (c := 502) (by decide) (by decide)
theorem f_5_3 : q_T 1 d P nx (.getfield 503 :: ops) ls (qR 5 a :: st) g M Q = q_T 1 d P nx ops ls (qR 4 (a + 11) :: st) g M Q := q_T_ifT (c := 5 = 503 / 100 ∧ 503 % 100 < q_nf 5) (by decide) rfl
theorem f_5_4 : q_T 1 d P nx (.getfield 504 :: ops) ls (qR 5 a :: st) g M Q = q_T 1 d P nx ops ls (qR 4 (a + 38) :: st) g M Q := q_T_ifT (c := 5 = 504 / 100 ∧ 504 % 100 < q_nf 5) (by decide) rfl
theorem f_5_5 : q_T 1 d P nx (.getfield 505 :: ops) ls (qR 5 a :: st) g M Q = q_T 1 d P nx ops ls (qR 4 (a + 65) :: st) g M Q := q_T_ifT (c := 5 = 505 / 100 ∧ 505 % 100 < q_nf 5) (by decide) rfl
theorem f_5_6 : q_T 1 d P nx (.getfield 506 :: ops) ls (qR 5 a :: st) g M Q = q_T 1 d P nx ops ls (qI (M a 6) :: st) g M Q := q_T_ifT (c := 5 = 506 / 100 ∧ 506 % 100 < q_nf 5) (by decide) rfl
theorem p_5_6 {x : Int} : q_T 1 d P nx (.putfield 506 :: ops) ls (qI x :: qR 5 a :: st) g M Q = ((x = 0 ∨ x = 1) ∧ q_T 1 d P nx ops ls st g (q_upd M a 6 x) Q) := q_put_bool (c := 506) (by decide) (by decide)
theorem f_5_7 : q_T 1 d P nx (.getfield 507 :: ops) ls (qR 5 a :: st) g M Q = q_T 1 d P nx ops ls (qR 9 (a + 6) :: st) g M Q := q_T_ifT (c := 5 = 507 / 100 ∧ 507 % 100 < q_nf 5) (by decide) rfl
theorem f_6_0 : q_T 1 d P nx (.getfield 600 :: ops) ls (qR 6 a :: st) g M Q = q_T 1 d P nx ops ls (qI (M a 0) :: st) g M Q := q_T_ifT (c := 6 = 600 / 100 ∧ 600 % 100 < q_nf 6) (by decide) rfl
theorem p_6_0 {x : Int} : q_T 1 d P nx (.putfield 600 :: ops) ls (qI x :: qR 6 a :: st) g M Q = q_T 1 d P nx ops ls st g (q_upd M a 0 x) Q := q_put_int (c := 600) (by decide) (by decide)
theorem f_6_1 : q_T 1 d P nx (.getfield 601 :: ops) ls (qR 6 a :: st) g M Q = q_T 1 d P nx ops ls (qR 25 (a + 1) :: st) g M Q := q_T_ifT (c := 6 = 601 / 100 ∧ 601 % 100 < q_nf 6) (by decide) rfl
theorem f_6_2 : q_T 1 d P nx (.getfield 602 :: ops) ls (qR 6 a :: st) g M Q = q_T 1 d P nx ops ls (qR 25 (a + 2) :: st) g M Q := q_T_ifT (c := 6 = 602 / 100 ∧ 602 % 100 < q_nf 6) (by decide) rfl
theorem f_6_3 : q_T 1 d P nx (.getfield 603 :: ops) ls (qR 6 a :: st) g M Q = q_T 1 d P nx ops ls (qR 40 (a + 3) :: st) g M Q := q_T_ifT (c := 6 = 603 / 100 ∧ 603 % 100 < q_nf 6) (by decide) rfl
theorem f_6_4 : q_T 1 d P nx (.getfield 604 :: ops) ls (qR 6 a :: st) g M Q = q_T 1 d P nx ops ls (qR 35 (a + 4) :: st) g M Q := q_T_ifT (c := 6 = 604 / 100 ∧ 604 % 100 < q_nf 6) (by decide) rfl
theorem f_6_5 : q_T 1 d P nx (.getfield 605 :: ops) ls (qR 6 a :: st) g M Q = q_T 1 d P nx ops ls (qI (M a 5) :: st) g M Q := q_T_ifT (c := 6 = 605 / 100 ∧ 605 % 100 < q_nf 6) (by decide) rfl
theorem p_6_5 {x : Int} : q_T 1 d P nx (.putfield 605 :: ops) ls (qI x :: qR 6 a :: st) g M Q = q_T 1 d P nx ops ls st g (q_upd M a 5 x) Q := q_put_int (c := 605) (by decide) (by decide)
theorem f_6_6 : q_T 1 d P nx (.getfield 606 :: ops) ls (qR 6 a :: st) g M Q = q_T 1 d P nx ops ls (qR 180 (a + 5) :: st) g M Q := q_T_ifT (c := 6 = 606 / 100 ∧ 606 % 100 < q_nf 6) (by decide) rfl
theorem f_6_7 : q_T 1 d P nx (.getfield 607 :: ops) ls (qR 6 a :: st) g M Q = q_T 1 d P nx ops ls (qI (M a 7) :: st) g M Q := q_T_ifT (c := 6 = 607 / 100 ∧ 607 % 100 < q_nf 6) (by decide) rfl
theorem p_6_7 {x : Int} : q_T 1 d P nx (.putfield 607 :: ops) ls (qI x :: qR 6 a :: st) g M Q = q_T 1 d P nx ops ls st g (q_upd M a 7 x) Q := q_put_int (c := 607) (by decide) (by decide)
theorem f_6_8 : q_T 1 d P nx (.getfield 608 :: ops) ls (qR 6 a :: st) g M Q = q_T 1 d P nx ops ls (qR 1220 (a + 6) :: st) g M Q := q_T_ifT (c := 6 = 608 / 100 ∧ 608 % 100 < q_nf 6) (by decide) rfl
theorem f_6_9 : q_T 1 d P nx (.getfield 609 :: ops) ls (qR 6 a :: st) g M Q = q_T 1 d P nx ops ls (qR 44 (a + 7) :: st) g M Q := q_T_ifT (c := 6 = 609 / 100 ∧ 609 % 100 < q_nf 6) (by decide) rfl
theorem f_6_10 : q_T 1 d P nx (.getfield 610 :: ops) ls (qR 6 a :: st) g M Q = q_T 1 d P nx ops ls (qI (M a 10) :: st) g M Q := q_T_ifT (c := 6 = 610 / 100 ∧ 610 % 100 < q_nf 6) (by decide) rfl
theorem p_6_10 {x : Int} : q_T 1 d P nx (.putfield 610 :: ops) ls (qI x :: qR 6 a :: st) g M Q = q_T 1 d P nx ops ls st g (q_upd M a 10 x) Q := q_put_int (c := 610) (by decide) (by decide)
theorem f_6_11 : q_T 1 d P nx (.getfield 611 :: ops) ls (qR 6 a :: st) g M Q = q_T 1 d P nx ops ls (qI (M a 11) :: st) g M Q := q_T_ifT (c := 6 = 611 / 100 ∧ 611 % 100 < q_nf 6) (by decide) rfl
theorem p_6_11 {x : Int} : q_T 1 d P nx (.putfield 611 :: ops) ls (qI x :: qR 6 a :: st) g M Q = q_T 1 d P nx ops ls st g (q_upd M a 11 x) Q := q_put_int (c := 611) (by decide) (by decide)
theorem f_6_12 : q_T 1 d P nx (.getfield 612 :: ops) ls (qR 6 a :: st) g M Q = q_T 1 d P nx ops ls (qI (M a 12) :: st) g M Q := q_T_ifT (c := 6 = 612 / 100 ∧ 612 % 100 < q_nf 6) (by decide) rfl
theorem p_6_12 {x : Int} : q_T 1 d P nx (.putfield 612 :: ops) ls (qI x :: qR 6 a :: st) g M Q = ((x = 0 ∨ x = 1) ∧ q_T 1 d P nx ops ls st g (q_upd M a 12 x) Q) := q_put_bool (c := 612) (by decide) (by decide)
theorem f_6_13 : q_T 1 d P nx (.getfield 613 :: ops) ls (qR 6 a :: st) g M Q = q_T 1 d P nx ops ls (qR 55 (a + 8) :: st) g M Q := q_T_ifT (c := 6 = 613 / 100 ∧ 613 % 100 < q_nf 6) (by decide) rfl
theorem f_6_14 : q_T 1 d P nx (.getfield 614 :: ops) ls (qR 6 a :: st) g M Q = q_T 1 d P nx ops ls (qR 23 (a + 9) :: st) g M Q := q_T_ifT (c := 6 = 614 / 100 ∧ 614 % 100 < q_nf 6) (by decide) rfl
theorem f_6_15 : q_T 1 d P nx (.getfield 615 :: ops) ls (qR 6 a :: st) g M Q = q_T 1 d P nx ops ls (qR 24 (a + 10) :: st) g M Q := q_T_ifT (c := 6 = 615 / 100 ∧ 615 % 100 < q_nf 6) (by decide) rfl
theorem f_6_16 : q_T 1 d P nx (.getfield 616 :: ops) ls (qR 6 a :: st) g M Q = q_T 1 d P nx ops ls (qR 24 (a + 11) :: st) g M Q := q_T_ifT (c := 6 = 616 / 100 ∧ 616 % 100 < q_nf 6) (by decide) rfl
theorem f_6_17 : q_T 1 d P nx (.getfield 617 :: ops) ls (qR 6 a :: st) g M Q = q_T 1 d P nx ops ls (qR 180 (a + 12) :: st) g M Q := q_T_ifT (c := 6 = 617 / 100 ∧ 617 % 100 < q_nf 6) (by decide) rfl
theorem f_6_19 : q_T 1 d P nx (.getfield 619 :: ops) ls (qR 6 a :: st) g M Q = q_T 1 d P nx ops ls (qI (M a 19) :: st) g M Q := q_T_ifT (c := 6 = 619 / 100 ∧ 619 % 100 < q_nf 6) (by decide) rfl
theorem p_6_19 {x : Int} : q_T 1 d P nx (.putfield 619 :: ops) ls (qI x :: qR 6 a :: st) g M Q = q_T 1 d P nx ops ls st g (q_upd M a 19 x) Q := q_put_int (c := 619) (by decide) (by decide)
theorem f_6_20 : q_T 1 d P nx (.getfield 620 :: ops) ls (qR 6 a :: st) g M Q = q_T 1 d P nx ops ls (qI (M a 20) :: st) g M Q := q_T_ifT (c := 6 = 620 / 100 ∧ 620 % 100 < q_nf 6) (by decide) rfl
theorem p_6_20 {x : Int} : q_T 1 d P nx (.putfield 620 :: ops) ls (qI x :: qR 6 a :: st) g M Q = q_T 1 d P nx ops ls st g (q_upd M a 20 x) Q := q_put_int (c := 620) (by decide) (by decide)
theorem f_6_21 : q_T 1 d P nx (.getfield 621 :: ops) ls (qR 6 a :: st) g M Q = q_T 1 d P nx ops ls (qI (M a 21) :: st) g M Q := q_T_ifT (c := 6 = 621 / 100 ∧ 621 % 100 < q_nf 6) (by decide) rfl
theorem p_6_21 {x : Int} : q_T 1 d P nx (.putfield 621 :: ops) ls (qI x :: qR 6 a :: st) g M Q = q_T 1 d P nx ops ls st g (q_upd M a 21 x) Q := q_put_int (c := 621) (by decide) (by decide)
theorem f_6_22 : q_T 1 d P nx (.getfield 622 :: ops) ls (qR 6 a :: st) g M Q = q_T 1 d P nx ops ls (qI (M a 22) :: st) g M Q := q_T_ifT (c := 6 = 622 / 100 ∧ 622 % 100 < q_nf 6) (by decide) rfl
theorem p_6_22 {x : Int} : q_T 1 d P nx (.putfield 622 :: ops) ls (qI x :: qR 6 a :: st) g M Q = q_T 1 d P nx ops ls st g (q_upd M a 22 x) Q := q_put_int (c := 622) (by decide) (by decide)
theorem f_6_23 : q_T 1 d P nx (.getfield 623 :: ops) ls (qR 6 a :: st) g M Q = q_T 1 d P nx ops ls (qR 116 (a + 14) :: st) g M Q := q_T_ifT (c := 6 = 623 / 100 ∧ 623 % 100 < q_nf 6) (by decide) rfl
theorem f_6_24 : q_T 1 d P nx (.getfield 624 :: ops) ls (qR 6 a :: st) g M Q = q_T 1 d P nx ops ls (qR 220 (a + 15) :: st) g M Q := q_T_ifT (c := 6 = 624 / 100 ∧ 624 % 100 < q_nf 6) (by decide) rfl
theorem f_6_25 : q_T 1 d P nx (.getfield 625 :: ops) ls (qR 6 a :: st) g M Q = q_T 1 d P nx ops ls (qI (M a 25) :: st) g M Q := q_T_ifT (c := 6 = 625 / 100 ∧ 625 % 100 < q_nf 6) (by decide) rfl
theorem p_6_25 {x : Int} : q_T 1 d P nx (.putfield 625 :: ops) ls (qI x :: qR 6 a :: st) g M Q = q_T 1 d P nx ops ls st g (q_upd M a 25 x) Q := q_put_int (c := 625) (by decide) (by decide)
theorem f_6_26 : q_T 1 d P nx (.getfield 626 :: ops) ls (qR 6 a :: st) g M Q = q_T 1 d P nx ops ls (qI (M a 26) :: st) g M Q := q_T_ifT (c := 6 = 626 / 100 ∧ 626 % 100 < q_nf 6) (by decide) rfl
theorem p_6_26 {x : Int} : q_T 1 d P nx (.putfield 626 :: ops) ls (qI x :: qR 6 a :: st) g M Q = q_T 1 d P nx ops ls st g (q_upd M a 26 x) Q := q_put_int (c := 626) (by decide) (by decide)
theorem f_6_27 : q_T 1 d P nx (.getfield 627 :: ops) ls (qR 6 a :: st) g M Q = q_T 1 d P nx ops ls (qI (M a 27) :: st) g M Q := q_T_ifT (c := 6 = 627 / 100 ∧ 627 % 100 < q_nf 6) (by decide) rfl
theorem p_6_27 {x : Int} : q_T 1 d P nx (.putfield 627 :: ops) ls (qI x :: qR 6 a :: st) g M Q = q_T 1 d P nx ops ls st g (q_upd M a 27 x) Q := q_put_int (c := 627) (by decide) (by decide)
theorem f_6_28 : q_T 1 d P nx (.getfield 628 :: ops) ls (qR 6 a :: st) g M Q = q_T 1 d P nx ops ls (qR 220 (a + 16) :: st) g M Q := q_T_ifT (c := 6 = 628 / 100 ∧ 628 % 100 < q_nf 6) (by decide) rfl
theorem f_6_29 : q_T 1 d P nx (.getfield 629 :: ops) ls (qR 6 a :: st) g M Q = q_T 1 d P nx ops ls (qR 26 (a + 17) :: st) g M Q := q_T_ifT (c := 6 = 629 / 100 ∧ 629 % 100 < q_nf 6) (by decide) rfl
theorem f_6_30 : q_T 1 d P nx (.getfield 630 :: ops) ls (qR 6 a :: st) g M Q = q_T 1 d P nx ops ls (qR 56 (a + 18) :: st) g M Q := q_T_ifT (c := 6 = 630 / 100 ∧ 630 % 100 < q_nf 6) (by decide) rfl
theorem f_6_31 : q_T 1 d P nx (.getfield 631 :: ops) ls (qR 6 a :: st) g M Q = q_T 1 d P nx ops ls (qR 45 (a + 19) :: st) g M Q := q_T_ifT (c := 6 = 631 / 100 ∧ 631 % 100 < q_nf 6) (by decide) rfl
theorem f_6_32 : q_T 1 d P nx (.getfield 632 :: ops) ls (qR 6 a :: st) g M Q = q_T 1 d P nx ops ls (qR 45 (a + 20) :: st) g M Q := q_T_ifT (c := 6 = 632 / 100 ∧ 632 % 100 < q_nf 6) (by decide) rfl
theorem f_6_33 : q_T 1 d P nx (.getfield 633 :: ops) ls (qR 6 a :: st) g M Q = q_T 1 d P nx ops ls (qR 25 (a + 21) :: st) g M Q := q_T_ifT (c := 6 = 633 / 100 ∧ 633 % 100 < q_nf 6) (by decide) rfl
theorem f_6_34 : q_T 1 d P nx (.getfield 634 :: ops) ls (qR 6 a :: st) g M Q = q_T 1 d P nx ops ls (qR 25 (a + 22) :: st) g M Q := q_T_ifT (c := 6 = 634 / 100 ∧ 634 % 100 < q_nf 6) (by decide) rfl
theorem f_6_35 : q_T 1 d P nx (.getfield 635 :: ops) ls (qR 6 a :: st) g M Q = q_T 1 d P nx ops ls (qR 25 (a + 23) :: st) g M Q := q_T_ifT (c := 6 = 635 / 100 ∧ 635 % 100 < q_nf 6) (by decide) rfl
theorem f_6_36 : q_T 1 d P nx (.getfield 636 :: ops) ls (qR 6 a :: st) g M Q = q_T 1 d P nx ops ls (qI (M a 36) :: st) g M Q := q_T_ifT (c := 6 = 636 / 100 ∧ 636 % 100 < q_nf 6) (by decide) rfl
theorem p_6_36 {x : Int} : q_T 1 d P nx (.putfield 636 :: ops) ls (qI x :: qR 6 a :: st) g M Q = q_T 1 d P nx ops ls st g (q_upd M a 36 x) Q := q_put_int (c := 636) (by decide) (by decide)
end FIELDS
section ARRAYS
variable {md d : Nat} {P : q_P} {nx : Nat} {ops : List Instr} {ls st : List q_V} {g : q_G} {M : q_M} {Q : Option q_V → q_G → q_M → Prop} {a : Nat} {j x : Int}
theorem x_iald {k : Nat} : q_T md d P nx (.iaload :: ops) ls (qI j :: qR k a :: st) g M Q = ((q_isA k = true ∧ 0 ≤ j ∧ j < q_len k a M) ∧ q_T md d P nx ops ls (qI (M a j.toNat) :: st) g M Q) := q_T_if rfl
theorem x_iast {k : Nat} : q_T md d P nx (.iastore :: ops) ls (qI x :: qI j :: qR k a :: st) g M Q = ((q_isA k = true ∧ 0 ≤ j ∧ j < q_len k a M) ∧ q_T md d P nx ops ls st g (q_upd M a j.toNat x) Q) := q_T_if rfl
theorem x_alen {k : Nat} : q_T md d P nx (.arraylength :: ops) ls (qR k a :: st) g M Q = (q_isA k = true ∧ q_T md d P nx ops ls (qI (q_len k a M) :: st) g M Q) := q_T_if rfl
theorem x_iald_23 : q_T md d P nx (.iaload :: ops) ls (qI j :: qR 23 a :: st) g M Q = ((0 ≤ j ∧ j < 3) ∧ q_T md d P nx ops ls (qI (M a j.toNat) :: st) g M Q) := x_iald.trans (by rw [show q_len 23 a M = 3 from rfl]; simp [q_isA])
theorem x_iast_23 : q_T md d P nx (.iastore :: ops) ls (qI x :: qI j :: qR 23 a :: st) g M Q = ((0 ≤ j ∧ j < 3) ∧ q_T md d P nx ops ls st g (q_upd M a j.toNat x) Q) := x_iast.trans (by rw [show q_len 23 a M = 3 from rfl]; simp [q_isA])
theorem x_iald_24 : q_T md d P nx (.iaload :: ops) ls (qI j :: qR 24 a :: st) g M Q = ((0 ≤ j ∧ j < 4) ∧ q_T md d P nx ops ls (qI (M a j.toNat) :: st) g M Q) := x_iald.trans (by rw [show q_len 24 a M = 4 from rfl]; simp [q_isA])
theorem x_iast_24 : q_T md d P nx (.iastore :: ops) ls (qI x :: qI j :: qR 24 a :: st) g M Q = ((0 ≤ j ∧ j < 4) ∧ q_T md d P nx ops ls st g (q_upd M a j.toNat x) Q) := x_iast.trans (by rw [show q_len 24 a M = 4 from rfl]; simp [q_isA])
theorem x_iald_25 : q_T md d P nx (.iaload :: ops) ls (qI j :: qR 25 a :: st) g M Q = ((0 ≤ j ∧ j < 5) ∧ q_T md d P nx ops ls (qI (M a j.toNat) :: st) g M Q) := x_iald.trans (by rw [show q_len 25 a M = 5 from rfl]; simp [q_isA])
theorem x_iast_25 : q_T md d P nx (.iastore :: ops) ls (qI x :: qI j :: qR 25 a :: st) g M Q = ((0 ≤ j ∧ j < 5) ∧ q_T md d P nx ops ls st g (q_upd M a j.toNat x) Q) := x_iast.trans (by rw [show q_len 25 a M = 5 from rfl]; simp [q_isA])
theorem x_iald_26 : q_T md d P nx (.iaload :: ops) ls (qI j :: qR 26 a :: st) g M Q = ((0 ≤ j ∧ j < 6) ∧ q_T md d P nx ops ls (qI (M a j.toNat) :: st) g M Q) := x_iald.trans (by rw [show q_len 26 a M = 6 from rfl]; simp [q_isA])
theorem x_iast_26 : q_T md d P nx (.iastore :: ops) ls (qI x :: qI j :: qR 26 a :: st) g M Q = ((0 ≤ j ∧ j < 6) ∧ q_T md d P nx ops ls st g (q_upd M a j.toNat x) Q) := x_iast.trans (by rw [show q_len 26 a M = 6 from rfl]; simp [q_isA])
theorem x_iald_35 : q_T md d P nx (.iaload :: ops) ls (qI j :: qR 35 a :: st) g M Q = ((0 ≤ j ∧ j < 15) ∧ q_T md d P nx ops ls (qI (M a j.toNat) :: st) g M Q) := x_iald.trans (by rw [show q_len 35 a M = 15 from rfl]; simp [q_isA])
theorem x_iast_35 : q_T md d P nx (.iastore :: ops) ls (qI x :: qI j :: qR 35 a :: st) g M Q = ((0 ≤ j ∧ j < 15) ∧ q_T md d P nx ops ls st g (q_upd M a j.toNat x) Q) := x_iast.trans (by rw [show q_len 35 a M = 15 from rfl]; simp [q_isA])
theorem x_iald_40 : q_T md d P nx (.iaload :: ops) ls (qI j :: qR 40 a :: st) g M Q = ((0 ≤ j ∧ j < 20) ∧ q_T md d P nx ops ls (qI (M a j.toNat) :: st) g M Q) := x_iald.trans (by rw [show q_len 40 a M = 20 from rfl]; simp [q_isA])
theorem x_iast_40 : q_T md d P nx (.iastore :: ops) ls (qI x :: qI j :: qR 40 a :: st) g M Q = ((0 ≤ j ∧ j < 20) ∧ q_T md d P nx ops ls st g (q_upd M a j.toNat x) Q) := x_iast.trans (by rw [show q_len 40 a M = 20 from rfl]; simp [q_isA])
theorem x_iald_44 : q_T md d P nx (.iaload :: ops) ls (qI j :: qR 44 a :: st) g M Q = ((0 ≤ j ∧ j < 24) ∧ q_T md d P nx ops ls (qI (M a j.toNat) :: st) g M Q) := x_iald.trans (by rw [show q_len 44 a M = 24 from rfl]; simp [q_isA])
theorem x_iast_44 : q_T md d P nx (.iastore :: ops) ls (qI x :: qI j :: qR 44 a :: st) g M Q = ((0 ≤ j ∧ j < 24) ∧ q_T md d P nx ops ls st g (q_upd M a j.toNat x) Q) := x_iast.trans (by rw [show q_len 44 a M = 24 from rfl]; simp [q_isA])
theorem x_iald_45 : q_T md d P nx (.iaload :: ops) ls (qI j :: qR 45 a :: st) g M Q = ((0 ≤ j ∧ j < 25) ∧ q_T md d P nx ops ls (qI (M a j.toNat) :: st) g M Q) := x_iald.trans (by rw [show q_len 45 a M = 25 from rfl]; simp [q_isA])
theorem x_iast_45 : q_T md d P nx (.iastore :: ops) ls (qI x :: qI j :: qR 45 a :: st) g M Q = ((0 ≤ j ∧ j < 25) ∧ q_T md d P nx ops ls st g (q_upd M a j.toNat x) Q) := x_iast.trans (by rw [show q_len 45 a M = 25 from rfl]; simp [q_isA])
theorem x_iald_55 : q_T md d P nx (.iaload :: ops) ls (qI j :: qR 55 a :: st) g M Q = ((0 ≤ j ∧ j < 35) ∧ q_T md d P nx ops ls (qI (M a j.toNat) :: st) g M Q) := x_iald.trans (by rw [show q_len 55 a M = 35 from rfl]; simp [q_isA])
theorem x_iast_55 : q_T md d P nx (.iastore :: ops) ls (qI x :: qI j :: qR 55 a :: st) g M Q = ((0 ≤ j ∧ j < 35) ∧ q_T md d P nx ops ls st g (q_upd M a j.toNat x) Q) := x_iast.trans (by rw [show q_len 55 a M = 35 from rfl]; simp [q_isA])
theorem x_iald_56 : q_T md d P nx (.iaload :: ops) ls (qI j :: qR 56 a :: st) g M Q = ((0 ≤ j ∧ j < 36) ∧ q_T md d P nx ops ls (qI (M a j.toNat) :: st) g M Q) := x_iald.trans (by rw [show q_len 56 a M = 36 from rfl]; simp [q_isA])
theorem x_iast_56 : q_T md d P nx (.iastore :: ops) ls (qI x :: qI j :: qR 56 a :: st) g M Q = ((0 ≤ j ∧ j < 36) ∧ q_T md d P nx ops ls st g (q_upd M a j.toNat x) Q) := x_iast.trans (by rw [show q_len 56 a M = 36 from rfl]; simp [q_isA])
theorem x_iald_60 : q_T md d P nx (.iaload :: ops) ls (qI j :: qR 60 a :: st) g M Q = ((0 ≤ j ∧ j < 40) ∧ q_T md d P nx ops ls (qI (M a j.toNat) :: st) g M Q) := x_iald.trans (by rw [show q_len 60 a M = 40 from rfl]; simp [q_isA])
theorem x_iast_60 : q_T md d P nx (.iastore :: ops) ls (qI x :: qI j :: qR 60 a :: st) g M Q = ((0 ≤ j ∧ j < 40) ∧ q_T md d P nx ops ls st g (q_upd M a j.toNat x) Q) := x_iast.trans (by rw [show q_len 60 a M = 40 from rfl]; simp [q_isA])
theorem x_iald_116 : q_T md d P nx (.iaload :: ops) ls (qI j :: qR 116 a :: st) g M Q = ((0 ≤ j ∧ j < 96) ∧ q_T md d P nx ops ls (qI (M a j.toNat) :: st) g M Q) := x_iald.trans (by rw [show q_len 116 a M = 96 from rfl]; simp [q_isA])
theorem x_iald_180 : q_T md d P nx (.iaload :: ops) ls (qI j :: qR 180 a :: st) g M Q = ((0 ≤ j ∧ j < 160) ∧ q_T md d P nx ops ls (qI (M a j.toNat) :: st) g M Q) := x_iald.trans (by rw [show q_len 180 a M = 160 from rfl]; simp [q_isA])
theorem x_iast_180 : q_T md d P nx (.iastore :: ops) ls (qI x :: qI j :: qR 180 a :: st) g M Q = ((0 ≤ j ∧ j < 160) ∧ q_T md d P nx ops ls st g (q_upd M a j.toNat x) Q) := x_iast.trans (by rw [show q_len 180 a M = 160 from rfl]; simp [q_isA])
theorem x_iald_220 : q_T md d P nx (.iaload :: ops) ls (qI j :: qR 220 a :: st) g M Q = ((0 ≤ j ∧ j < 200) ∧ q_T md d P nx ops ls (qI (M a j.toNat) :: st) g M Q) := x_iald.trans (by rw [show q_len 220 a M = 200 from rfl]; simp [q_isA])
theorem x_iast_220 : q_T md d P nx (.iastore :: ops) ls (qI x :: qI j :: qR 220 a :: st) g M Q = ((0 ≤ j ∧ j < 200) ∧ q_T md d P nx ops ls st g (q_upd M a j.toNat x) Q) := x_iast.trans (by rw [show q_len 220 a M = 200 from rfl]; simp [q_isA])
theorem x_iald_1220 : q_T md d P nx (.iaload :: ops) ls (qI j :: qR 1220 a :: st) g M Q = ((0 ≤ j ∧ j < 1200) ∧ q_T md d P nx ops ls (qI (M a j.toNat) :: st) g M Q) := x_iald.trans (by rw [show q_len 1220 a M = 1200 from rfl]; simp [q_isA])
theorem x_iast_1220 : q_T md d P nx (.iastore :: ops) ls (qI x :: qI j :: qR 1220 a :: st) g M Q = ((0 ≤ j ∧ j < 1200) ∧ q_T md d P nx ops ls st g (q_upd M a j.toNat x) Q) := x_iast.trans (by rw [show q_len 1220 a M = 1200 from rfl]; simp [q_isA])
theorem x_iald_10 : q_T md d P nx (.iaload :: ops) ls (qI j :: qR 10 a :: st) g M Q = ((0 ≤ j ∧ j < M a 1000) ∧ q_T md d P nx ops ls (qI (M a j.toNat) :: st) g M Q) := x_iald.trans (by rw [show q_len 10 a M = M a 1000 from rfl]; simp [q_isA])
theorem x_alen_10 : q_T md d P nx (.arraylength :: ops) ls (qR 10 a :: st) g M Q = q_T md d P nx ops ls (qI (M a 1000) :: st) g M Q := x_alen.trans (by rw [show q_len 10 a M = M a 1000 from rfl]; simp [q_isA])
theorem x_sald : q_T md d P nx (.iaload :: ops) ls (qI j :: qS 2 :: st) g M Q = ((0 ≤ j ∧ j < M 1000001 0) ∧ q_T md d P nx ops ls (qI (M 1000000 j.toNat) :: st) g M Q) := q_T_if rfl
theorem x_slen : q_T md d P nx (.arraylength :: ops) ls (qS 2 :: st) g M Q = q_T md d P nx ops ls (qI (M 1000001 0) :: st) g M Q := q_T_next rfl
theorem x_aald7 : q_T 1 d P nx (.aaload :: ops) ls (qI j :: qR 7 a :: st) g M Q = ((0 ≤ j ∧ j < 6) ∧ q_T 1 d P nx ops ls (qR 26 (a + (1 + j.toNat)) :: st) g M Q) := (q_T_if (c := (7 = 7 ∨ 7 = 8 ∨ 7 = 9) ∧ 0 ≤ j ∧ j < q_len 7 a M) rfl).trans (by rw [show q_len 7 a M = 6 from rfl]; simp; exact fun _ _ => Iff.rfl)
theorem x_aald8 : q_T 1 d P nx (.aaload :: ops) ls (qI j :: qR 8 a :: st) g M Q = ((0 ≤ j ∧ j < 6) ∧ q_T 1 d P nx ops ls (q_dyn 3 (M a j.toNat) :: st) g M Q) := (q_T_if (c := (8 = 7 ∨ 8 = 8 ∨ 8 = 9) ∧ 0 ≤ j ∧ j < q_len 8 a M) rfl).trans (by rw [show q_len 8 a M = 6 from rfl]; simp; exact fun _ _ => Iff.rfl)
theorem x_aald9 : q_T 1 d P nx (.aaload :: ops) ls (qI j :: qR 9 a :: st) g M Q = ((0 ≤ j ∧ j < 4) ∧ q_T 1 d P nx ops ls (qR 2 (a + (86 + 2 * j.toNat)) :: st) g M Q) := (q_T_if (c := (9 = 7 ∨ 9 = 8 ∨ 9 = 9) ∧ 0 ≤ j ∧ j < q_len 9 a M) rfl).trans (by rw [show q_len 9 a M = 4 from rfl]; simp; exact fun _ _ => Iff.rfl)
theorem x_cpy {sp dp n : Int} {ks s kd dd : Nat} : q_T md d P nx (.monitorexit :: ops) ls (qI n :: qI dp :: qR kd dd :: qI sp :: qR ks s :: st) g M Q = ((q_isA ks = true ∧ q_isA kd = true ∧ 0 ≤ sp ∧ 0 ≤ dp ∧ 0 ≤ n ∧ sp + n ≤ q_len ks s M ∧ dp + n ≤ q_len kd dd M ∧ st.length ≤ 3) ∧ q_T md d P nx ops ls st g (q_cpy M s sp.toNat dd dp.toNat n.toNat) Q) := q_T_if rfl
end ARRAYS
section CALLS
theorem q_T_callif {md d : Nat} {P : q_P} {nx id n : Nat} {ops : List Instr} {ls st rest as : List q_V} {g : q_G} {M : q_M} {Q : Option q_V → q_G → q_M → Prop}
    (hn : q_mN id = n) (hlen : as.length = n) (hl : st = as.reverse ++ rest) (hd : (as.reverse ++ rest).drop n = rest) (ht : ((as.reverse ++ rest).take n).reverse = as) (hr : q_rcv (q_mK id) as = true) (hs : as.all q_set = true) (he : (q_entL as).length ≤ q_mL id) :
    q_T md (d + 1) P nx (.invokestatic id :: ops) ls st g M Q = (rest.length ≤ 4 ∧ q_S md d id as g M (q_K md (d + 1) P nx ops ls rest Q)) := by
  subst hl
  have hle : n ≤ (as.reverse ++ rest).length := by
    simp
    omega
  have ht2 : ((as.reverse ++ rest).take n).all q_set = true := by
    rw [← List.all_reverse, ht]
    exact hs
  have key : q_step md P (nx, .invokestatic id :: ops, ls, as.reverse ++ rest, g, M) = if rest.length ≤ 4 then some (.inr (.inr (id, as, (nx, ops, ls, rest, g, M)))) else none := by
    show (if q_mN id ≤ (as.reverse ++ rest).length ∧ _ then _ else none) = _
    rw [hn, hd, ht]
    simp only [hle, hr, ht2, he, true_and, and_true]
  by_cases h4 : rest.length ≤ 4
  · rw [if_pos h4] at key
    rw [q_T_call key]
    simp [h4]
  · rw [if_neg h4] at key
    rw [q_T_stuck key]
    simp [h4]
variable {md d : Nat} {P : q_P} {nx : Nat} {ops : List Instr} {ls st : List q_V} {g : q_G} {M : q_M} {Q : Option q_V → q_G → q_M → Prop}
theorem c_X0_copyFrom {w : Nat} {k0 y0 : Nat} : q_T md (d + 1) P nx (.invokestatic 1 :: ops) ls (qR k0 y0 :: qR 0 w :: st) g M Q = (st.length ≤ 4 ∧ q_S md d 1 [qR 0 w, qR k0 y0] g M (q_K md (d + 1) P nx ops ls st Q)) := q_T_callif (id := 1) (n := 2) rfl rfl rfl rfl rfl rfl rfl (Nat.le_of_ble_eq_true rfl)
theorem c_X0_emptyAll {w : Nat} : q_T md (d + 1) P nx (.invokestatic 2 :: ops) ls (qR 0 w :: st) g M Q = (st.length ≤ 4 ∧ q_S md d 2 [qR 0 w] g M (q_K md (d + 1) P nx ops ls st Q)) := q_T_callif (id := 2) (n := 1) rfl rfl rfl rfl rfl rfl rfl (Nat.le_of_ble_eq_true rfl)
theorem c_X0_inNone {w : Nat} : q_T md (d + 1) P nx (.invokestatic 3 :: ops) ls (qR 0 w :: st) g M Q = (st.length ≤ 4 ∧ q_S md d 3 [qR 0 w] g M (q_K md (d + 1) P nx ops ls st Q)) := q_T_callif (id := 3) (n := 1) rfl rfl rfl rfl rfl rfl rfl (Nat.le_of_ble_eq_true rfl)
theorem c_X0_housed {w : Nat} {x0 : Int} : q_T md (d + 1) P nx (.invokestatic 4 :: ops) ls (qI x0 :: qR 0 w :: st) g M Q = (st.length ≤ 4 ∧ q_S md d 4 [qR 0 w, qI x0] g M (q_K md (d + 1) P nx ops ls st Q)) := q_T_callif (id := 4) (n := 2) rfl rfl rfl rfl rfl rfl rfl (Nat.le_of_ble_eq_true rfl)
theorem c_X0_housedBits {w : Nat} {x0 : Int} : q_T md (d + 1) P nx (.invokestatic 5 :: ops) ls (qI x0 :: qR 0 w :: st) g M Q = (st.length ≤ 4 ∧ q_S md d 5 [qR 0 w, qI x0] g M (q_K md (d + 1) P nx ops ls st Q)) := q_T_callif (id := 5) (n := 2) rfl rfl rfl rfl rfl rfl rfl (Nat.le_of_ble_eq_true rfl)
theorem c_X0_digits {w : Nat} : q_T md (d + 1) P nx (.invokestatic 6 :: ops) ls (qR 0 w :: st) g M Q = (st.length ≤ 4 ∧ q_S md d 6 [qR 0 w] g M (q_K md (d + 1) P nx ops ls st Q)) := q_T_callif (id := 6) (n := 1) rfl rfl rfl rfl rfl rfl rfl (Nat.le_of_ble_eq_true rfl)
theorem c_X0_liked {w : Nat} : q_T md (d + 1) P nx (.invokestatic 7 :: ops) ls (qR 0 w :: st) g M Q = (st.length ≤ 4 ∧ q_S md d 7 [qR 0 w] g M (q_K md (d + 1) P nx ops ls st Q)) := q_T_callif (id := 7) (n := 1) rfl rfl rfl rfl rfl rfl rfl (Nat.le_of_ble_eq_true rfl)
theorem c_X0_wanted {w : Nat} : q_T md (d + 1) P nx (.invokestatic 8 :: ops) ls (qR 0 w :: st) g M Q = (st.length ≤ 4 ∧ q_S md d 8 [qR 0 w] g M (q_K md (d + 1) P nx ops ls st Q)) := q_T_callif (id := 8) (n := 1) rfl rfl rfl rfl rfl rfl rfl (Nat.le_of_ble_eq_true rfl)
theorem c_X0_ratherBeIn {w : Nat} {x0 : Int} {x1 : Int} {x2 : Int} : q_T md (d + 1) P nx (.invokestatic 9 :: ops) ls (qI x2 :: qI x1 :: qI x0 :: qR 0 w :: st) g M Q = (st.length ≤ 4 ∧ q_S md d 9 [qR 0 w, qI x0, qI x1, qI x2] g M (q_K md (d + 1) P nx ops ls st Q)) := q_T_callif (id := 9) (n := 4) rfl rfl rfl rfl rfl rfl rfl (Nat.le_of_ble_eq_true rfl)
theorem c_X0_dearest {w : Nat} {x0 : Int} {x1 : Int} : q_T md (d + 1) P nx (.invokestatic 10 :: ops) ls (qI x1 :: qI x0 :: qR 0 w :: st) g M Q = (st.length ≤ 4 ∧ q_S md d 10 [qR 0 w, qI x0, qI x1] g M (q_K md (d + 1) P nx ops ls st Q)) := q_T_callif (id := 10) (n := 3) rfl rfl rfl rfl rfl rfl rfl (Nat.le_of_ble_eq_true rfl)
theorem c_X0_ratherHave {w : Nat} {x0 : Int} {x1 : Int} {x2 : Int} : q_T md (d + 1) P nx (.invokestatic 11 :: ops) ls (qI x2 :: qI x1 :: qI x0 :: qR 0 w :: st) g M Q = (st.length ≤ 4 ∧ q_S md d 11 [qR 0 w, qI x0, qI x1, qI x2] g M (q_K md (d + 1) P nx ops ls st Q)) := q_T_callif (id := 11) (n := 4) rfl rfl rfl rfl rfl rfl rfl (Nat.le_of_ble_eq_true rfl)
theorem c_X0_last {w : Nat} {x0 : Int} : q_T md (d + 1) P nx (.invokestatic 12 :: ops) ls (qI x0 :: qR 0 w :: st) g M Q = (st.length ≤ 4 ∧ q_S md d 12 [qR 0 w, qI x0] g M (q_K md (d + 1) P nx ops ls st Q)) := q_T_callif (id := 12) (n := 2) rfl rfl rfl rfl rfl rfl rfl (Nat.le_of_ble_eq_true rfl)
theorem c_X0_takes {w : Nat} {x0 : Int} {x1 : Int} : q_T md (d + 1) P nx (.invokestatic 13 :: ops) ls (qI x1 :: qI x0 :: qR 0 w :: st) g M Q = (st.length ≤ 4 ∧ q_S md d 13 [qR 0 w, qI x0, qI x1] g M (q_K md (d + 1) P nx ops ls st Q)) := q_T_callif (id := 13) (n := 3) rfl rfl rfl rfl rfl rfl rfl (Nat.le_of_ble_eq_true rfl)
theorem c_X0_comeIn {w : Nat} {x0 : Int} {x1 : Int} : q_T md (d + 1) P nx (.invokestatic 14 :: ops) ls (qI x1 :: qI x0 :: qR 0 w :: st) g M Q = (st.length ≤ 4 ∧ q_S md d 14 [qR 0 w, qI x0, qI x1] g M (q_K md (d + 1) P nx ops ls st Q)) := q_T_callif (id := 14) (n := 3) rfl rfl rfl rfl rfl rfl rfl (Nat.le_of_ble_eq_true rfl)
theorem c_X0_askInTurn {w : Nat} : q_T md (d + 1) P nx (.invokestatic 15 :: ops) ls (qR 0 w :: st) g M Q = (st.length ≤ 4 ∧ q_S md d 15 [qR 0 w] g M (q_K md (d + 1) P nx ops ls st Q)) := q_T_callif (id := 15) (n := 1) rfl rfl rfl rfl rfl rfl rfl (Nat.le_of_ble_eq_true rfl)
theorem c_X0_ask {w : Nat} {x0 : Int} {x1 : Int} : q_T md (d + 1) P nx (.invokestatic 16 :: ops) ls (qI x1 :: qI x0 :: qR 0 w :: st) g M Q = (st.length ≤ 4 ∧ q_S md d 16 [qR 0 w, qI x0, qI x1] g M (q_K md (d + 1) P nx ops ls st Q)) := q_T_callif (id := 16) (n := 3) rfl rfl rfl rfl rfl rfl rfl (Nat.le_of_ble_eq_true rfl)
theorem c_X0_complaint {w : Nat} : q_T md (d + 1) P nx (.invokestatic 17 :: ops) ls (qR 0 w :: st) g M Q = (st.length ≤ 4 ∧ q_S md d 17 [qR 0 w] g M (q_K md (d + 1) P nx ops ls st Q)) := q_T_callif (id := 17) (n := 1) rfl rfl rfl rfl rfl rfl rfl (Nat.le_of_ble_eq_true rfl)
theorem c_X0_fits {w : Nat} : q_T md (d + 1) P nx (.invokestatic 18 :: ops) ls (qR 0 w :: st) g M Q = (st.length ≤ 4 ∧ q_S md d 18 [qR 0 w] g M (q_K md (d + 1) P nx ops ls st Q)) := q_T_callif (id := 18) (n := 1) rfl rfl rfl rfl rfl rfl rfl (Nat.le_of_ble_eq_true rfl)
theorem c_X0_nextWay {w : Nat} : q_T md (d + 1) P nx (.invokestatic 19 :: ops) ls (qR 0 w :: st) g M Q = (st.length ≤ 4 ∧ q_S md d 19 [qR 0 w] g M (q_K md (d + 1) P nx ops ls st Q)) := q_T_callif (id := 19) (n := 1) rfl rfl rfl rfl rfl rfl rfl (Nat.le_of_ble_eq_true rfl)
theorem c_X1_clear {w : Nat} : q_T md (d + 1) P nx (.invokestatic 21 :: ops) ls (qR 1 w :: st) g M Q = (st.length ≤ 4 ∧ q_S md d 21 [qR 1 w] g M (q_K md (d + 1) P nx ops ls st Q)) := q_T_callif (id := 21) (n := 1) rfl rfl rfl rfl rfl rfl rfl (Nat.le_of_ble_eq_true rfl)
theorem c_X1_take {w : Nat} {x0 : Int} : q_T md (d + 1) P nx (.invokestatic 22 :: ops) ls (qI x0 :: qR 1 w :: st) g M Q = (st.length ≤ 4 ∧ q_S md d 22 [qR 1 w, qI x0] g M (q_K md (d + 1) P nx ops ls st Q)) := q_T_callif (id := 22) (n := 2) rfl rfl rfl rfl rfl rfl rfl (Nat.le_of_ble_eq_true rfl)
theorem c_X1_read {w : Nat} : q_T md (d + 1) P nx (.invokestatic 23 :: ops) ls (qR 1 w :: st) g M Q = (st.length ≤ 4 ∧ q_S md d 23 [qR 1 w] g M (q_K md (d + 1) P nx ops ls st Q)) := q_T_callif (id := 23) (n := 1) rfl rfl rfl rfl rfl rfl rfl (Nat.le_of_ble_eq_true rfl)
theorem c_X1_made {w : Nat} {x0 : Int} : q_T md (d + 1) P nx (.invokestatic 24 :: ops) ls (qI x0 :: qR 1 w :: st) g M Q = (st.length ≤ 4 ∧ q_S md d 24 [qR 1 w, qI x0] g M (q_K md (d + 1) P nx ops ls st Q)) := q_T_callif (id := 24) (n := 2) rfl rfl rfl rfl rfl rfl rfl (Nat.le_of_ble_eq_true rfl)
theorem c_X1_part {w : Nat} {x0 : Int} {x1 : Int} : q_T md (d + 1) P nx (.invokestatic 25 :: ops) ls (qI x1 :: qI x0 :: qR 1 w :: st) g M Q = (st.length ≤ 4 ∧ q_S md d 25 [qR 1 w, qI x0, qI x1] g M (q_K md (d + 1) P nx ops ls st Q)) := q_T_callif (id := 25) (n := 3) rfl rfl rfl rfl rfl rfl rfl (Nat.le_of_ble_eq_true rfl)
theorem c_X1_expect {w : Nat} {x0 : Int} : q_T md (d + 1) P nx (.invokestatic 26 :: ops) ls (qI x0 :: qR 1 w :: st) g M Q = (st.length ≤ 4 ∧ q_S md d 26 [qR 1 w, qI x0] g M (q_K md (d + 1) P nx ops ls st Q)) := q_T_callif (id := 26) (n := 2) rfl rfl rfl rfl rfl rfl rfl (Nat.le_of_ble_eq_true rfl)
theorem c_X1_fail {w : Nat} : q_T md (d + 1) P nx (.invokestatic 27 :: ops) ls (qR 1 w :: st) g M Q = (st.length ≤ 4 ∧ q_S md d 27 [qR 1 w] g M (q_K md (d + 1) P nx ops ls st Q)) := q_T_callif (id := 27) (n := 1) rfl rfl rfl rfl rfl rfl rfl (Nat.le_of_ble_eq_true rfl)
theorem c_X1_emit {w : Nat} {x0 : Int} {x1 : Int} : q_T md (d + 1) P nx (.invokestatic 28 :: ops) ls (qI x1 :: qI x0 :: qR 1 w :: st) g M Q = (st.length ≤ 4 ∧ q_S md d 28 [qR 1 w, qI x0, qI x1] g M (q_K md (d + 1) P nx ops ls st Q)) := q_T_callif (id := 28) (n := 3) rfl rfl rfl rfl rfl rfl rfl (Nat.le_of_ble_eq_true rfl)
theorem c_X1_either {w : Nat} {x0 : Int} : q_T md (d + 1) P nx (.invokestatic 29 :: ops) ls (qI x0 :: qR 1 w :: st) g M Q = (st.length ≤ 4 ∧ q_S md d 29 [qR 1 w, qI x0] g M (q_K md (d + 1) P nx ops ls st Q)) := q_T_callif (id := 29) (n := 2) rfl rfl rfl rfl rfl rfl rfl (Nat.le_of_ble_eq_true rfl)
theorem c_X1_both {w : Nat} {x0 : Int} : q_T md (d + 1) P nx (.invokestatic 30 :: ops) ls (qI x0 :: qR 1 w :: st) g M Q = (st.length ≤ 4 ∧ q_S md d 30 [qR 1 w, qI x0] g M (q_K md (d + 1) P nx ops ls st Q)) := q_T_callif (id := 30) (n := 2) rfl rfl rfl rfl rfl rfl rfl (Nat.le_of_ble_eq_true rfl)
theorem c_X1_not {w : Nat} {x0 : Int} : q_T md (d + 1) P nx (.invokestatic 31 :: ops) ls (qI x0 :: qR 1 w :: st) g M Q = (st.length ≤ 4 ∧ q_S md d 31 [qR 1 w, qI x0] g M (q_K md (d + 1) P nx ops ls st Q)) := q_T_callif (id := 31) (n := 2) rfl rfl rfl rfl rfl rfl rfl (Nat.le_of_ble_eq_true rfl)
theorem c_X1_sum {w : Nat} {x0 : Int} : q_T md (d + 1) P nx (.invokestatic 32 :: ops) ls (qI x0 :: qR 1 w :: st) g M Q = (st.length ≤ 4 ∧ q_S md d 32 [qR 1 w, qI x0] g M (q_K md (d + 1) P nx ops ls st Q)) := q_T_callif (id := 32) (n := 2) rfl rfl rfl rfl rfl rfl rfl (Nat.le_of_ble_eq_true rfl)
theorem c_X1_term {w : Nat} {x0 : Int} : q_T md (d + 1) P nx (.invokestatic 33 :: ops) ls (qI x0 :: qR 1 w :: st) g M Q = (st.length ≤ 4 ∧ q_S md d 33 [qR 1 w, qI x0] g M (q_K md (d + 1) P nx ops ls st Q)) := q_T_callif (id := 33) (n := 2) rfl rfl rfl rfl rfl rfl rfl (Nat.le_of_ble_eq_true rfl)
theorem c_X1_one {w : Nat} {x0 : Int} : q_T md (d + 1) P nx (.invokestatic 34 :: ops) ls (qI x0 :: qR 1 w :: st) g M Q = (st.length ≤ 4 ∧ q_S md d 34 [qR 1 w, qI x0] g M (q_K md (d + 1) P nx ops ls st Q)) := q_T_callif (id := 34) (n := 2) rfl rfl rfl rfl rfl rfl rfl (Nat.le_of_ble_eq_true rfl)
theorem c_X1_next {w : Nat} : q_T md (d + 1) P nx (.invokestatic 35 :: ops) ls (qR 1 w :: st) g M Q = (st.length ≤ 4 ∧ q_S md d 35 [qR 1 w] g M (q_K md (d + 1) P nx ops ls st Q)) := q_T_callif (id := 35) (n := 1) rfl rfl rfl rfl rfl rfl rfl (Nat.le_of_ble_eq_true rfl)
theorem c_X1_word {w : Nat} : q_T md (d + 1) P nx (.invokestatic 36 :: ops) ls (qR 1 w :: st) g M Q = (st.length ≤ 4 ∧ q_S md d 36 [qR 1 w] g M (q_K md (d + 1) P nx ops ls st Q)) := q_T_callif (id := 36) (n := 1) rfl rfl rfl rfl rfl rfl rfl (Nat.le_of_ble_eq_true rfl)
theorem c_X1_number {w : Nat} : q_T md (d + 1) P nx (.invokestatic 37 :: ops) ls (qR 1 w :: st) g M Q = (st.length ≤ 4 ∧ q_S md d 37 [qR 1 w] g M (q_K md (d + 1) P nx ops ls st Q)) := q_T_callif (id := 37) (n := 1) rfl rfl rfl rfl rfl rfl rfl (Nat.le_of_ble_eq_true rfl)
theorem c_X1_mean {w : Nat} {t0 : Nat} {x1 : Int} {x2 : Int} : q_T md (d + 1) P nx (.invokestatic 38 :: ops) ls (qI x2 :: qI x1 :: qS (16 + t0) :: qR 1 w :: st) g M Q = (st.length ≤ 4 ∧ q_S md d 38 [qR 1 w, qS (16 + t0), qI x1, qI x2] g M (q_K md (d + 1) P nx ops ls st Q)) := q_T_callif (id := 38) (n := 4) rfl rfl rfl rfl rfl rfl (by simp [q_set, qS, qR, qI]) (Nat.le_of_ble_eq_true rfl)
theorem c_X1_isLetter {x0 : Int} : q_T md (d + 1) P nx (.invokestatic 39 :: ops) ls (qI x0 :: st) g M Q = (st.length ≤ 4 ∧ q_S md d 39 [qI x0] g M (q_K md (d + 1) P nx ops ls st Q)) := q_T_callif (id := 39) (n := 1) rfl rfl rfl rfl rfl rfl rfl (Nat.le_of_ble_eq_true rfl)
theorem c_X1_isDigit {x0 : Int} : q_T md (d + 1) P nx (.invokestatic 40 :: ops) ls (qI x0 :: st) g M Q = (st.length ≤ 4 ∧ q_S md d 40 [qI x0] g M (q_K md (d + 1) P nx ops ls st Q)) := q_T_callif (id := 40) (n := 1) rfl rfl rfl rfl rfl rfl rfl (Nat.le_of_ble_eq_true rfl)
theorem c_X1_isSign {x0 : Int} : q_T md (d + 1) P nx (.invokestatic 41 :: ops) ls (qI x0 :: st) g M Q = (st.length ≤ 4 ∧ q_S md d 41 [qI x0] g M (q_K md (d + 1) P nx ops ls st Q)) := q_T_callif (id := 41) (n := 1) rfl rfl rfl rfl rfl rfl rfl (Nat.le_of_ble_eq_true rfl)
theorem c_X2_isMissing {w : Nat} : q_T md (d + 1) P nx (.invokestatic 43 :: ops) ls (qR 2 w :: st) g M Q = (st.length ≤ 4 ∧ q_S md d 43 [qR 2 w] g M (q_K md (d + 1) P nx ops ls st Q)) := q_T_callif (id := 43) (n := 1) rfl rfl rfl rfl rfl rfl rfl (Nat.le_of_ble_eq_true rfl)
theorem c_X2_become {w : Nat} {x0 : Int} {x1 : Int} : q_T md (d + 1) P nx (.invokestatic 44 :: ops) ls (qI x1 :: qI x0 :: qR 2 w :: st) g M Q = (st.length ≤ 4 ∧ q_S md d 44 [qR 2 w, qI x0, qI x1] g M (q_K md (d + 1) P nx ops ls st Q)) := q_T_callif (id := 44) (n := 3) rfl rfl rfl rfl rfl rfl rfl (Nat.le_of_ble_eq_true rfl)
theorem c_X2_write {w : Nat} {x0 : Int} {x1 : Int} : q_T md (d + 1) P nx (.invokestatic 45 :: ops) ls (qI x1 :: qI x0 :: qR 2 w :: st) g M Q = (st.length ≤ 4 ∧ q_S md d 45 [qR 2 w, qI x0, qI x1] g M (q_K md (d + 1) P nx ops ls st Q)) := q_T_callif (id := 45) (n := 3) rfl rfl rfl rfl rfl rfl rfl (Nat.le_of_ble_eq_true rfl)
theorem c_X3_init {w : Nat} {x0 : Int} {k1 y1 : Nat} {k2 y2 : Nat} : q_T md (d + 1) P nx (.invokestatic 46 :: ops) ls (qR k2 y2 :: qR k1 y1 :: qI x0 :: qR 3 w :: st) g M Q = (st.length ≤ 4 ∧ q_S md d 46 [qR 3 w, qI x0, qR k1 y1, qR k2 y2] g M (q_K md (d + 1) P nx ops ls st Q)) := q_T_callif (id := 46) (n := 4) rfl rfl rfl rfl rfl rfl rfl (Nat.le_of_ble_eq_true rfl)
theorem c_X3_value {w : Nat} {x0 : Int} {k1 y1 : Nat} : q_T md (d + 1) P nx (.invokestatic 47 :: ops) ls (qR k1 y1 :: qI x0 :: qR 3 w :: st) g M Q = (st.length ≤ 4 ∧ q_S md d 47 [qR 3 w, qI x0, qR k1 y1] g M (q_K md (d + 1) P nx ops ls st Q)) := q_T_callif (id := 47) (n := 3) rfl rfl rfl rfl rfl rfl rfl (Nat.le_of_ble_eq_true rfl)
theorem c_X4_copyFrom {w : Nat} {k0 y0 : Nat} : q_T md (d + 1) P nx (.invokestatic 49 :: ops) ls (qR k0 y0 :: qR 4 w :: st) g M Q = (st.length ≤ 4 ∧ q_S md d 49 [qR 4 w, qR k0 y0] g M (q_K md (d + 1) P nx ops ls st Q)) := q_T_callif (id := 49) (n := 2) rfl rfl rfl rfl rfl rfl rfl (Nat.le_of_ble_eq_true rfl)
theorem c_X4_add {w : Nat} {x0 : Int} {x1 : Int} {x2 : Int} : q_T md (d + 1) P nx (.invokestatic 50 :: ops) ls (qI x2 :: qI x1 :: qI x0 :: qR 4 w :: st) g M Q = (st.length ≤ 4 ∧ q_S md d 50 [qR 4 w, qI x0, qI x1, qI x2] g M (q_K md (d + 1) P nx ops ls st Q)) := q_T_callif (id := 50) (n := 4) rfl rfl rfl rfl rfl rfl rfl (Nat.le_of_ble_eq_true rfl)
theorem c_X4_lay {w : Nat} {x0 : Int} {x1 : Int} : q_T md (d + 1) P nx (.invokestatic 51 :: ops) ls (qI x1 :: qI x0 :: qR 4 w :: st) g M Q = (st.length ≤ 4 ∧ q_S md d 51 [qR 4 w, qI x0, qI x1] g M (q_K md (d + 1) P nx ops ls st Q)) := q_T_callif (id := 51) (n := 3) rfl rfl rfl rfl rfl rfl rfl (Nat.le_of_ble_eq_true rfl)
theorem c_X4_move {w : Nat} {x0 : Int} {x1 : Int} : q_T md (d + 1) P nx (.invokestatic 52 :: ops) ls (qI x1 :: qI x0 :: qR 4 w :: st) g M Q = (st.length ≤ 4 ∧ q_S md d 52 [qR 4 w, qI x0, qI x1] g M (q_K md (d + 1) P nx ops ls st Q)) := q_T_callif (id := 52) (n := 3) rfl rfl rfl rfl rfl rfl rfl (Nat.le_of_ble_eq_true rfl)
theorem c_X4_says {w : Nat} {x0 : Int} {x1 : Int} {x2 : Int} : q_T md (d + 1) P nx (.invokestatic 53 :: ops) ls (qI x2 :: qI x1 :: qI x0 :: qR 4 w :: st) g M Q = (st.length ≤ 4 ∧ q_S md d 53 [qR 4 w, qI x0, qI x1, qI x2] g M (q_K md (d + 1) P nx ops ls st Q)) := q_T_callif (id := 53) (n := 4) rfl rfl rfl rfl rfl rfl rfl (Nat.le_of_ble_eq_true rfl)
theorem c_X4_likes {w : Nat} {x0 : Int} {x1 : Int} : q_T md (d + 1) P nx (.invokestatic 54 :: ops) ls (qI x1 :: qI x0 :: qR 4 w :: st) g M Q = (st.length ≤ 4 ∧ q_S md d 54 [qR 4 w, qI x0, qI x1] g M (q_K md (d + 1) P nx ops ls st Q)) := q_T_callif (id := 54) (n := 3) rfl rfl rfl rfl rfl rfl rfl (Nat.le_of_ble_eq_true rfl)
theorem c_X4_wants {w : Nat} {x0 : Int} {x1 : Int} : q_T md (d + 1) P nx (.invokestatic 55 :: ops) ls (qI x1 :: qI x0 :: qR 4 w :: st) g M Q = (st.length ≤ 4 ∧ q_S md d 55 [qR 4 w, qI x0, qI x1] g M (q_K md (d + 1) P nx ops ls st Q)) := q_T_callif (id := 55) (n := 3) rfl rfl rfl rfl rfl rfl rfl (Nat.le_of_ble_eq_true rfl)
theorem c_X4_goes {w : Nat} {x0 : Int} : q_T md (d + 1) P nx (.invokestatic 56 :: ops) ls (qI x0 :: qR 4 w :: st) g M Q = (st.length ≤ 4 ∧ q_S md d 56 [qR 4 w, qI x0] g M (q_K md (d + 1) P nx ops ls st Q)) := q_T_callif (id := 56) (n := 2) rfl rfl rfl rfl rfl rfl rfl (Nat.le_of_ble_eq_true rfl)
theorem c_X4_tellAll {w : Nat} : q_T md (d + 1) P nx (.invokestatic 57 :: ops) ls (qR 4 w :: st) g M Q = (st.length ≤ 4 ∧ q_S md d 57 [qR 4 w] g M (q_K md (d + 1) P nx ops ls st Q)) := q_T_callif (id := 57) (n := 1) rfl rfl rfl rfl rfl rfl rfl (Nat.le_of_ble_eq_true rfl)
theorem c_X4_wish {w : Nat} {x0 : Int} : q_T md (d + 1) P nx (.invokestatic 58 :: ops) ls (qI x0 :: qR 4 w :: st) g M Q = (st.length ≤ 4 ∧ q_S md d 58 [qR 4 w, qI x0] g M (q_K md (d + 1) P nx ops ls st Q)) := q_T_callif (id := 58) (n := 2) rfl rfl rfl rfl rfl rfl rfl (Nat.le_of_ble_eq_true rfl)
theorem c_X4_passYear {w : Nat} : q_T md (d + 1) P nx (.invokestatic 59 :: ops) ls (qR 4 w :: st) g M Q = (st.length ≤ 4 ∧ q_S md d 59 [qR 4 w] g M (q_K md (d + 1) P nx ops ls st Q)) := q_T_callif (id := 59) (n := 1) rfl rfl rfl rfl rfl rfl rfl (Nat.le_of_ble_eq_true rfl)
theorem c_X4_goTo {w : Nat} {x0 : Int} {x1 : Int} : q_T md (d + 1) P nx (.invokestatic 60 :: ops) ls (qI x1 :: qI x0 :: qR 4 w :: st) g M Q = (st.length ≤ 4 ∧ q_S md d 60 [qR 4 w, qI x0, qI x1] g M (q_K md (d + 1) P nx ops ls st Q)) := q_T_callif (id := 60) (n := 3) rfl rfl rfl rfl rfl rfl rfl (Nat.le_of_ble_eq_true rfl)
theorem c_X5_count {w : Nat} {x0 : Int} : q_T md (d + 1) P nx (.invokestatic 62 :: ops) ls (qI x0 :: qR 5 w :: st) g M Q = (st.length ≤ 4 ∧ q_S md d 62 [qR 5 w, qI x0] g M (q_K md (d + 1) P nx ops ls st Q)) := q_T_callif (id := 62) (n := 2) rfl rfl rfl rfl rfl rfl rfl (Nat.le_of_ble_eq_true rfl)
theorem c_X5_dawn {w : Nat} {x0 : Int} : q_T md (d + 1) P nx (.invokestatic 63 :: ops) ls (qI x0 :: qR 5 w :: st) g M Q = (st.length ≤ 4 ∧ q_S md d 63 [qR 5 w, qI x0] g M (q_K md (d + 1) P nx ops ls st Q)) := q_T_callif (id := 63) (n := 2) rfl rfl rfl rfl rfl rfl rfl (Nat.le_of_ble_eq_true rfl)
theorem c_X5_build {w : Nat} {x0 : Int} {x1 : Int} {x2 : Int} : q_T md (d + 1) P nx (.invokestatic 64 :: ops) ls (qI x2 :: qI x1 :: qI x0 :: qR 5 w :: st) g M Q = (st.length ≤ 4 ∧ q_S md d 64 [qR 5 w, qI x0, qI x1, qI x2] g M (q_K md (d + 1) P nx ops ls st Q)) := q_T_callif (id := 64) (n := 4) rfl rfl rfl rfl rfl rfl rfl (Nat.le_of_ble_eq_true rfl)
theorem c_X5_site {w : Nat} {x0 : Int} {x1 : Int} : q_T md (d + 1) P nx (.invokestatic 65 :: ops) ls (qI x1 :: qI x0 :: qR 5 w :: st) g M Q = (st.length ≤ 4 ∧ q_S md d 65 [qR 5 w, qI x0, qI x1] g M (q_K md (d + 1) P nx ops ls st Q)) := q_T_callif (id := 65) (n := 3) rfl rfl rfl rfl rfl rfl rfl (Nat.le_of_ble_eq_true rfl)
theorem c_X5_feed {w : Nat} {x0 : Int} {x1 : Int} {x2 : Int} {x3 : Int} {x4 : Int} {x5 : Int} : q_T md (d + 1) P nx (.invokestatic 66 :: ops) ls (qI x5 :: qI x4 :: qI x3 :: qI x2 :: qI x1 :: qI x0 :: qR 5 w :: st) g M Q = (st.length ≤ 4 ∧ q_S md d 66 [qR 5 w, qI x0, qI x1, qI x2, qI x3, qI x4, qI x5] g M (q_K md (d + 1) P nx ops ls st Q)) := q_T_callif (id := 66) (n := 7) rfl rfl rfl rfl rfl rfl rfl (Nat.le_of_ble_eq_true rfl)
theorem c_X5_text {w : Nat} : q_T md (d + 1) P nx (.invokestatic 67 :: ops) ls (qR 5 w :: st) g M Q = (st.length ≤ 4 ∧ q_S md d 67 [qR 5 w] g M (q_K md (d + 1) P nx ops ls st Q)) := q_T_callif (id := 67) (n := 1) rfl rfl rfl rfl rfl rfl rfl (Nat.le_of_ble_eq_true rfl)
theorem c_X5_force {w : Nat} {x0 : Int} : q_T md (d + 1) P nx (.invokestatic 68 :: ops) ls (qI x0 :: qR 5 w :: st) g M Q = (st.length ≤ 4 ∧ q_S md d 68 [qR 5 w, qI x0] g M (q_K md (d + 1) P nx ops ls st Q)) := q_T_callif (id := 68) (n := 2) rfl rfl rfl rfl rfl rfl rfl (Nat.le_of_ble_eq_true rfl)
theorem c_X5_asks {w : Nat} {x0 : Int} {x1 : Int} {x2 : Int} : q_T md (d + 1) P nx (.invokestatic 69 :: ops) ls (qI x2 :: qI x1 :: qI x0 :: qR 5 w :: st) g M Q = (st.length ≤ 4 ∧ q_S md d 69 [qR 5 w, qI x0, qI x1, qI x2] g M (q_K md (d + 1) P nx ops ls st Q)) := q_T_callif (id := 69) (n := 4) rfl rfl rfl rfl rfl rfl rfl (Nat.le_of_ble_eq_true rfl)
theorem c_X5_stone {w : Nat} {x0 : Int} {x1 : Int} {x2 : Int} : q_T md (d + 1) P nx (.invokestatic 70 :: ops) ls (qI x2 :: qI x1 :: qI x0 :: qR 5 w :: st) g M Q = (st.length ≤ 4 ∧ q_S md d 70 [qR 5 w, qI x0, qI x1, qI x2] g M (q_K md (d + 1) P nx ops ls st Q)) := q_T_callif (id := 70) (n := 4) rfl rfl rfl rfl rfl rfl rfl (Nat.le_of_ble_eq_true rfl)
theorem c_X5_put {w : Nat} {x0 : Int} {x1 : Int} {x2 : Int} : q_T md (d + 1) P nx (.invokestatic 71 :: ops) ls (qI x2 :: qI x1 :: qI x0 :: qR 5 w :: st) g M Q = (st.length ≤ 4 ∧ q_S md d 71 [qR 5 w, qI x0, qI x1, qI x2] g M (q_K md (d + 1) P nx ops ls st Q)) := q_T_callif (id := 71) (n := 4) rfl rfl rfl rfl rfl rfl rfl (Nat.le_of_ble_eq_true rfl)
theorem c_X5_told {w : Nat} {x0 : Int} {x1 : Int} : q_T md (d + 1) P nx (.invokestatic 72 :: ops) ls (qI x1 :: qI x0 :: qR 5 w :: st) g M Q = (st.length ≤ 4 ∧ q_S md d 72 [qR 5 w, qI x0, qI x1] g M (q_K md (d + 1) P nx ops ls st Q)) := q_T_callif (id := 72) (n := 3) rfl rfl rfl rfl rfl rfl rfl (Nat.le_of_ble_eq_true rfl)
theorem c_X5_love {w : Nat} {x0 : Int} {x1 : Int} {x2 : Int} : q_T md (d + 1) P nx (.invokestatic 73 :: ops) ls (qI x2 :: qI x1 :: qI x0 :: qR 5 w :: st) g M Q = (st.length ≤ 4 ∧ q_S md d 73 [qR 5 w, qI x0, qI x1, qI x2] g M (q_K md (d + 1) P nx ops ls st Q)) := q_T_callif (id := 73) (n := 4) rfl rfl rfl rfl rfl rfl rfl (Nat.le_of_ble_eq_true rfl)
theorem c_X5_year {w : Nat} : q_T md (d + 1) P nx (.invokestatic 74 :: ops) ls (qR 5 w :: st) g M Q = (st.length ≤ 4 ∧ q_S md d 74 [qR 5 w] g M (q_K md (d + 1) P nx ops ls st Q)) := q_T_callif (id := 74) (n := 1) rfl rfl rfl rfl rfl rfl rfl (Nat.le_of_ble_eq_true rfl)
theorem c_X5_run {w : Nat} {x0 : Int} {x1 : Int} : q_T md (d + 1) P nx (.invokestatic 75 :: ops) ls (qI x1 :: qI x0 :: qR 5 w :: st) g M Q = (st.length ≤ 4 ∧ q_S md d 75 [qR 5 w, qI x0, qI x1] g M (q_K md (d + 1) P nx ops ls st Q)) := q_T_callif (id := 75) (n := 3) rfl rfl rfl rfl rfl rfl rfl (Nat.le_of_ble_eq_true rfl)
theorem c_X5_when {w : Nat} {x0 : Int} {x1 : Int} : q_T md (d + 1) P nx (.invokestatic 76 :: ops) ls (qI x1 :: qI x0 :: qR 5 w :: st) g M Q = (st.length ≤ 4 ∧ q_S md d 76 [qR 5 w, qI x0, qI x1] g M (q_K md (d + 1) P nx ops ls st Q)) := q_T_callif (id := 76) (n := 3) rfl rfl rfl rfl rfl rfl rfl (Nat.le_of_ble_eq_true rfl)
theorem c_X5_peace {w : Nat} {x0 : Int} : q_T md (d + 1) P nx (.invokestatic 77 :: ops) ls (qI x0 :: qR 5 w :: st) g M Q = (st.length ≤ 4 ∧ q_S md d 77 [qR 5 w, qI x0] g M (q_K md (d + 1) P nx ops ls st Q)) := q_T_callif (id := 77) (n := 2) rfl rfl rfl rfl rfl rfl rfl (Nat.le_of_ble_eq_true rfl)
theorem c_X5_court {w : Nat} {x0 : Int} : q_T md (d + 1) P nx (.invokestatic 78 :: ops) ls (qI x0 :: qR 5 w :: st) g M Q = (st.length ≤ 4 ∧ q_S md d 78 [qR 5 w, qI x0] g M (q_K md (d + 1) P nx ops ls st Q)) := q_T_callif (id := 78) (n := 2) rfl rfl rfl rfl rfl rfl rfl (Nat.le_of_ble_eq_true rfl)
theorem c_X5_all {w : Nat} {x0 : Int} : q_T md (d + 1) P nx (.invokestatic 79 :: ops) ls (qI x0 :: qR 5 w :: st) g M Q = (st.length ≤ 4 ∧ q_S md d 79 [qR 5 w, qI x0] g M (q_K md (d + 1) P nx ops ls st Q)) := q_T_callif (id := 79) (n := 2) rfl rfl rfl rfl rfl rfl rfl (Nat.le_of_ble_eq_true rfl)
theorem c_X5_annex {w : Nat} {x0 : Int} : q_T md (d + 1) P nx (.invokestatic 80 :: ops) ls (qI x0 :: qR 5 w :: st) g M Q = (st.length ≤ 4 ∧ q_S md d 80 [qR 5 w, qI x0] g M (q_K md (d + 1) P nx ops ls st Q)) := q_T_callif (id := 80) (n := 2) rfl rfl rfl rfl rfl rfl rfl (Nat.le_of_ble_eq_true rfl)
theorem c_X5_cart {w : Nat} {x0 : Int} {x1 : Int} : q_T md (d + 1) P nx (.invokestatic 81 :: ops) ls (qI x1 :: qI x0 :: qR 5 w :: st) g M Q = (st.length ≤ 4 ∧ q_S md d 81 [qR 5 w, qI x0, qI x1] g M (q_K md (d + 1) P nx ops ls st Q)) := q_T_callif (id := 81) (n := 3) rfl rfl rfl rfl rfl rfl rfl (Nat.le_of_ble_eq_true rfl)
theorem c_X5_share {w : Nat} {x0 : Int} : q_T md (d + 1) P nx (.invokestatic 82 :: ops) ls (qI x0 :: qR 5 w :: st) g M Q = (st.length ≤ 4 ∧ q_S md d 82 [qR 5 w, qI x0] g M (q_K md (d + 1) P nx ops ls st Q)) := q_T_callif (id := 82) (n := 2) rfl rfl rfl rfl rfl rfl rfl (Nat.le_of_ble_eq_true rfl)
theorem c_X5_judge {w : Nat} {x0 : Int} {x1 : Int} : q_T md (d + 1) P nx (.invokestatic 83 :: ops) ls (qI x1 :: qI x0 :: qR 5 w :: st) g M Q = (st.length ≤ 4 ∧ q_S md d 83 [qR 5 w, qI x0, qI x1] g M (q_K md (d + 1) P nx ops ls st Q)) := q_T_callif (id := 83) (n := 3) rfl rfl rfl rfl rfl rfl rfl (Nat.le_of_ble_eq_true rfl)
theorem c_X5_kinds {w : Nat} {x0 : Int} {x1 : Int} {x2 : Int} : q_T md (d + 1) P nx (.invokestatic 84 :: ops) ls (qI x2 :: qI x1 :: qI x0 :: qR 5 w :: st) g M Q = (st.length ≤ 4 ∧ q_S md d 84 [qR 5 w, qI x0, qI x1, qI x2] g M (q_K md (d + 1) P nx ops ls st Q)) := q_T_callif (id := 84) (n := 4) rfl rfl rfl rfl rfl rfl rfl (Nat.le_of_ble_eq_true rfl)
theorem c_X5_states {w : Nat} {x0 : Int} {x1 : Int} {x2 : Int} {x3 : Int} : q_T md (d + 1) P nx (.invokestatic 85 :: ops) ls (qI x3 :: qI x2 :: qI x1 :: qI x0 :: qR 5 w :: st) g M Q = (st.length ≤ 4 ∧ q_S md d 85 [qR 5 w, qI x0, qI x1, qI x2, qI x3] g M (q_K md (d + 1) P nx ops ls st Q)) := q_T_callif (id := 85) (n := 5) rfl rfl rfl rfl rfl rfl rfl (Nat.le_of_ble_eq_true rfl)
theorem c_X5_whose {w : Nat} {x0 : Int} : q_T md (d + 1) P nx (.invokestatic 86 :: ops) ls (qI x0 :: qR 5 w :: st) g M Q = (st.length ≤ 4 ∧ q_S md d 86 [qR 5 w, qI x0] g M (q_K md (d + 1) P nx ops ls st Q)) := q_T_callif (id := 86) (n := 2) rfl rfl rfl rfl rfl rfl rfl (Nat.le_of_ble_eq_true rfl)
theorem c_X5_laws {w : Nat} {x0 : Int} {x1 : Int} : q_T md (d + 1) P nx (.invokestatic 87 :: ops) ls (qI x1 :: qI x0 :: qR 5 w :: st) g M Q = (st.length ≤ 4 ∧ q_S md d 87 [qR 5 w, qI x0, qI x1] g M (q_K md (d + 1) P nx ops ls st Q)) := q_T_callif (id := 87) (n := 3) rfl rfl rfl rfl rfl rfl rfl (Nat.le_of_ble_eq_true rfl)
theorem c_X5_film {w : Nat} {x0 : Int} {x1 : Int} {x2 : Int} : q_T md (d + 1) P nx (.invokestatic 88 :: ops) ls (qI x2 :: qI x1 :: qI x0 :: qR 5 w :: st) g M Q = (st.length ≤ 4 ∧ q_S md d 88 [qR 5 w, qI x0, qI x1, qI x2] g M (q_K md (d + 1) P nx ops ls st Q)) := q_T_callif (id := 88) (n := 4) rfl rfl rfl rfl rfl rfl rfl (Nat.le_of_ble_eq_true rfl)
theorem c_X5_drawn {w : Nat} {x0 : Int} {x1 : Int} : q_T md (d + 1) P nx (.invokestatic 89 :: ops) ls (qI x1 :: qI x0 :: qR 5 w :: st) g M Q = (st.length ≤ 4 ∧ q_S md d 89 [qR 5 w, qI x0, qI x1] g M (q_K md (d + 1) P nx ops ls st Q)) := q_T_callif (id := 89) (n := 3) rfl rfl rfl rfl rfl rfl rfl (Nat.le_of_ble_eq_true rfl)
theorem c_X5_odds {w : Nat} {x0 : Int} {x1 : Int} {x2 : Int} {x3 : Int} : q_T md (d + 1) P nx (.invokestatic 90 :: ops) ls (qI x3 :: qI x2 :: qI x1 :: qI x0 :: qR 5 w :: st) g M Q = (st.length ≤ 4 ∧ q_S md d 90 [qR 5 w, qI x0, qI x1, qI x2, qI x3] g M (q_K md (d + 1) P nx ops ls st Q)) := q_T_callif (id := 90) (n := 5) rfl rfl rfl rfl rfl rfl rfl (Nat.le_of_ble_eq_true rfl)
theorem c_X5_image {w : Nat} : q_T md (d + 1) P nx (.invokestatic 91 :: ops) ls (qR 5 w :: st) g M Q = (st.length ≤ 4 ∧ q_S md d 91 [qR 5 w] g M (q_K md (d + 1) P nx ops ls st Q)) := q_T_callif (id := 91) (n := 1) rfl rfl rfl rfl rfl rfl rfl (Nat.le_of_ble_eq_true rfl)
theorem c_X5_back {w : Nat} : q_T md (d + 1) P nx (.invokestatic 92 :: ops) ls (qR 5 w :: st) g M Q = (st.length ≤ 4 ∧ q_S md d 92 [qR 5 w] g M (q_K md (d + 1) P nx ops ls st Q)) := q_T_callif (id := 92) (n := 1) rfl rfl rfl rfl rfl rfl rfl (Nat.le_of_ble_eq_true rfl)
theorem c_X5_sheet {w : Nat} {x0 : Int} {x1 : Int} {x2 : Int} : q_T md (d + 1) P nx (.invokestatic 93 :: ops) ls (qI x2 :: qI x1 :: qI x0 :: qR 5 w :: st) g M Q = (st.length ≤ 4 ∧ q_S md d 93 [qR 5 w, qI x0, qI x1, qI x2] g M (q_K md (d + 1) P nx ops ls st Q)) := q_T_callif (id := 93) (n := 4) rfl rfl rfl rfl rfl rfl rfl (Nat.le_of_ble_eq_true rfl)
theorem c_X5_cell {w : Nat} {x0 : Int} {x1 : Int} {x2 : Int} : q_T md (d + 1) P nx (.invokestatic 94 :: ops) ls (qI x2 :: qI x1 :: qI x0 :: qR 5 w :: st) g M Q = (st.length ≤ 4 ∧ q_S md d 94 [qR 5 w, qI x0, qI x1, qI x2] g M (q_K md (d + 1) P nx ops ls st Q)) := q_T_callif (id := 94) (n := 4) rfl rfl rfl rfl rfl rfl rfl (Nat.le_of_ble_eq_true rfl)
theorem c_X5_copy {w : Nat} {x0 : Int} {x1 : Int} {x2 : Int} {x3 : Int} {x4 : Int} : q_T md (d + 1) P nx (.invokestatic 95 :: ops) ls (qI x4 :: qI x3 :: qI x2 :: qI x1 :: qI x0 :: qR 5 w :: st) g M Q = (st.length ≤ 4 ∧ q_S md d 95 [qR 5 w, qI x0, qI x1, qI x2, qI x3, qI x4] g M (q_K md (d + 1) P nx ops ls st Q)) := q_T_callif (id := 95) (n := 6) rfl rfl rfl rfl rfl rfl rfl (Nat.le_of_ble_eq_true rfl)
theorem c_X5_stonesBy {w : Nat} {x0 : Int} {x1 : Int} {x2 : Int} {x3 : Int} : q_T md (d + 1) P nx (.invokestatic 96 :: ops) ls (qI x3 :: qI x2 :: qI x1 :: qI x0 :: qR 5 w :: st) g M Q = (st.length ≤ 4 ∧ q_S md d 96 [qR 5 w, qI x0, qI x1, qI x2, qI x3] g M (q_K md (d + 1) P nx ops ls st Q)) := q_T_callif (id := 96) (n := 5) rfl rfl rfl rfl rfl rfl rfl (Nat.le_of_ble_eq_true rfl)
theorem c_X5_taken {w : Nat} {x0 : Int} {x1 : Int} : q_T md (d + 1) P nx (.invokestatic 97 :: ops) ls (qI x1 :: qI x0 :: qR 5 w :: st) g M Q = (st.length ≤ 4 ∧ q_S md d 97 [qR 5 w, qI x0, qI x1] g M (q_K md (d + 1) P nx ops ls st Q)) := q_T_callif (id := 97) (n := 3) rfl rfl rfl rfl rfl rfl rfl (Nat.le_of_ble_eq_true rfl)
theorem c_X5_isStone {w : Nat} {x0 : Int} : q_T md (d + 1) P nx (.invokestatic 98 :: ops) ls (qI x0 :: qR 5 w :: st) g M Q = (st.length ≤ 4 ∧ q_S md d 98 [qR 5 w, qI x0] g M (q_K md (d + 1) P nx ops ls st Q)) := q_T_callif (id := 98) (n := 2) rfl rfl rfl rfl rfl rfl rfl (Nat.le_of_ble_eq_true rfl)
theorem c_X5_isBuilding {x0 : Int} : q_T md (d + 1) P nx (.invokestatic 99 :: ops) ls (qI x0 :: st) g M Q = (st.length ≤ 4 ∧ q_S md d 99 [qI x0] g M (q_K md (d + 1) P nx ops ls st Q)) := q_T_callif (id := 99) (n := 1) rfl rfl rfl rfl rfl rfl rfl (Nat.le_of_ble_eq_true rfl)
theorem c_X5_orNone {x0 : Int} : q_T md (d + 1) P nx (.invokestatic 100 :: ops) ls (qI x0 :: st) g M Q = (st.length ≤ 4 ∧ q_S md d 100 [qI x0] g M (q_K md (d + 1) P nx ops ls st Q)) := q_T_callif (id := 100) (n := 1) rfl rfl rfl rfl rfl rfl rfl (Nat.le_of_ble_eq_true rfl)
theorem c_X5_isSheet {x0 : Int} : q_T md (d + 1) P nx (.invokestatic 101 :: ops) ls (qI x0 :: st) g M Q = (st.length ≤ 4 ∧ q_S md d 101 [qI x0] g M (q_K md (d + 1) P nx ops ls st Q)) := q_T_callif (id := 101) (n := 1) rfl rfl rfl rfl rfl rfl rfl (Nat.le_of_ble_eq_true rfl)
theorem c_X5_isByte {x0 : Int} : q_T md (d + 1) P nx (.invokestatic 102 :: ops) ls (qI x0 :: st) g M Q = (st.length ≤ 4 ∧ q_S md d 102 [qI x0] g M (q_K md (d + 1) P nx ops ls st Q)) := q_T_callif (id := 102) (n := 1) rfl rfl rfl rfl rfl rfl rfl (Nat.le_of_ble_eq_true rfl)
theorem c_X5_isOfKind {x0 : Int} {x1 : Int} : q_T md (d + 1) P nx (.invokestatic 103 :: ops) ls (qI x1 :: qI x0 :: st) g M Q = (st.length ≤ 4 ∧ q_S md d 103 [qI x0, qI x1] g M (q_K md (d + 1) P nx ops ls st Q)) := q_T_callif (id := 103) (n := 2) rfl rfl rfl rfl rfl rfl rfl (Nat.le_of_ble_eq_true rfl)
theorem c_X5_refusalOfTold {w : Nat} {x0 : Int} : q_T md (d + 1) P nx (.invokestatic 104 :: ops) ls (qI x0 :: qR 5 w :: st) g M Q = (st.length ≤ 4 ∧ q_S md d 104 [qR 5 w, qI x0] g M (q_K md (d + 1) P nx ops ls st Q)) := q_T_callif (id := 104) (n := 2) rfl rfl rfl rfl rfl rfl rfl (Nat.le_of_ble_eq_true rfl)
theorem c_X5_firstOtherwise {w : Nat} {x0 : Int} {x1 : Int} : q_T md (d + 1) P nx (.invokestatic 105 :: ops) ls (qI x1 :: qI x0 :: qR 5 w :: st) g M Q = (st.length ≤ 4 ∧ q_S md d 105 [qR 5 w, qI x0, qI x1] g M (q_K md (d + 1) P nx ops ls st Q)) := q_T_callif (id := 105) (n := 3) rfl rfl rfl rfl rfl rfl rfl (Nat.le_of_ble_eq_true rfl)
theorem c_X5_yearsTillIn {w : Nat} {x0 : Int} {x1 : Int} {x2 : Int} : q_T md (d + 1) P nx (.invokestatic 106 :: ops) ls (qI x2 :: qI x1 :: qI x0 :: qR 5 w :: st) g M Q = (st.length ≤ 4 ∧ q_S md d 106 [qR 5 w, qI x0, qI x1, qI x2] g M (q_K md (d + 1) P nx ops ls st Q)) := q_T_callif (id := 106) (n := 4) rfl rfl rfl rfl rfl rfl rfl (Nat.le_of_ble_eq_true rfl)
theorem c_X5_passWeather {w : Nat} {x0 : Int} : q_T md (d + 1) P nx (.invokestatic 107 :: ops) ls (qI x0 :: qR 5 w :: st) g M Q = (st.length ≤ 4 ∧ q_S md d 107 [qR 5 w, qI x0] g M (q_K md (d + 1) P nx ops ls st Q)) := q_T_callif (id := 107) (n := 2) rfl rfl rfl rfl rfl rfl rfl (Nat.le_of_ble_eq_true rfl)
theorem c_X5_inLowestTerms {x0 : Int} {x1 : Int} {x2 : Int} : q_T md (d + 1) P nx (.invokestatic 108 :: ops) ls (qI x2 :: qI x1 :: qI x0 :: st) g M Q = (st.length ≤ 4 ∧ q_S md d 108 [qI x0, qI x1, qI x2] g M (q_K md (d + 1) P nx ops ls st Q)) := q_T_callif (id := 108) (n := 3) rfl rfl rfl rfl rfl rfl rfl (Nat.le_of_ble_eq_true rfl)
theorem c_X6_in {x0 : Int} {x1 : Int} {x2 : Int} : q_T md (d + 1) P nx (.invokestatic 110 :: ops) ls (qI x2 :: qI x1 :: qI x0 :: st) g M Q = (st.length ≤ 4 ∧ q_S md d 110 [qI x0, qI x1, qI x2] g M (q_K md (d + 1) P nx ops ls st Q)) := q_T_callif (id := 110) (n := 3) rfl rfl rfl rfl rfl rfl rfl (Nat.le_of_ble_eq_true rfl)
theorem c_X6_within {x0 : Int} {x1 : Int} {x2 : Int} : q_T md (d + 1) P nx (.invokestatic 111 :: ops) ls (qI x2 :: qI x1 :: qI x0 :: st) g M Q = (st.length ≤ 4 ∧ q_S md d 111 [qI x0, qI x1, qI x2] g M (q_K md (d + 1) P nx ops ls st Q)) := q_T_callif (id := 111) (n := 3) rfl rfl rfl rfl rfl rfl rfl (Nat.le_of_ble_eq_true rfl)
theorem c_X6_isStone {w : Nat} {x0 : Int} : q_T md (d + 1) P nx (.invokestatic 112 :: ops) ls (qI x0 :: qR 6 w :: st) g M Q = (st.length ≤ 4 ∧ q_S md d 112 [qR 6 w, qI x0] g M (q_K md (d + 1) P nx ops ls st Q)) := q_T_callif (id := 112) (n := 2) rfl rfl rfl rfl rfl rfl rfl (Nat.le_of_ble_eq_true rfl)
theorem c_X6_isSite {x0 : Int} : q_T md (d + 1) P nx (.invokestatic 113 :: ops) ls (qI x0 :: st) g M Q = (st.length ≤ 4 ∧ q_S md d 113 [qI x0] g M (q_K md (d + 1) P nx ops ls st Q)) := q_T_callif (id := 113) (n := 1) rfl rfl rfl rfl rfl rfl rfl (Nat.le_of_ble_eq_true rfl)
theorem c_X6_outside {w : Nat} : q_T md (d + 1) P nx (.invokestatic 114 :: ops) ls (qR 6 w :: st) g M Q = (st.length ≤ 4 ∧ q_S md d 114 [qR 6 w] g M (q_K md (d + 1) P nx ops ls st Q)) := q_T_callif (id := 114) (n := 1) rfl rfl rfl rfl rfl rfl rfl (Nat.le_of_ble_eq_true rfl)
theorem c_X6_whoIn {w : Nat} {x0 : Int} : q_T md (d + 1) P nx (.invokestatic 115 :: ops) ls (qI x0 :: qR 6 w :: st) g M Q = (st.length ≤ 4 ∧ q_S md d 115 [qR 6 w, qI x0] g M (q_K md (d + 1) P nx ops ls st Q)) := q_T_callif (id := 115) (n := 2) rfl rfl rfl rfl rfl rfl rfl (Nat.le_of_ble_eq_true rfl)
theorem c_X6_onesOf {x0 : Int} : q_T md (d + 1) P nx (.invokestatic 116 :: ops) ls (qI x0 :: st) g M Q = (st.length ≤ 4 ∧ q_S md d 116 [qI x0] g M (q_K md (d + 1) P nx ops ls st Q)) := q_T_callif (id := 116) (n := 1) rfl rfl rfl rfl rfl rfl rfl (Nat.le_of_ble_eq_true rfl)
theorem c_X6_count {w : Nat} {x0 : Int} : q_T md (d + 1) P nx (.invokestatic 117 :: ops) ls (qI x0 :: qR 6 w :: st) g M Q = (st.length ≤ 4 ∧ q_S md d 117 [qR 6 w, qI x0] g M (q_K md (d + 1) P nx ops ls st Q)) := q_T_callif (id := 117) (n := 2) rfl rfl rfl rfl rfl rfl rfl (Nat.le_of_ble_eq_true rfl)
theorem c_X6_dawn {w : Nat} {x0 : Int} : q_T md (d + 1) P nx (.invokestatic 118 :: ops) ls (qI x0 :: qR 6 w :: st) g M Q = (st.length ≤ 4 ∧ q_S md d 118 [qR 6 w, qI x0] g M (q_K md (d + 1) P nx ops ls st Q)) := q_T_callif (id := 118) (n := 2) rfl rfl rfl rfl rfl rfl rfl (Nat.le_of_ble_eq_true rfl)
theorem c_X6_build {w : Nat} {x0 : Int} {x1 : Int} {x2 : Int} : q_T md (d + 1) P nx (.invokestatic 119 :: ops) ls (qI x2 :: qI x1 :: qI x0 :: qR 6 w :: st) g M Q = (st.length ≤ 4 ∧ q_S md d 119 [qR 6 w, qI x0, qI x1, qI x2] g M (q_K md (d + 1) P nx ops ls st Q)) := q_T_callif (id := 119) (n := 4) rfl rfl rfl rfl rfl rfl rfl (Nat.le_of_ble_eq_true rfl)
theorem c_X6_site {w : Nat} {x0 : Int} {x1 : Int} : q_T md (d + 1) P nx (.invokestatic 120 :: ops) ls (qI x1 :: qI x0 :: qR 6 w :: st) g M Q = (st.length ≤ 4 ∧ q_S md d 120 [qR 6 w, qI x0, qI x1] g M (q_K md (d + 1) P nx ops ls st Q)) := q_T_callif (id := 120) (n := 3) rfl rfl rfl rfl rfl rfl rfl (Nat.le_of_ble_eq_true rfl)
theorem c_X6_isByte {x0 : Int} : q_T md (d + 1) P nx (.invokestatic 121 :: ops) ls (qI x0 :: st) g M Q = (st.length ≤ 4 ∧ q_S md d 121 [qI x0] g M (q_K md (d + 1) P nx ops ls st Q)) := q_T_callif (id := 121) (n := 1) rfl rfl rfl rfl rfl rfl rfl (Nat.le_of_ble_eq_true rfl)
theorem c_X6_feed {w : Nat} {x0 : Int} {x1 : Int} {x2 : Int} {x3 : Int} {x4 : Int} {x5 : Int} : q_T md (d + 1) P nx (.invokestatic 122 :: ops) ls (qI x5 :: qI x4 :: qI x3 :: qI x2 :: qI x1 :: qI x0 :: qR 6 w :: st) g M Q = (st.length ≤ 4 ∧ q_S md d 122 [qR 6 w, qI x0, qI x1, qI x2, qI x3, qI x4, qI x5] g M (q_K md (d + 1) P nx ops ls st Q)) := q_T_callif (id := 122) (n := 7) rfl rfl rfl rfl rfl rfl rfl (Nat.le_of_ble_eq_true rfl)
theorem c_X6_wordFrom {w : Nat} {x0 : Int} {x1 : Int} : q_T md (d + 1) P nx (.invokestatic 123 :: ops) ls (qI x1 :: qI x0 :: qR 6 w :: st) g M Q = (st.length ≤ 4 ∧ q_S md d 123 [qR 6 w, qI x0, qI x1] g M (q_K md (d + 1) P nx ops ls st Q)) := q_T_callif (id := 123) (n := 3) rfl rfl rfl rfl rfl rfl rfl (Nat.le_of_ble_eq_true rfl)
theorem c_X6_next {w : Nat} : q_T md (d + 1) P nx (.invokestatic 124 :: ops) ls (qR 6 w :: st) g M Q = (st.length ≤ 4 ∧ q_S md d 124 [qR 6 w] g M (q_K md (d + 1) P nx ops ls st Q)) := q_T_callif (id := 124) (n := 1) rfl rfl rfl rfl rfl rfl rfl (Nat.le_of_ble_eq_true rfl)
theorem c_X6_rank {x0 : Int} : q_T md (d + 1) P nx (.invokestatic 125 :: ops) ls (qI x0 :: st) g M Q = (st.length ≤ 4 ∧ q_S md d 125 [qI x0] g M (q_K md (d + 1) P nx ops ls st Q)) := q_T_callif (id := 125) (n := 1) rfl rfl rfl rfl rfl rfl rfl (Nat.le_of_ble_eq_true rfl)
theorem c_X6_puts {w : Nat} {x0 : Int} : q_T md (d + 1) P nx (.invokestatic 126 :: ops) ls (qI x0 :: qR 6 w :: st) g M Q = (st.length ≤ 4 ∧ q_S md d 126 [qR 6 w, qI x0] g M (q_K md (d + 1) P nx ops ls st Q)) := q_T_callif (id := 126) (n := 2) rfl rfl rfl rfl rfl rfl rfl (Nat.le_of_ble_eq_true rfl)
theorem c_X6_unwinds {w : Nat} {x0 : Int} : q_T md (d + 1) P nx (.invokestatic 127 :: ops) ls (qI x0 :: qR 6 w :: st) g M Q = (st.length ≤ 4 ∧ q_S md d 127 [qR 6 w, qI x0] g M (q_K md (d + 1) P nx ops ls st Q)) := q_T_callif (id := 127) (n := 2) rfl rfl rfl rfl rfl rfl rfl (Nat.le_of_ble_eq_true rfl)
theorem c_X6_holds {w : Nat} {x0 : Int} : q_T md (d + 1) P nx (.invokestatic 128 :: ops) ls (qI x0 :: qR 6 w :: st) g M Q = (st.length ≤ 4 ∧ q_S md d 128 [qR 6 w, qI x0] g M (q_K md (d + 1) P nx ops ls st Q)) := q_T_callif (id := 128) (n := 2) rfl rfl rfl rfl rfl rfl rfl (Nat.le_of_ble_eq_true rfl)
theorem c_X6_opensOne {w : Nat} {x0 : Int} : q_T md (d + 1) P nx (.invokestatic 129 :: ops) ls (qI x0 :: qR 6 w :: st) g M Q = (st.length ≤ 4 ∧ q_S md d 129 [qR 6 w, qI x0] g M (q_K md (d + 1) P nx ops ls st Q)) := q_T_callif (id := 129) (n := 2) rfl rfl rfl rfl rfl rfl rfl (Nat.le_of_ble_eq_true rfl)
theorem c_X6_between {w : Nat} {x0 : Int} : q_T md (d + 1) P nx (.invokestatic 130 :: ops) ls (qI x0 :: qR 6 w :: st) g M Q = (st.length ≤ 4 ∧ q_S md d 130 [qR 6 w, qI x0] g M (q_K md (d + 1) P nx ops ls st Q)) := q_T_callif (id := 130) (n := 2) rfl rfl rfl rfl rfl rfl rfl (Nat.le_of_ble_eq_true rfl)
theorem c_X6_signOf {w : Nat} : q_T md (d + 1) P nx (.invokestatic 131 :: ops) ls (qR 6 w :: st) g M Q = (st.length ≤ 4 ∧ q_S md d 131 [qR 6 w] g M (q_K md (d + 1) P nx ops ls st Q)) := q_T_callif (id := 131) (n := 1) rfl rfl rfl rfl rfl rfl rfl (Nat.le_of_ble_eq_true rfl)
theorem c_X6_eRead {w : Nat} : q_T md (d + 1) P nx (.invokestatic 132 :: ops) ls (qR 6 w :: st) g M Q = (st.length ≤ 4 ∧ q_S md d 132 [qR 6 w] g M (q_K md (d + 1) P nx ops ls st Q)) := q_T_callif (id := 132) (n := 1) rfl rfl rfl rfl rfl rfl rfl (Nat.le_of_ble_eq_true rfl)
theorem c_X6_text {w : Nat} : q_T md (d + 1) P nx (.invokestatic 133 :: ops) ls (qR 6 w :: st) g M Q = (st.length ≤ 4 ∧ q_S md d 133 [qR 6 w] g M (q_K md (d + 1) P nx ops ls st Q)) := q_T_callif (id := 133) (n := 1) rfl rfl rfl rfl rfl rfl rfl (Nat.le_of_ble_eq_true rfl)
theorem c_X6_two {x0 : Int} {x1 : Int} {x2 : Int} : q_T md (d + 1) P nx (.invokestatic 134 :: ops) ls (qI x2 :: qI x1 :: qI x0 :: st) g M Q = (st.length ≤ 4 ∧ q_S md d 134 [qI x0, qI x1, qI x2] g M (q_K md (d + 1) P nx ops ls st Q)) := q_T_callif (id := 134) (n := 3) rfl rfl rfl rfl rfl rfl rfl (Nat.le_of_ble_eq_true rfl)
theorem c_X6_says {w : Nat} {x0 : Int} : q_T md (d + 1) P nx (.invokestatic 135 :: ops) ls (qI x0 :: qR 6 w :: st) g M Q = (st.length ≤ 4 ∧ q_S md d 135 [qR 6 w, qI x0] g M (q_K md (d + 1) P nx ops ls st Q)) := q_T_callif (id := 135) (n := 2) rfl rfl rfl rfl rfl rfl rfl (Nat.le_of_ble_eq_true rfl)
theorem c_X6_force {w : Nat} {x0 : Int} : q_T md (d + 1) P nx (.invokestatic 136 :: ops) ls (qI x0 :: qR 6 w :: st) g M Q = (st.length ≤ 4 ∧ q_S md d 136 [qR 6 w, qI x0] g M (q_K md (d + 1) P nx ops ls st Q)) := q_T_callif (id := 136) (n := 2) rfl rfl rfl rfl rfl rfl rfl (Nat.le_of_ble_eq_true rfl)
theorem c_X6_asksOf {w : Nat} {x0 : Int} {x1 : Int} {x2 : Int} : q_T md (d + 1) P nx (.invokestatic 137 :: ops) ls (qI x2 :: qI x1 :: qI x0 :: qR 6 w :: st) g M Q = (st.length ≤ 4 ∧ q_S md d 137 [qR 6 w, qI x0, qI x1, qI x2] g M (q_K md (d + 1) P nx ops ls st Q)) := q_T_callif (id := 137) (n := 4) rfl rfl rfl rfl rfl rfl rfl (Nat.le_of_ble_eq_true rfl)
theorem c_X6_asks {w : Nat} {x0 : Int} {x1 : Int} {x2 : Int} : q_T md (d + 1) P nx (.invokestatic 138 :: ops) ls (qI x2 :: qI x1 :: qI x0 :: qR 6 w :: st) g M Q = (st.length ≤ 4 ∧ q_S md d 138 [qR 6 w, qI x0, qI x1, qI x2] g M (q_K md (d + 1) P nx ops ls st Q)) := q_T_callif (id := 138) (n := 4) rfl rfl rfl rfl rfl rfl rfl (Nat.le_of_ble_eq_true rfl)
theorem c_X6_stone {w : Nat} {x0 : Int} {x1 : Int} {x2 : Int} : q_T md (d + 1) P nx (.invokestatic 139 :: ops) ls (qI x2 :: qI x1 :: qI x0 :: qR 6 w :: st) g M Q = (st.length ≤ 4 ∧ q_S md d 139 [qR 6 w, qI x0, qI x1, qI x2] g M (q_K md (d + 1) P nx ops ls st Q)) := q_T_callif (id := 139) (n := 4) rfl rfl rfl rfl rfl rfl rfl (Nat.le_of_ble_eq_true rfl)
theorem c_X6_put {w : Nat} {x0 : Int} {x1 : Int} {x2 : Int} : q_T md (d + 1) P nx (.invokestatic 140 :: ops) ls (qI x2 :: qI x1 :: qI x0 :: qR 6 w :: st) g M Q = (st.length ≤ 4 ∧ q_S md d 140 [qR 6 w, qI x0, qI x1, qI x2] g M (q_K md (d + 1) P nx ops ls st Q)) := q_T_callif (id := 140) (n := 4) rfl rfl rfl rfl rfl rfl rfl (Nat.le_of_ble_eq_true rfl)
theorem c_X6_likesOf {w : Nat} {x0 : Int} {x1 : Int} : q_T md (d + 1) P nx (.invokestatic 141 :: ops) ls (qI x1 :: qI x0 :: qR 6 w :: st) g M Q = (st.length ≤ 4 ∧ q_S md d 141 [qR 6 w, qI x0, qI x1] g M (q_K md (d + 1) P nx ops ls st Q)) := q_T_callif (id := 141) (n := 3) rfl rfl rfl rfl rfl rfl rfl (Nat.le_of_ble_eq_true rfl)
theorem c_X6_wantedOf {w : Nat} {x0 : Int} {x1 : Int} : q_T md (d + 1) P nx (.invokestatic 142 :: ops) ls (qI x1 :: qI x0 :: qR 6 w :: st) g M Q = (st.length ≤ 4 ∧ q_S md d 142 [qR 6 w, qI x0, qI x1] g M (q_K md (d + 1) P nx ops ls st Q)) := q_T_callif (id := 142) (n := 3) rfl rfl rfl rfl rfl rfl rfl (Nat.le_of_ble_eq_true rfl)
theorem c_X6_goesOf {w : Nat} {x0 : Int} : q_T md (d + 1) P nx (.invokestatic 143 :: ops) ls (qI x0 :: qR 6 w :: st) g M Q = (st.length ≤ 4 ∧ q_S md d 143 [qR 6 w, qI x0] g M (q_K md (d + 1) P nx ops ls st Q)) := q_T_callif (id := 143) (n := 2) rfl rfl rfl rfl rfl rfl rfl (Nat.le_of_ble_eq_true rfl)
theorem c_X6_wishOf {w : Nat} {x0 : Int} : q_T md (d + 1) P nx (.invokestatic 144 :: ops) ls (qI x0 :: qR 6 w :: st) g M Q = (st.length ≤ 4 ∧ q_S md d 144 [qR 6 w, qI x0] g M (q_K md (d + 1) P nx ops ls st Q)) := q_T_callif (id := 144) (n := 2) rfl rfl rfl rfl rfl rfl rfl (Nat.le_of_ble_eq_true rfl)
theorem c_X6_told {w : Nat} {x0 : Int} {x1 : Int} : q_T md (d + 1) P nx (.invokestatic 145 :: ops) ls (qI x1 :: qI x0 :: qR 6 w :: st) g M Q = (st.length ≤ 4 ∧ q_S md d 145 [qR 6 w, qI x0, qI x1] g M (q_K md (d + 1) P nx ops ls st Q)) := q_T_callif (id := 145) (n := 3) rfl rfl rfl rfl rfl rfl rfl (Nat.le_of_ble_eq_true rfl)
theorem c_X6_love {w : Nat} {x0 : Int} {x1 : Int} {x2 : Int} : q_T md (d + 1) P nx (.invokestatic 146 :: ops) ls (qI x2 :: qI x1 :: qI x0 :: qR 6 w :: st) g M Q = (st.length ≤ 4 ∧ q_S md d 146 [qR 6 w, qI x0, qI x1, qI x2] g M (q_K md (d + 1) P nx ops ls st Q)) := q_T_callif (id := 146) (n := 4) rfl rfl rfl rfl rfl rfl rfl (Nat.le_of_ble_eq_true rfl)
theorem c_X6_lastIn {w : Nat} {x0 : Int} : q_T md (d + 1) P nx (.invokestatic 147 :: ops) ls (qI x0 :: qR 6 w :: st) g M Q = (st.length ≤ 4 ∧ q_S md d 147 [qR 6 w, qI x0] g M (q_K md (d + 1) P nx ops ls st Q)) := q_T_callif (id := 147) (n := 2) rfl rfl rfl rfl rfl rfl rfl (Nat.le_of_ble_eq_true rfl)
theorem c_X6_isFullSite {w : Nat} {x0 : Int} : q_T md (d + 1) P nx (.invokestatic 148 :: ops) ls (qI x0 :: qR 6 w :: st) g M Q = (st.length ≤ 4 ∧ q_S md d 148 [qR 6 w, qI x0] g M (q_K md (d + 1) P nx ops ls st Q)) := q_T_callif (id := 148) (n := 2) rfl rfl rfl rfl rfl rfl rfl (Nat.le_of_ble_eq_true rfl)
theorem c_X6_doesTake {w : Nat} {x0 : Int} {x1 : Int} : q_T md (d + 1) P nx (.invokestatic 149 :: ops) ls (qI x1 :: qI x0 :: qR 6 w :: st) g M Q = (st.length ≤ 4 ∧ q_S md d 149 [qR 6 w, qI x0, qI x1] g M (q_K md (d + 1) P nx ops ls st Q)) := q_T_callif (id := 149) (n := 3) rfl rfl rfl rfl rfl rfl rfl (Nat.le_of_ble_eq_true rfl)
theorem c_X6_turnOf {w : Nat} {x0 : Int} : q_T md (d + 1) P nx (.invokestatic 150 :: ops) ls (qI x0 :: qR 6 w :: st) g M Q = (st.length ≤ 4 ∧ q_S md d 150 [qR 6 w, qI x0] g M (q_K md (d + 1) P nx ops ls st Q)) := q_T_callif (id := 150) (n := 2) rfl rfl rfl rfl rfl rfl rfl (Nat.le_of_ble_eq_true rfl)
theorem c_X6_yearOf {w : Nat} : q_T md (d + 1) P nx (.invokestatic 151 :: ops) ls (qR 6 w :: st) g M Q = (st.length ≤ 4 ∧ q_S md d 151 [qR 6 w] g M (q_K md (d + 1) P nx ops ls st Q)) := q_T_callif (id := 151) (n := 1) rfl rfl rfl rfl rfl rfl rfl (Nat.le_of_ble_eq_true rfl)
theorem c_X6_year {w : Nat} : q_T md (d + 1) P nx (.invokestatic 152 :: ops) ls (qR 6 w :: st) g M Q = (st.length ≤ 4 ∧ q_S md d 152 [qR 6 w] g M (q_K md (d + 1) P nx ops ls st Q)) := q_T_callif (id := 152) (n := 1) rfl rfl rfl rfl rfl rfl rfl (Nat.le_of_ble_eq_true rfl)
theorem c_X6_digitsNow {w : Nat} : q_T md (d + 1) P nx (.invokestatic 153 :: ops) ls (qR 6 w :: st) g M Q = (st.length ≤ 4 ∧ q_S md d 153 [qR 6 w] g M (q_K md (d + 1) P nx ops ls st Q)) := q_T_callif (id := 153) (n := 1) rfl rfl rfl rfl rfl rfl rfl (Nat.le_of_ble_eq_true rfl)
theorem c_X6_keeps {w : Nat} : q_T md (d + 1) P nx (.invokestatic 154 :: ops) ls (qR 6 w :: st) g M Q = (st.length ≤ 4 ∧ q_S md d 154 [qR 6 w] g M (q_K md (d + 1) P nx ops ls st Q)) := q_T_callif (id := 154) (n := 1) rfl rfl rfl rfl rfl rfl rfl (Nat.le_of_ble_eq_true rfl)
theorem c_X6_lays {w : Nat} : q_T md (d + 1) P nx (.invokestatic 155 :: ops) ls (qR 6 w :: st) g M Q = (st.length ≤ 4 ∧ q_S md d 155 [qR 6 w] g M (q_K md (d + 1) P nx ops ls st Q)) := q_T_callif (id := 155) (n := 1) rfl rfl rfl rfl rfl rfl rfl (Nat.le_of_ble_eq_true rfl)
theorem c_X6_run {w : Nat} {x0 : Int} {x1 : Int} : q_T md (d + 1) P nx (.invokestatic 156 :: ops) ls (qI x1 :: qI x0 :: qR 6 w :: st) g M Q = (st.length ≤ 4 ∧ q_S md d 156 [qR 6 w, qI x0, qI x1] g M (q_K md (d + 1) P nx ops ls st Q)) := q_T_callif (id := 156) (n := 3) rfl rfl rfl rfl rfl rfl rfl (Nat.le_of_ble_eq_true rfl)
theorem c_X6_whenIn {w : Nat} {x0 : Int} {x1 : Int} : q_T md (d + 1) P nx (.invokestatic 157 :: ops) ls (qI x1 :: qI x0 :: qR 6 w :: st) g M Q = (st.length ≤ 4 ∧ q_S md d 157 [qR 6 w, qI x0, qI x1] g M (q_K md (d + 1) P nx ops ls st Q)) := q_T_callif (id := 157) (n := 3) rfl rfl rfl rfl rfl rfl rfl (Nat.le_of_ble_eq_true rfl)
theorem c_X6_when {w : Nat} {x0 : Int} {x1 : Int} : q_T md (d + 1) P nx (.invokestatic 158 :: ops) ls (qI x1 :: qI x0 :: qR 6 w :: st) g M Q = (st.length ≤ 4 ∧ q_S md d 158 [qR 6 w, qI x0, qI x1] g M (q_K md (d + 1) P nx ops ls st Q)) := q_T_callif (id := 158) (n := 3) rfl rfl rfl rfl rfl rfl rfl (Nat.le_of_ble_eq_true rfl)
theorem c_X6_tellsAll {w : Nat} : q_T md (d + 1) P nx (.invokestatic 159 :: ops) ls (qR 6 w :: st) g M Q = (st.length ≤ 4 ∧ q_S md d 159 [qR 6 w] g M (q_K md (d + 1) P nx ops ls st Q)) := q_T_callif (id := 159) (n := 1) rfl rfl rfl rfl rfl rfl rfl (Nat.le_of_ble_eq_true rfl)
theorem c_X6_sitting {w : Nat} {x0 : Int} : q_T md (d + 1) P nx (.invokestatic 160 :: ops) ls (qI x0 :: qR 6 w :: st) g M Q = (st.length ≤ 4 ∧ q_S md d 160 [qR 6 w, qI x0] g M (q_K md (d + 1) P nx ops ls st Q)) := q_T_callif (id := 160) (n := 2) rfl rfl rfl rfl rfl rfl rfl (Nat.le_of_ble_eq_true rfl)
theorem c_X6_lastSitting {w : Nat} {x0 : Int} : q_T md (d + 1) P nx (.invokestatic 161 :: ops) ls (qI x0 :: qR 6 w :: st) g M Q = (st.length ≤ 4 ∧ q_S md d 161 [qR 6 w, qI x0] g M (q_K md (d + 1) P nx ops ls st Q)) := q_T_callif (id := 161) (n := 2) rfl rfl rfl rfl rfl rfl rfl (Nat.le_of_ble_eq_true rfl)
theorem c_X6_wouldTake {w : Nat} {x0 : Int} {x1 : Int} : q_T md (d + 1) P nx (.invokestatic 162 :: ops) ls (qI x1 :: qI x0 :: qR 6 w :: st) g M Q = (st.length ≤ 4 ∧ q_S md d 162 [qR 6 w, qI x0, qI x1] g M (q_K md (d + 1) P nx ops ls st Q)) := q_T_callif (id := 162) (n := 3) rfl rfl rfl rfl rfl rfl rfl (Nat.le_of_ble_eq_true rfl)
theorem c_X6_wouldRather {w : Nat} {x0 : Int} {x1 : Int} : q_T md (d + 1) P nx (.invokestatic 163 :: ops) ls (qI x1 :: qI x0 :: qR 6 w :: st) g M Q = (st.length ≤ 4 ∧ q_S md d 163 [qR 6 w, qI x0, qI x1] g M (q_K md (d + 1) P nx ops ls st Q)) := q_T_callif (id := 163) (n := 3) rfl rfl rfl rfl rfl rfl rfl (Nat.le_of_ble_eq_true rfl)
theorem c_X6_against {w : Nat} : q_T md (d + 1) P nx (.invokestatic 164 :: ops) ls (qR 6 w :: st) g M Q = (st.length ≤ 4 ∧ q_S md d 164 [qR 6 w] g M (q_K md (d + 1) P nx ops ls st Q)) := q_T_callif (id := 164) (n := 1) rfl rfl rfl rfl rfl rfl rfl (Nat.le_of_ble_eq_true rfl)
theorem c_X6_sumOf {w : Nat} {x0 : Int} : q_T md (d + 1) P nx (.invokestatic 165 :: ops) ls (qI x0 :: qR 6 w :: st) g M Q = (st.length ≤ 4 ∧ q_S md d 165 [qR 6 w, qI x0] g M (q_K md (d + 1) P nx ops ls st Q)) := q_T_callif (id := 165) (n := 2) rfl rfl rfl rfl rfl rfl rfl (Nat.le_of_ble_eq_true rfl)
theorem c_X6_sittingDigits {w : Nat} : q_T md (d + 1) P nx (.invokestatic 166 :: ops) ls (qR 6 w :: st) g M Q = (st.length ≤ 4 ∧ q_S md d 166 [qR 6 w] g M (q_K md (d + 1) P nx ops ls st Q)) := q_T_callif (id := 166) (n := 1) rfl rfl rfl rfl rfl rfl rfl (Nat.le_of_ble_eq_true rfl)
theorem c_X6_peace {w : Nat} {x0 : Int} : q_T md (d + 1) P nx (.invokestatic 167 :: ops) ls (qI x0 :: qR 6 w :: st) g M Q = (st.length ≤ 4 ∧ q_S md d 167 [qR 6 w, qI x0] g M (q_K md (d + 1) P nx ops ls st Q)) := q_T_callif (id := 167) (n := 2) rfl rfl rfl rfl rfl rfl rfl (Nat.le_of_ble_eq_true rfl)
theorem c_X6_nextAsked {w : Nat} {x0 : Int} : q_T md (d + 1) P nx (.invokestatic 168 :: ops) ls (qI x0 :: qR 6 w :: st) g M Q = (st.length ≤ 4 ∧ q_S md d 168 [qR 6 w, qI x0] g M (q_K md (d + 1) P nx ops ls st Q)) := q_T_callif (id := 168) (n := 2) rfl rfl rfl rfl rfl rfl rfl (Nat.le_of_ble_eq_true rfl)
theorem c_X6_asksOne {w : Nat} {x0 : Int} : q_T md (d + 1) P nx (.invokestatic 169 :: ops) ls (qI x0 :: qR 6 w :: st) g M Q = (st.length ≤ 4 ∧ q_S md d 169 [qR 6 w, qI x0] g M (q_K md (d + 1) P nx ops ls st Q)) := q_T_callif (id := 169) (n := 2) rfl rfl rfl rfl rfl rfl rfl (Nat.le_of_ble_eq_true rfl)
theorem c_X6_courts {w : Nat} : q_T md (d + 1) P nx (.invokestatic 170 :: ops) ls (qR 6 w :: st) g M Q = (st.length ≤ 4 ∧ q_S md d 170 [qR 6 w] g M (q_K md (d + 1) P nx ops ls st Q)) := q_T_callif (id := 170) (n := 1) rfl rfl rfl rfl rfl rfl rfl (Nat.le_of_ble_eq_true rfl)
theorem c_X6_court {w : Nat} {x0 : Int} : q_T md (d + 1) P nx (.invokestatic 171 :: ops) ls (qI x0 :: qR 6 w :: st) g M Q = (st.length ≤ 4 ∧ q_S md d 171 [qR 6 w, qI x0] g M (q_K md (d + 1) P nx ops ls st Q)) := q_T_callif (id := 171) (n := 2) rfl rfl rfl rfl rfl rfl rfl (Nat.le_of_ble_eq_true rfl)
theorem c_X6_sitsBy {w : Nat} {x0 : Int} : q_T md (d + 1) P nx (.invokestatic 172 :: ops) ls (qI x0 :: qR 6 w :: st) g M Q = (st.length ≤ 4 ∧ q_S md d 172 [qR 6 w, qI x0] g M (q_K md (d + 1) P nx ops ls st Q)) := q_T_callif (id := 172) (n := 2) rfl rfl rfl rfl rfl rfl rfl (Nat.le_of_ble_eq_true rfl)
theorem c_X6_tellsWays {w : Nat} : q_T md (d + 1) P nx (.invokestatic 173 :: ops) ls (qR 6 w :: st) g M Q = (st.length ≤ 4 ∧ q_S md d 173 [qR 6 w] g M (q_K md (d + 1) P nx ops ls st Q)) := q_T_callif (id := 173) (n := 1) rfl rfl rfl rfl rfl rfl rfl (Nat.le_of_ble_eq_true rfl)
theorem c_X6_all {w : Nat} {x0 : Int} : q_T md (d + 1) P nx (.invokestatic 174 :: ops) ls (qI x0 :: qR 6 w :: st) g M Q = (st.length ≤ 4 ∧ q_S md d 174 [qR 6 w, qI x0] g M (q_K md (d + 1) P nx ops ls st Q)) := q_T_callif (id := 174) (n := 2) rfl rfl rfl rfl rfl rfl rfl (Nat.le_of_ble_eq_true rfl)
theorem c_X6_annex {w : Nat} {x0 : Int} : q_T md (d + 1) P nx (.invokestatic 175 :: ops) ls (qI x0 :: qR 6 w :: st) g M Q = (st.length ≤ 4 ∧ q_S md d 175 [qR 6 w, qI x0] g M (q_K md (d + 1) P nx ops ls st Q)) := q_T_callif (id := 175) (n := 2) rfl rfl rfl rfl rfl rfl rfl (Nat.le_of_ble_eq_true rfl)
theorem c_X6_cart {w : Nat} {x0 : Int} {x1 : Int} : q_T md (d + 1) P nx (.invokestatic 176 :: ops) ls (qI x1 :: qI x0 :: qR 6 w :: st) g M Q = (st.length ≤ 4 ∧ q_S md d 176 [qR 6 w, qI x0, qI x1] g M (q_K md (d + 1) P nx ops ls st Q)) := q_T_callif (id := 176) (n := 3) rfl rfl rfl rfl rfl rfl rfl (Nat.le_of_ble_eq_true rfl)
theorem c_X6_lowest {x0 : Int} {x1 : Int} {x2 : Int} : q_T md (d + 1) P nx (.invokestatic 177 :: ops) ls (qI x2 :: qL x1 :: qL x0 :: st) g M Q = (st.length ≤ 4 ∧ q_S md d 177 [qL x0, qL x1, qI x2] g M (q_K md (d + 1) P nx ops ls st Q)) := q_T_callif (id := 177) (n := 3) rfl rfl rfl rfl rfl rfl rfl (Nat.le_of_ble_eq_true rfl)
theorem c_X6_share {w : Nat} {x0 : Int} : q_T md (d + 1) P nx (.invokestatic 178 :: ops) ls (qI x0 :: qR 6 w :: st) g M Q = (st.length ≤ 4 ∧ q_S md d 178 [qR 6 w, qI x0] g M (q_K md (d + 1) P nx ops ls st Q)) := q_T_callif (id := 178) (n := 2) rfl rfl rfl rfl rfl rfl rfl (Nat.le_of_ble_eq_true rfl)
theorem c_X6_sheetWrong {w : Nat} {x0 : Int} : q_T md (d + 1) P nx (.invokestatic 179 :: ops) ls (qI x0 :: qR 6 w :: st) g M Q = (st.length ≤ 4 ∧ q_S md d 179 [qR 6 w, qI x0] g M (q_K md (d + 1) P nx ops ls st Q)) := q_T_callif (id := 179) (n := 2) rfl rfl rfl rfl rfl rfl rfl (Nat.le_of_ble_eq_true rfl)
theorem c_X6_toldWrong {w : Nat} {x0 : Int} {x1 : Int} : q_T md (d + 1) P nx (.invokestatic 180 :: ops) ls (qI x1 :: qI x0 :: qR 6 w :: st) g M Q = (st.length ≤ 4 ∧ q_S md d 180 [qR 6 w, qI x0, qI x1] g M (q_K md (d + 1) P nx ops ls st Q)) := q_T_callif (id := 180) (n := 3) rfl rfl rfl rfl rfl rfl rfl (Nat.le_of_ble_eq_true rfl)
theorem c_X6_unlike {w : Nat} {x0 : Int} {x1 : Int} : q_T md (d + 1) P nx (.invokestatic 181 :: ops) ls (qI x1 :: qI x0 :: qR 6 w :: st) g M Q = (st.length ≤ 4 ∧ q_S md d 181 [qR 6 w, qI x0, qI x1] g M (q_K md (d + 1) P nx ops ls st Q)) := q_T_callif (id := 181) (n := 3) rfl rfl rfl rfl rfl rfl rfl (Nat.le_of_ble_eq_true rfl)
theorem c_X6_judge {w : Nat} {x0 : Int} {x1 : Int} : q_T md (d + 1) P nx (.invokestatic 182 :: ops) ls (qI x1 :: qI x0 :: qR 6 w :: st) g M Q = (st.length ≤ 4 ∧ q_S md d 182 [qR 6 w, qI x0, qI x1] g M (q_K md (d + 1) P nx ops ls st Q)) := q_T_callif (id := 182) (n := 3) rfl rfl rfl rfl rfl rfl rfl (Nat.le_of_ble_eq_true rfl)
theorem c_X6_kinds {w : Nat} {x0 : Int} {x1 : Int} {x2 : Int} : q_T md (d + 1) P nx (.invokestatic 183 :: ops) ls (qI x2 :: qI x1 :: qI x0 :: qR 6 w :: st) g M Q = (st.length ≤ 4 ∧ q_S md d 183 [qR 6 w, qI x0, qI x1, qI x2] g M (q_K md (d + 1) P nx ops ls st Q)) := q_T_callif (id := 183) (n := 4) rfl rfl rfl rfl rfl rfl rfl (Nat.le_of_ble_eq_true rfl)
theorem c_X6_states {w : Nat} {x0 : Int} {x1 : Int} {x2 : Int} {x3 : Int} : q_T md (d + 1) P nx (.invokestatic 184 :: ops) ls (qI x3 :: qI x2 :: qI x1 :: qI x0 :: qR 6 w :: st) g M Q = (st.length ≤ 4 ∧ q_S md d 184 [qR 6 w, qI x0, qI x1, qI x2, qI x3] g M (q_K md (d + 1) P nx ops ls st Q)) := q_T_callif (id := 184) (n := 5) rfl rfl rfl rfl rfl rfl rfl (Nat.le_of_ble_eq_true rfl)
theorem c_X6_whose {w : Nat} {x0 : Int} : q_T md (d + 1) P nx (.invokestatic 185 :: ops) ls (qI x0 :: qR 6 w :: st) g M Q = (st.length ≤ 4 ∧ q_S md d 185 [qR 6 w, qI x0] g M (q_K md (d + 1) P nx ops ls st Q)) := q_T_callif (id := 185) (n := 2) rfl rfl rfl rfl rfl rfl rfl (Nat.le_of_ble_eq_true rfl)
theorem c_X6_laws {w : Nat} {x0 : Int} {x1 : Int} : q_T md (d + 1) P nx (.invokestatic 186 :: ops) ls (qI x1 :: qI x0 :: qR 6 w :: st) g M Q = (st.length ≤ 4 ∧ q_S md d 186 [qR 6 w, qI x0, qI x1] g M (q_K md (d + 1) P nx ops ls st Q)) := q_T_callif (id := 186) (n := 3) rfl rfl rfl rfl rfl rfl rfl (Nat.le_of_ble_eq_true rfl)
theorem c_X6_film {w : Nat} {x0 : Int} {x1 : Int} {x2 : Int} : q_T md (d + 1) P nx (.invokestatic 187 :: ops) ls (qI x2 :: qI x1 :: qI x0 :: qR 6 w :: st) g M Q = (st.length ≤ 4 ∧ q_S md d 187 [qR 6 w, qI x0, qI x1, qI x2] g M (q_K md (d + 1) P nx ops ls st Q)) := q_T_callif (id := 187) (n := 4) rfl rfl rfl rfl rfl rfl rfl (Nat.le_of_ble_eq_true rfl)
theorem c_X6_weather {w : Nat} {x0 : Int} : q_T md (d + 1) P nx (.invokestatic 188 :: ops) ls (qI x0 :: qR 6 w :: st) g M Q = (st.length ≤ 4 ∧ q_S md d 188 [qR 6 w, qI x0] g M (q_K md (d + 1) P nx ops ls st Q)) := q_T_callif (id := 188) (n := 2) rfl rfl rfl rfl rfl rfl rfl (Nat.le_of_ble_eq_true rfl)
theorem c_X6_drawn {w : Nat} {x0 : Int} {x1 : Int} : q_T md (d + 1) P nx (.invokestatic 189 :: ops) ls (qI x1 :: qI x0 :: qR 6 w :: st) g M Q = (st.length ≤ 4 ∧ q_S md d 189 [qR 6 w, qI x0, qI x1] g M (q_K md (d + 1) P nx ops ls st Q)) := q_T_callif (id := 189) (n := 3) rfl rfl rfl rfl rfl rfl rfl (Nat.le_of_ble_eq_true rfl)
theorem c_X6_odds {w : Nat} {x0 : Int} {x1 : Int} {x2 : Int} {x3 : Int} : q_T md (d + 1) P nx (.invokestatic 190 :: ops) ls (qI x3 :: qI x2 :: qI x1 :: qI x0 :: qR 6 w :: st) g M Q = (st.length ≤ 4 ∧ q_S md d 190 [qR 6 w, qI x0, qI x1, qI x2, qI x3] g M (q_K md (d + 1) P nx ops ls st Q)) := q_T_callif (id := 190) (n := 5) rfl rfl rfl rfl rfl rfl rfl (Nat.le_of_ble_eq_true rfl)
theorem c_X6_image {w : Nat} : q_T md (d + 1) P nx (.invokestatic 191 :: ops) ls (qR 6 w :: st) g M Q = (st.length ≤ 4 ∧ q_S md d 191 [qR 6 w] g M (q_K md (d + 1) P nx ops ls st Q)) := q_T_callif (id := 191) (n := 1) rfl rfl rfl rfl rfl rfl rfl (Nat.le_of_ble_eq_true rfl)
theorem c_X6_back {w : Nat} : q_T md (d + 1) P nx (.invokestatic 192 :: ops) ls (qR 6 w :: st) g M Q = (st.length ≤ 4 ∧ q_S md d 192 [qR 6 w] g M (q_K md (d + 1) P nx ops ls st Q)) := q_T_callif (id := 192) (n := 1) rfl rfl rfl rfl rfl rfl rfl (Nat.le_of_ble_eq_true rfl)
theorem c_X6_sheet {w : Nat} {x0 : Int} {x1 : Int} {x2 : Int} : q_T md (d + 1) P nx (.invokestatic 193 :: ops) ls (qI x2 :: qI x1 :: qI x0 :: qR 6 w :: st) g M Q = (st.length ≤ 4 ∧ q_S md d 193 [qR 6 w, qI x0, qI x1, qI x2] g M (q_K md (d + 1) P nx ops ls st Q)) := q_T_callif (id := 193) (n := 4) rfl rfl rfl rfl rfl rfl rfl (Nat.le_of_ble_eq_true rfl)
theorem c_X6_cell {w : Nat} {x0 : Int} {x1 : Int} {x2 : Int} : q_T md (d + 1) P nx (.invokestatic 194 :: ops) ls (qI x2 :: qI x1 :: qI x0 :: qR 6 w :: st) g M Q = (st.length ≤ 4 ∧ q_S md d 194 [qR 6 w, qI x0, qI x1, qI x2] g M (q_K md (d + 1) P nx ops ls st Q)) := q_T_callif (id := 194) (n := 4) rfl rfl rfl rfl rfl rfl rfl (Nat.le_of_ble_eq_true rfl)
theorem c_X6_copy {w : Nat} {x0 : Int} {x1 : Int} {x2 : Int} {x3 : Int} {x4 : Int} : q_T md (d + 1) P nx (.invokestatic 195 :: ops) ls (qI x4 :: qI x3 :: qI x2 :: qI x1 :: qI x0 :: qR 6 w :: st) g M Q = (st.length ≤ 4 ∧ q_S md d 195 [qR 6 w, qI x0, qI x1, qI x2, qI x3, qI x4] g M (q_K md (d + 1) P nx ops ls st Q)) := q_T_callif (id := 195) (n := 6) rfl rfl rfl rfl rfl rfl rfl (Nat.le_of_ble_eq_true rfl)
theorem c_X6_stonesBy {w : Nat} {x0 : Int} {x1 : Int} {x2 : Int} {x3 : Int} : q_T md (d + 1) P nx (.invokestatic 196 :: ops) ls (qI x3 :: qI x2 :: qI x1 :: qI x0 :: qR 6 w :: st) g M Q = (st.length ≤ 4 ∧ q_S md d 196 [qR 6 w, qI x0, qI x1, qI x2, qI x3] g M (q_K md (d + 1) P nx ops ls st Q)) := q_T_callif (id := 196) (n := 5) rfl rfl rfl rfl rfl rfl rfl (Nat.le_of_ble_eq_true rfl)
theorem c_X6_isUnder {x0 : Int} {x1 : Int} : q_T md (d + 1) P nx (.invokestatic 197 :: ops) ls (qI x1 :: qI x0 :: st) g M Q = (st.length ≤ 4 ∧ q_S md d 197 [qI x0, qI x1] g M (q_K md (d + 1) P nx ops ls st Q)) := q_T_callif (id := 197) (n := 2) rfl rfl rfl rfl rfl rfl rfl (Nat.le_of_ble_eq_true rfl)
theorem c_X6_taken {w : Nat} {x0 : Int} {x1 : Int} : q_T md (d + 1) P nx (.invokestatic 198 :: ops) ls (qI x1 :: qI x0 :: qR 6 w :: st) g M Q = (st.length ≤ 4 ∧ q_S md d 198 [qR 6 w, qI x0, qI x1] g M (q_K md (d + 1) P nx ops ls st Q)) := q_T_callif (id := 198) (n := 3) rfl rfl rfl rfl rfl rfl rfl (Nat.le_of_ble_eq_true rfl)
theorem c_J9_abs_0f7a4 {x0 : Int} : q_T md (d + 1) P nx (.invokestatic 206 :: ops) ls (qI x0 :: st) g M Q = (st.length ≤ 4 ∧ q_S md d 206 [qI x0] g M (q_K md (d + 1) P nx ops ls st Q)) := q_T_callif (id := 206) (n := 1) rfl rfl rfl rfl rfl rfl rfl (Nat.le_of_ble_eq_true rfl)
theorem c_J9_max_7cf53 {x0 : Int} {x1 : Int} : q_T md (d + 1) P nx (.invokestatic 207 :: ops) ls (qI x1 :: qI x0 :: st) g M Q = (st.length ≤ 4 ∧ q_S md d 207 [qI x0, qI x1] g M (q_K md (d + 1) P nx ops ls st Q)) := q_T_callif (id := 207) (n := 2) rfl rfl rfl rfl rfl rfl rfl (Nat.le_of_ble_eq_true rfl)
theorem c_J9_min_7cf53 {x0 : Int} {x1 : Int} : q_T md (d + 1) P nx (.invokestatic 208 :: ops) ls (qI x1 :: qI x0 :: st) g M Q = (st.length ≤ 4 ∧ q_S md d 208 [qI x0, qI x1] g M (q_K md (d + 1) P nx ops ls st Q)) := q_T_callif (id := 208) (n := 2) rfl rfl rfl rfl rfl rfl rfl (Nat.le_of_ble_eq_true rfl)
end CALLS
end
section
section BLK
variable {md d : Nat} {ls st : List q_V} {g : q_G} {M : q_M} {Q : Option q_V → q_G → q_M → Prop}
theorem s_X0_copyFrom {w : Nat} {k0 y0 : Nat} : q_S md d 1 [qR 0 w, qR k0 y0] g M Q = q_T md d qP_X0_copyFrom 0 [] [qR 0 w, qR k0 y0] [] g M Q := rfl
theorem b_X0_copyFrom_0 : q_T md d qP_X0_copyFrom 0 [] ls st g M Q = q_T md d qP_X0_copyFrom 37 [.aload 1, .getfield 0, .iconst (0), .aload 0, .getfield 0, .iconst (0), .iconst (5), .monitorexit, .aload 1, .getfield 1, .iconst (0), .aload 0, .getfield 1, .iconst (0), .iconst (5), .monitorexit, .aload 0, .aload 1, .getfield 5, .putfield 5, .return_] ls st g M Q := q_T_next rfl
theorem s_X0_emptyAll {w : Nat} : q_S md d 2 [qR 0 w] g M Q = q_T md d qP_X0_emptyAll 0 [] [qR 0 w, qS 0] [] g M Q := rfl
theorem b_X0_emptyAll_0 : q_T md d qP_X0_emptyAll 0 [] ls st g M Q = q_T md d qP_X0_emptyAll 2 [.iconst (0), .istore 1] ls st g M Q := q_T_next rfl
theorem b_X0_emptyAll_2 : q_T md d qP_X0_emptyAll 2 [] ls st g M Q = q_T md d qP_X0_emptyAll 7 [.iload 1, .iconst (5), .if_icmp .ge (20)] ls st g M Q := q_T_next rfl
theorem b_X0_emptyAll_7 : q_T md d qP_X0_emptyAll 7 [] ls st g M Q = q_T md d qP_X0_emptyAll 20 [.aload 0, .getfield 1, .iload 1, .iconst (5), .iastore, .iinc 1 (1), .goto (2)] ls st g M Q := q_T_next rfl
theorem b_X0_emptyAll_20 : q_T md d qP_X0_emptyAll 20 [] ls st g M Q = q_T md d qP_X0_emptyAll 21 [.return_] ls st g M Q := q_T_next rfl
theorem s_X0_inNone {w : Nat} : q_S md d 3 [qR 0 w] g M Q = q_T md d qP_X0_inNone 0 [] [qR 0 w] [] g M Q := rfl
theorem b_X0_inNone_0 : q_T md d qP_X0_inNone 0 [] ls st g M Q = q_T md d qP_X0_inNone 6 [.aload 0, .iconst (5), .invokestatic 4, .ret 0] ls st g M Q := q_T_next rfl
theorem s_X0_housed {w : Nat} {x0 : Int} : q_S md d 4 [qR 0 w, qI x0] g M Q = q_T md d qP_X0_housed 0 [] [qR 0 w, qI x0, qS 0, qS 0] [] g M Q := rfl
theorem b_X0_housed_0 : q_T md d qP_X0_housed 0 [] ls st g M Q = q_T md d qP_X0_housed 4 [.iconst (0), .istore 2, .iconst (0), .istore 3] ls st g M Q := q_T_next rfl
theorem b_X0_housed_4 : q_T md d qP_X0_housed 4 [] ls st g M Q = q_T md d qP_X0_housed 12 [.iload 3, .aload 0, .getfield 5, .if_icmp .ge (36)] ls st g M Q := q_T_next rfl
theorem b_X0_housed_12 : q_T md d qP_X0_housed 12 [] ls st g M Q = q_T md d qP_X0_housed 23 [.iload 2, .aload 0, .getfield 1, .iload 3, .iaload, .iload 1, .if_icmp .ne (27)] ls st g M Q := q_T_next rfl
theorem b_X0_housed_23 : q_T md d qP_X0_housed 23 [] ls st g M Q = q_T md d qP_X0_housed 27 [.iconst (1), .goto (28)] ls st g M Q := q_T_next rfl
theorem b_X0_housed_27 : q_T md d qP_X0_housed 27 [] ls st g M Q = q_T md d qP_X0_housed 28 [.iconst (0)] ls st g M Q := q_T_next rfl
theorem b_X0_housed_28 : q_T md d qP_X0_housed 28 [] ls st g M Q = q_T md d qP_X0_housed 36 [.iadd, .istore 2, .iinc 3 (1), .goto (4)] ls st g M Q := q_T_next rfl
theorem b_X0_housed_36 : q_T md d qP_X0_housed 36 [] ls st g M Q = q_T md d qP_X0_housed 38 [.iload 2, .ret 0] ls st g M Q := q_T_next rfl
theorem s_X0_housedBits {w : Nat} {x0 : Int} : q_S md d 5 [qR 0 w, qI x0] g M Q = q_T md d qP_X0_housedBits 0 [] [qR 0 w, qI x0, qS 0, qS 0] [] g M Q := rfl
theorem b_X0_housedBits_0 : q_T md d qP_X0_housedBits 0 [] ls st g M Q = q_T md d qP_X0_housedBits 4 [.iconst (0), .istore 2, .iconst (0), .istore 3] ls st g M Q := q_T_next rfl
theorem b_X0_housedBits_4 : q_T md d qP_X0_housedBits 4 [] ls st g M Q = q_T md d qP_X0_housedBits 12 [.iload 3, .aload 0, .getfield 5, .if_icmp .ge (38)] ls st g M Q := q_T_next rfl
theorem b_X0_housedBits_12 : q_T md d qP_X0_housedBits 12 [] ls st g M Q = q_T md d qP_X0_housedBits 23 [.iload 2, .aload 0, .getfield 1, .iload 3, .iaload, .iload 1, .if_icmp .ne (29)] ls st g M Q := q_T_next rfl
theorem b_X0_housedBits_23 : q_T md d qP_X0_housedBits 23 [] ls st g M Q = q_T md d qP_X0_housedBits 29 [.iconst (1), .iload 3, .ishl, .goto (30)] ls st g M Q := q_T_next rfl
theorem b_X0_housedBits_29 : q_T md d qP_X0_housedBits 29 [] ls st g M Q = q_T md d qP_X0_housedBits 30 [.iconst (0)] ls st g M Q := q_T_next rfl
theorem b_X0_housedBits_30 : q_T md d qP_X0_housedBits 30 [] ls st g M Q = q_T md d qP_X0_housedBits 38 [.ior, .istore 2, .iinc 3 (1), .goto (4)] ls st g M Q := q_T_next rfl
theorem b_X0_housedBits_38 : q_T md d qP_X0_housedBits 38 [] ls st g M Q = q_T md d qP_X0_housedBits 40 [.iload 2, .ret 0] ls st g M Q := q_T_next rfl
theorem s_X0_digits {w : Nat} : q_S md d 6 [qR 0 w] g M Q = q_T md d qP_X0_digits 0 [] [qR 0 w, qS 0, qS 0] [] g M Q := rfl
theorem b_X0_digits_0 : q_T md d qP_X0_digits 0 [] ls st g M Q = q_T md d qP_X0_digits 4 [.iconst (0), .istore 1, .iconst (0), .istore 2] ls st g M Q := q_T_next rfl
theorem b_X0_digits_4 : q_T md d qP_X0_digits 4 [] ls st g M Q = q_T md d qP_X0_digits 12 [.iload 2, .aload 0, .getfield 5, .if_icmp .ge (46)] ls st g M Q := q_T_next rfl
theorem b_X0_digits_12 : q_T md d qP_X0_digits 12 [] ls st g M Q = q_T md d qP_X0_digits 26 [.iconst (10), .iload 1, .imul, .aload 0, .getfield 1, .iload 2, .iaload, .iconst (5), .if_icmp .ne (30)] ls st g M Q := q_T_next rfl
theorem b_X0_digits_26 : q_T md d qP_X0_digits 26 [] ls st g M Q = q_T md d qP_X0_digits 30 [.iconst (0), .goto (38)] ls st g M Q := q_T_next rfl
theorem b_X0_digits_30 : q_T md d qP_X0_digits 30 [] ls st g M Q = q_T md d qP_X0_digits 38 [.aload 0, .getfield 1, .iload 2, .iaload, .iconst (1), .iadd] ls st g M Q := q_T_next rfl
theorem b_X0_digits_38 : q_T md d qP_X0_digits 38 [] ls st g M Q = q_T md d qP_X0_digits 46 [.iadd, .istore 1, .iinc 2 (1), .goto (4)] ls st g M Q := q_T_next rfl
theorem b_X0_digits_46 : q_T md d qP_X0_digits 46 [] ls st g M Q = q_T md d qP_X0_digits 48 [.iload 1, .ret 0] ls st g M Q := q_T_next rfl
theorem s_X0_liked {w : Nat} : q_S md d 7 [qR 0 w] g M Q = q_T md d qP_X0_liked 0 [] [qR 0 w, qS 0, qS 0] [] g M Q := rfl
theorem b_X0_liked_0 : q_T md d qP_X0_liked 0 [] ls st g M Q = q_T md d qP_X0_liked 4 [.iconst (0), .istore 1, .iconst (0), .istore 2] ls st g M Q := q_T_next rfl
theorem b_X0_liked_4 : q_T md d qP_X0_liked 4 [] ls st g M Q = q_T md d qP_X0_liked 12 [.iload 2, .aload 0, .getfield 5, .if_icmp .ge (34)] ls st g M Q := q_T_next rfl
theorem b_X0_liked_12 : q_T md d qP_X0_liked 12 [] ls st g M Q = q_T md d qP_X0_liked 34 [.iload 1, .aload 0, .getfield 2, .iload 2, .aaload, .aload 0, .getfield 1, .iload 2, .iaload, .iaload, .iadd, .istore 1, .iinc 2 (1), .goto (4)] ls st g M Q := q_T_next rfl
theorem b_X0_liked_34 : q_T md d qP_X0_liked 34 [] ls st g M Q = q_T md d qP_X0_liked 36 [.iload 1, .ret 0] ls st g M Q := q_T_next rfl
theorem s_X0_wanted {w : Nat} : q_S md d 8 [qR 0 w] g M Q = q_T md d qP_X0_wanted 0 [] [qR 0 w, qS 0, qS 0] [] g M Q := rfl
theorem b_X0_wanted_0 : q_T md d qP_X0_wanted 0 [] ls st g M Q = q_T md d qP_X0_wanted 4 [.iconst (0), .istore 1, .iconst (0), .istore 2] ls st g M Q := q_T_next rfl
theorem b_X0_wanted_4 : q_T md d qP_X0_wanted 4 [] ls st g M Q = q_T md d qP_X0_wanted 12 [.iload 2, .aload 0, .getfield 5, .if_icmp .ge (34)] ls st g M Q := q_T_next rfl
theorem b_X0_wanted_12 : q_T md d qP_X0_wanted 12 [] ls st g M Q = q_T md d qP_X0_wanted 34 [.iload 1, .aload 0, .getfield 3, .iload 2, .aaload, .aload 0, .getfield 1, .iload 2, .iaload, .iaload, .iadd, .istore 1, .iinc 2 (1), .goto (4)] ls st g M Q := q_T_next rfl
theorem b_X0_wanted_34 : q_T md d qP_X0_wanted 34 [] ls st g M Q = q_T md d qP_X0_wanted 36 [.iload 1, .ret 0] ls st g M Q := q_T_next rfl
theorem s_X0_ratherBeIn {w : Nat} {x0 : Int} {x1 : Int} {x2 : Int} : q_S md d 9 [qR 0 w, qI x0, qI x1, qI x2] g M Q = q_T md d qP_X0_ratherBeIn 0 [] [qR 0 w, qI x0, qI x1, qI x2, qS 0, qS 0] [] g M Q := rfl
theorem b_X0_ratherBeIn_0 : q_T md d qP_X0_ratherBeIn 0 [] ls st g M Q = q_T md d qP_X0_ratherBeIn 25 [.aload 0, .getfield 2, .iload 1, .aaload, .iload 2, .iaload, .istore 4, .aload 0, .getfield 2, .iload 1, .aaload, .iload 3, .iaload, .istore 5, .iload 4, .ifCond .le (48)] ls st g M Q := q_T_next rfl
theorem b_X0_ratherBeIn_25 : q_T md d qP_X0_ratherBeIn 25 [] ls st g M Q = q_T md d qP_X0_ratherBeIn 32 [.iload 4, .iload 5, .if_icmp .gt (44)] ls st g M Q := q_T_next rfl
theorem b_X0_ratherBeIn_32 : q_T md d qP_X0_ratherBeIn 32 [] ls st g M Q = q_T md d qP_X0_ratherBeIn 39 [.iload 4, .iload 5, .if_icmp .ne (48)] ls st g M Q := q_T_next rfl
theorem b_X0_ratherBeIn_39 : q_T md d qP_X0_ratherBeIn 39 [] ls st g M Q = q_T md d qP_X0_ratherBeIn 44 [.iload 2, .iload 3, .if_icmp .ge (48)] ls st g M Q := q_T_next rfl
theorem b_X0_ratherBeIn_44 : q_T md d qP_X0_ratherBeIn 44 [] ls st g M Q = q_T md d qP_X0_ratherBeIn 48 [.iconst (1), .goto (49)] ls st g M Q := q_T_next rfl
theorem b_X0_ratherBeIn_48 : q_T md d qP_X0_ratherBeIn 48 [] ls st g M Q = q_T md d qP_X0_ratherBeIn 49 [.iconst (0)] ls st g M Q := q_T_next rfl
theorem b_X0_ratherBeIn_49 : q_T md d qP_X0_ratherBeIn 49 [] ls st g M Q = q_T md d qP_X0_ratherBeIn 50 [.ret 1] ls st g M Q := q_T_next rfl
theorem s_X0_dearest {w : Nat} {x0 : Int} {x1 : Int} : q_S md d 10 [qR 0 w, qI x0, qI x1] g M Q = q_T md d qP_X0_dearest 0 [] [qR 0 w, qI x0, qI x1, qS 0, qS 0] [] g M Q := rfl
theorem b_X0_dearest_0 : q_T md d qP_X0_dearest 0 [] ls st g M Q = q_T md d qP_X0_dearest 5 [.iconst (5), .istore 3, .iconst (0), .istore 4] ls st g M Q := q_T_next rfl
theorem b_X0_dearest_5 : q_T md d qP_X0_dearest 5 [] ls st g M Q = q_T md d qP_X0_dearest 11 [.iload 4, .iconst (5), .if_icmp .ge (40)] ls st g M Q := q_T_next rfl
theorem b_X0_dearest_11 : q_T md d qP_X0_dearest 11 [] ls st g M Q = q_T md d qP_X0_dearest 20 [.iload 2, .iload 4, .ishr, .iconst (1), .iand, .ifCond .ne (34)] ls st g M Q := q_T_next rfl
theorem b_X0_dearest_20 : q_T md d qP_X0_dearest 20 [] ls st g M Q = q_T md d qP_X0_dearest 31 [.aload 0, .iload 1, .iload 4, .iload 3, .invokestatic 9, .ifCond .eq (34)] ls st g M Q := q_T_next rfl
theorem b_X0_dearest_31 : q_T md d qP_X0_dearest 31 [] ls st g M Q = q_T md d qP_X0_dearest 34 [.iload 4, .istore 3] ls st g M Q := q_T_next rfl
theorem b_X0_dearest_34 : q_T md d qP_X0_dearest 34 [] ls st g M Q = q_T md d qP_X0_dearest 40 [.iinc 4 (1), .goto (5)] ls st g M Q := q_T_next rfl
theorem b_X0_dearest_40 : q_T md d qP_X0_dearest 40 [] ls st g M Q = q_T md d qP_X0_dearest 42 [.iload 3, .ret 0] ls st g M Q := q_T_next rfl
theorem s_X0_ratherHave {w : Nat} {x0 : Int} {x1 : Int} {x2 : Int} : q_S md d 11 [qR 0 w, qI x0, qI x1, qI x2] g M Q = q_T md d qP_X0_ratherHave 0 [] [qR 0 w, qI x0, qI x1, qI x2] [] g M Q := rfl
theorem b_X0_ratherHave_0 : q_T md d qP_X0_ratherHave 0 [] ls st g M Q = q_T md d qP_X0_ratherHave 19 [.aload 0, .getfield 3, .iload 2, .aaload, .iload 1, .iaload, .aload 0, .getfield 3, .iload 3, .aaload, .iload 1, .iaload, .if_icmp .gt (43)] ls st g M Q := q_T_next rfl
theorem b_X0_ratherHave_19 : q_T md d qP_X0_ratherHave 19 [] ls st g M Q = q_T md d qP_X0_ratherHave 38 [.aload 0, .getfield 3, .iload 2, .aaload, .iload 1, .iaload, .aload 0, .getfield 3, .iload 3, .aaload, .iload 1, .iaload, .if_icmp .ne (47)] ls st g M Q := q_T_next rfl
theorem b_X0_ratherHave_38 : q_T md d qP_X0_ratherHave 38 [] ls st g M Q = q_T md d qP_X0_ratherHave 43 [.iload 2, .iload 3, .if_icmp .ge (47)] ls st g M Q := q_T_next rfl
theorem b_X0_ratherHave_43 : q_T md d qP_X0_ratherHave 43 [] ls st g M Q = q_T md d qP_X0_ratherHave 47 [.iconst (1), .goto (48)] ls st g M Q := q_T_next rfl
theorem b_X0_ratherHave_47 : q_T md d qP_X0_ratherHave 47 [] ls st g M Q = q_T md d qP_X0_ratherHave 48 [.iconst (0)] ls st g M Q := q_T_next rfl
theorem b_X0_ratherHave_48 : q_T md d qP_X0_ratherHave 48 [] ls st g M Q = q_T md d qP_X0_ratherHave 49 [.ret 1] ls st g M Q := q_T_next rfl
theorem s_X0_last {w : Nat} {x0 : Int} : q_S md d 12 [qR 0 w, qI x0] g M Q = q_T md d qP_X0_last 0 [] [qR 0 w, qI x0, qS 0, qS 0] [] g M Q := rfl
theorem b_X0_last_0 : q_T md d qP_X0_last 0 [] ls st g M Q = q_T md d qP_X0_last 4 [.iconst (5), .istore 2, .iconst (0), .istore 3] ls st g M Q := q_T_next rfl
theorem b_X0_last_4 : q_T md d qP_X0_last 4 [] ls st g M Q = q_T md d qP_X0_last 12 [.iload 3, .aload 0, .getfield 5, .if_icmp .ge (45)] ls st g M Q := q_T_next rfl
theorem b_X0_last_12 : q_T md d qP_X0_last 12 [] ls st g M Q = q_T md d qP_X0_last 22 [.aload 0, .getfield 1, .iload 3, .iaload, .iload 1, .if_icmp .ne (39)] ls st g M Q := q_T_next rfl
theorem b_X0_last_22 : q_T md d qP_X0_last 22 [] ls st g M Q = q_T md d qP_X0_last 27 [.iload 2, .iconst (5), .if_icmp .eq (37)] ls st g M Q := q_T_next rfl
theorem b_X0_last_27 : q_T md d qP_X0_last 27 [] ls st g M Q = q_T md d qP_X0_last 37 [.aload 0, .iload 1, .iload 2, .iload 3, .invokestatic 11, .ifCond .eq (39)] ls st g M Q := q_T_next rfl
theorem b_X0_last_37 : q_T md d qP_X0_last 37 [] ls st g M Q = q_T md d qP_X0_last 39 [.iload 3, .istore 2] ls st g M Q := q_T_next rfl
theorem b_X0_last_39 : q_T md d qP_X0_last 39 [] ls st g M Q = q_T md d qP_X0_last 45 [.iinc 3 (1), .goto (4)] ls st g M Q := q_T_next rfl
theorem b_X0_last_45 : q_T md d qP_X0_last 45 [] ls st g M Q = q_T md d qP_X0_last 47 [.iload 2, .ret 0] ls st g M Q := q_T_next rfl
theorem s_X0_takes {w : Nat} {x0 : Int} {x1 : Int} : q_S md d 13 [qR 0 w, qI x0, qI x1] g M Q = q_T md d qP_X0_takes 0 [] [qR 0 w, qI x0, qI x1, qS 0] [] g M Q := rfl
theorem b_X0_takes_0 : q_T md d qP_X0_takes 0 [] ls st g M Q = q_T md d qP_X0_takes 10 [.aload 0, .getfield 1, .iload 1, .iaload, .iload 2, .if_icmp .ne (12)] ls st g M Q := q_T_next rfl
theorem b_X0_takes_10 : q_T md d qP_X0_takes 10 [] ls st g M Q = q_T md d qP_X0_takes 12 [.iconst (0), .ret 1] ls st g M Q := q_T_next rfl
theorem b_X0_takes_12 : q_T md d qP_X0_takes 12 [] ls st g M Q = q_T md d qP_X0_takes 26 [.aload 0, .iload 2, .invokestatic 4, .aload 0, .getfield 0, .iload 2, .iaload, .if_icmp .ge (28)] ls st g M Q := q_T_next rfl
theorem b_X0_takes_26 : q_T md d qP_X0_takes 26 [] ls st g M Q = q_T md d qP_X0_takes 28 [.iconst (1), .ret 1] ls st g M Q := q_T_next rfl
theorem b_X0_takes_28 : q_T md d qP_X0_takes 28 [] ls st g M Q = q_T md d qP_X0_takes 39 [.aload 0, .iload 2, .invokestatic 12, .istore 3, .iload 3, .iconst (5), .if_icmp .eq (62)] ls st g M Q := q_T_next rfl
theorem b_X0_takes_39 : q_T md d qP_X0_takes 39 [] ls st g M Q = q_T md d qP_X0_takes 48 [.aload 0, .getfield 0, .iload 2, .iaload, .ifCond .le (62)] ls st g M Q := q_T_next rfl
theorem b_X0_takes_48 : q_T md d qP_X0_takes 48 [] ls st g M Q = q_T md d qP_X0_takes 58 [.aload 0, .iload 2, .iload 1, .iload 3, .invokestatic 11, .ifCond .eq (62)] ls st g M Q := q_T_next rfl
theorem b_X0_takes_58 : q_T md d qP_X0_takes 58 [] ls st g M Q = q_T md d qP_X0_takes 62 [.iconst (1), .goto (63)] ls st g M Q := q_T_next rfl
theorem b_X0_takes_62 : q_T md d qP_X0_takes 62 [] ls st g M Q = q_T md d qP_X0_takes 63 [.iconst (0)] ls st g M Q := q_T_next rfl
theorem b_X0_takes_63 : q_T md d qP_X0_takes 63 [] ls st g M Q = q_T md d qP_X0_takes 64 [.ret 1] ls st g M Q := q_T_next rfl
theorem s_X0_comeIn {w : Nat} {x0 : Int} {x1 : Int} : q_S md d 14 [qR 0 w, qI x0, qI x1] g M Q = q_T md d qP_X0_comeIn 0 [] [qR 0 w, qI x0, qI x1, qS 0] [] g M Q := rfl
theorem b_X0_comeIn_0 : q_T md d qP_X0_comeIn 0 [] ls st g M Q = q_T md d qP_X0_comeIn 14 [.aload 0, .iload 2, .invokestatic 4, .aload 0, .getfield 0, .iload 2, .iaload, .if_icmp .ge (18)] ls st g M Q := q_T_next rfl
theorem b_X0_comeIn_14 : q_T md d qP_X0_comeIn 14 [] ls st g M Q = q_T md d qP_X0_comeIn 18 [.iconst (5), .goto (23)] ls st g M Q := q_T_next rfl
theorem b_X0_comeIn_18 : q_T md d qP_X0_comeIn 18 [] ls st g M Q = q_T md d qP_X0_comeIn 23 [.aload 0, .iload 2, .invokestatic 12] ls st g M Q := q_T_next rfl
theorem b_X0_comeIn_23 : q_T md d qP_X0_comeIn 23 [] ls st g M Q = q_T md d qP_X0_comeIn 29 [.istore 3, .iload 3, .iconst (5), .if_icmp .eq (36)] ls st g M Q := q_T_next rfl
theorem b_X0_comeIn_29 : q_T md d qP_X0_comeIn 29 [] ls st g M Q = q_T md d qP_X0_comeIn 36 [.aload 0, .getfield 1, .iload 3, .iconst (5), .iastore] ls st g M Q := q_T_next rfl
theorem b_X0_comeIn_36 : q_T md d qP_X0_comeIn 36 [] ls st g M Q = q_T md d qP_X0_comeIn 45 [.aload 0, .getfield 1, .iload 1, .iload 2, .iastore, .iload 3, .ret 0] ls st g M Q := q_T_next rfl
theorem s_X0_askInTurn {w : Nat} : q_S md d 15 [qR 0 w] g M Q = q_T md d qP_X0_askInTurn 0 [] [qR 0 w, qS 0, qS 0, qS 0, qS 0] [] g M Q := rfl
theorem b_X0_askInTurn_0 : q_T md d qP_X0_askInTurn 0 [] ls st g M Q = q_T md d qP_X0_askInTurn 6 [.aload 0, .invokestatic 2, .iconst (0), .istore 1] ls st g M Q := q_T_next rfl
theorem b_X0_askInTurn_6 : q_T md d qP_X0_askInTurn 6 [] ls st g M Q = q_T md d qP_X0_askInTurn 11 [.iload 1, .iconst (5), .if_icmp .ge (24)] ls st g M Q := q_T_next rfl
theorem b_X0_askInTurn_11 : q_T md d qP_X0_askInTurn 11 [] ls st g M Q = q_T md d qP_X0_askInTurn 24 [.aload 0, .getfield 4, .iload 1, .iconst (0), .iastore, .iinc 1 (1), .goto (6)] ls st g M Q := q_T_next rfl
theorem b_X0_askInTurn_24 : q_T md d qP_X0_askInTurn 24 [] ls st g M Q = q_T md d qP_X0_askInTurn 28 [.iconst (1), .istore 1, .iconst (0), .istore 2] ls st g M Q := q_T_next rfl
theorem b_X0_askInTurn_28 : q_T md d qP_X0_askInTurn 28 [] ls st g M Q = q_T md d qP_X0_askInTurn 32 [.iload 1, .ifCond .eq (105)] ls st g M Q := q_T_next rfl
theorem b_X0_askInTurn_32 : q_T md d qP_X0_askInTurn 32 [] ls st g M Q = q_T md d qP_X0_askInTurn 39 [.iload 2, .iconst (1000), .if_icmp .ge (105)] ls st g M Q := q_T_next rfl
theorem b_X0_askInTurn_39 : q_T md d qP_X0_askInTurn 39 [] ls st g M Q = q_T md d qP_X0_askInTurn 43 [.iconst (0), .istore 1, .iconst (0), .istore 3] ls st g M Q := q_T_next rfl
theorem b_X0_askInTurn_43 : q_T md d qP_X0_askInTurn 43 [] ls st g M Q = q_T md d qP_X0_askInTurn 51 [.iload 3, .aload 0, .getfield 5, .if_icmp .ge (99)] ls st g M Q := q_T_next rfl
theorem b_X0_askInTurn_51 : q_T md d qP_X0_askInTurn 51 [] ls st g M Q = q_T md d qP_X0_askInTurn 61 [.aload 0, .getfield 1, .iload 3, .iaload, .iconst (5), .if_icmp .ne (75)] ls st g M Q := q_T_next rfl
theorem b_X0_askInTurn_61 : q_T md d qP_X0_askInTurn 61 [] ls st g M Q = q_T md d qP_X0_askInTurn 75 [.aload 0, .iload 3, .aload 0, .getfield 4, .iload 3, .iaload, .invokestatic 10, .goto (76)] ls st g M Q := q_T_next rfl
theorem b_X0_askInTurn_75 : q_T md d qP_X0_askInTurn 75 [] ls st g M Q = q_T md d qP_X0_askInTurn 76 [.iconst (5)] ls st g M Q := q_T_next rfl
theorem b_X0_askInTurn_76 : q_T md d qP_X0_askInTurn 76 [] ls st g M Q = q_T md d qP_X0_askInTurn 84 [.istore 4, .iload 4, .iconst (5), .if_icmp .eq (93)] ls st g M Q := q_T_next rfl
theorem b_X0_askInTurn_84 : q_T md d qP_X0_askInTurn 84 [] ls st g M Q = q_T md d qP_X0_askInTurn 93 [.iconst (1), .istore 1, .aload 0, .iload 3, .iload 4, .invokestatic 16] ls st g M Q := q_T_next rfl
theorem b_X0_askInTurn_93 : q_T md d qP_X0_askInTurn 93 [] ls st g M Q = q_T md d qP_X0_askInTurn 99 [.iinc 3 (1), .goto (43)] ls st g M Q := q_T_next rfl
theorem b_X0_askInTurn_99 : q_T md d qP_X0_askInTurn 99 [] ls st g M Q = q_T md d qP_X0_askInTurn 105 [.iinc 2 (1), .goto (28)] ls st g M Q := q_T_next rfl
theorem b_X0_askInTurn_105 : q_T md d qP_X0_askInTurn 105 [] ls st g M Q = q_T md d qP_X0_askInTurn 106 [.return_] ls st g M Q := q_T_next rfl
theorem s_X0_ask {w : Nat} {x0 : Int} {x1 : Int} : q_S md d 16 [qR 0 w, qI x0, qI x1] g M Q = q_T md d qP_X0_ask 0 [] [qR 0 w, qI x0, qI x1, qS 0] [] g M Q := rfl
theorem b_X0_ask_0 : q_T md d qP_X0_ask 0 [] ls st g M Q = q_T md d qP_X0_ask 9 [.aload 0, .iload 1, .iload 2, .invokestatic 13, .ifCond .eq (18)] ls st g M Q := q_T_next rfl
theorem b_X0_ask_9 : q_T md d qP_X0_ask 9 [] ls st g M Q = q_T md d qP_X0_ask 18 [.aload 0, .iload 1, .iload 2, .invokestatic 14, .goto (19)] ls st g M Q := q_T_next rfl
theorem b_X0_ask_18 : q_T md d qP_X0_ask 18 [] ls st g M Q = q_T md d qP_X0_ask 19 [.iload 1] ls st g M Q := q_T_next rfl
theorem b_X0_ask_19 : q_T md d qP_X0_ask 19 [] ls st g M Q = q_T md d qP_X0_ask 25 [.istore 3, .iload 3, .iconst (5), .if_icmp .eq (37)] ls st g M Q := q_T_next rfl
theorem b_X0_ask_25 : q_T md d qP_X0_ask 25 [] ls st g M Q = q_T md d qP_X0_ask 37 [.aload 0, .getfield 4, .iload 3, .dup2, .iaload, .iconst (1), .iload 2, .ishl, .ior, .iastore] ls st g M Q := q_T_next rfl
theorem b_X0_ask_37 : q_T md d qP_X0_ask 37 [] ls st g M Q = q_T md d qP_X0_ask 38 [.return_] ls st g M Q := q_T_next rfl
theorem s_X0_complaint {w : Nat} : q_S md d 17 [qR 0 w] g M Q = q_T md d qP_X0_complaint 0 [] [qR 0 w, qS 0, qS 0] [] g M Q := rfl
theorem b_X0_complaint_0 : q_T md d qP_X0_complaint 0 [] ls st g M Q = q_T md d qP_X0_complaint 2 [.iconst (0), .istore 1] ls st g M Q := q_T_next rfl
theorem b_X0_complaint_2 : q_T md d qP_X0_complaint 2 [] ls st g M Q = q_T md d qP_X0_complaint 10 [.iload 1, .aload 0, .getfield 5, .if_icmp .ge (94)] ls st g M Q := q_T_next rfl
theorem b_X0_complaint_10 : q_T md d qP_X0_complaint 10 [] ls st g M Q = q_T md d qP_X0_complaint 20 [.aload 0, .getfield 1, .iload 1, .iaload, .iconst (5), .if_icmp .eq (44)] ls st g M Q := q_T_next rfl
theorem b_X0_complaint_20 : q_T md d qP_X0_complaint 20 [] ls st g M Q = q_T md d qP_X0_complaint 36 [.aload 0, .getfield 2, .iload 1, .aaload, .aload 0, .getfield 1, .iload 1, .iaload, .iaload, .ifCond .gt (44)] ls st g M Q := q_T_next rfl
theorem b_X0_complaint_36 : q_T md d qP_X0_complaint 36 [] ls st g M Q = q_T md d qP_X0_complaint 44 [.iconst (10), .iload 1, .imul, .iconst (9), .iadd, .ret 0] ls st g M Q := q_T_next rfl
theorem b_X0_complaint_44 : q_T md d qP_X0_complaint 44 [] ls st g M Q = q_T md d qP_X0_complaint 46 [.iconst (0), .istore 2] ls st g M Q := q_T_next rfl
theorem b_X0_complaint_46 : q_T md d qP_X0_complaint 46 [] ls st g M Q = q_T md d qP_X0_complaint 51 [.iload 2, .iconst (5), .if_icmp .ge (88)] ls st g M Q := q_T_next rfl
theorem b_X0_complaint_51 : q_T md d qP_X0_complaint 51 [] ls st g M Q = q_T md d qP_X0_complaint 66 [.aload 0, .iload 1, .iload 2, .aload 0, .getfield 1, .iload 1, .iaload, .invokestatic 9, .ifCond .eq (82)] ls st g M Q := q_T_next rfl
theorem b_X0_complaint_66 : q_T md d qP_X0_complaint 66 [] ls st g M Q = q_T md d qP_X0_complaint 75 [.aload 0, .iload 1, .iload 2, .invokestatic 13, .ifCond .eq (82)] ls st g M Q := q_T_next rfl
theorem b_X0_complaint_75 : q_T md d qP_X0_complaint 75 [] ls st g M Q = q_T md d qP_X0_complaint 82 [.iconst (10), .iload 1, .imul, .iload 2, .iadd, .ret 0] ls st g M Q := q_T_next rfl
theorem b_X0_complaint_82 : q_T md d qP_X0_complaint 82 [] ls st g M Q = q_T md d qP_X0_complaint 88 [.iinc 2 (1), .goto (46)] ls st g M Q := q_T_next rfl
theorem b_X0_complaint_88 : q_T md d qP_X0_complaint 88 [] ls st g M Q = q_T md d qP_X0_complaint 94 [.iinc 1 (1), .goto (2)] ls st g M Q := q_T_next rfl
theorem b_X0_complaint_94 : q_T md d qP_X0_complaint 94 [] ls st g M Q = q_T md d qP_X0_complaint 96 [.iconst (-1), .ret 0] ls st g M Q := q_T_next rfl
theorem s_X0_fits {w : Nat} : q_S md d 18 [qR 0 w] g M Q = q_T md d qP_X0_fits 0 [] [qR 0 w, qS 0] [] g M Q := rfl
theorem b_X0_fits_0 : q_T md d qP_X0_fits 0 [] ls st g M Q = q_T md d qP_X0_fits 2 [.iconst (0), .istore 1] ls st g M Q := q_T_next rfl
theorem b_X0_fits_2 : q_T md d qP_X0_fits 2 [] ls st g M Q = q_T md d qP_X0_fits 7 [.iload 1, .iconst (5), .if_icmp .ge (29)] ls st g M Q := q_T_next rfl
theorem b_X0_fits_7 : q_T md d qP_X0_fits 7 [] ls st g M Q = q_T md d qP_X0_fits 21 [.aload 0, .iload 1, .invokestatic 4, .aload 0, .getfield 0, .iload 1, .iaload, .if_icmp .le (23)] ls st g M Q := q_T_next rfl
theorem b_X0_fits_21 : q_T md d qP_X0_fits 21 [] ls st g M Q = q_T md d qP_X0_fits 23 [.iconst (0), .ret 1] ls st g M Q := q_T_next rfl
theorem b_X0_fits_23 : q_T md d qP_X0_fits 23 [] ls st g M Q = q_T md d qP_X0_fits 29 [.iinc 1 (1), .goto (2)] ls st g M Q := q_T_next rfl
theorem b_X0_fits_29 : q_T md d qP_X0_fits 29 [] ls st g M Q = q_T md d qP_X0_fits 31 [.iconst (1), .ret 1] ls st g M Q := q_T_next rfl
theorem s_X0_nextWay {w : Nat} : q_S md d 19 [qR 0 w] g M Q = q_T md d qP_X0_nextWay 0 [] [qR 0 w, qS 0] [] g M Q := rfl
theorem b_X0_nextWay_0 : q_T md d qP_X0_nextWay 0 [] ls st g M Q = q_T md d qP_X0_nextWay 7 [.aload 0, .getfield 5, .iconst (1), .isub, .istore 1] ls st g M Q := q_T_next rfl
theorem b_X0_nextWay_7 : q_T md d qP_X0_nextWay 7 [] ls st g M Q = q_T md d qP_X0_nextWay 11 [.iload 1, .ifCond .lt (57)] ls st g M Q := q_T_next rfl
theorem b_X0_nextWay_11 : q_T md d qP_X0_nextWay 11 [] ls st g M Q = q_T md d qP_X0_nextWay 26 [.aload 0, .getfield 1, .iload 1, .aload 0, .getfield 1, .iload 1, .iaload, .iconst (5), .if_icmp .ne (30)] ls st g M Q := q_T_next rfl
theorem b_X0_nextWay_26 : q_T md d qP_X0_nextWay 26 [] ls st g M Q = q_T md d qP_X0_nextWay 30 [.iconst (0), .goto (38)] ls st g M Q := q_T_next rfl
theorem b_X0_nextWay_30 : q_T md d qP_X0_nextWay 30 [] ls st g M Q = q_T md d qP_X0_nextWay 38 [.aload 0, .getfield 1, .iload 1, .iaload, .iconst (1), .iadd] ls st g M Q := q_T_next rfl
theorem b_X0_nextWay_38 : q_T md d qP_X0_nextWay 38 [] ls st g M Q = q_T md d qP_X0_nextWay 49 [.iastore, .aload 0, .getfield 1, .iload 1, .iaload, .iconst (5), .if_icmp .eq (51)] ls st g M Q := q_T_next rfl
theorem b_X0_nextWay_49 : q_T md d qP_X0_nextWay 49 [] ls st g M Q = q_T md d qP_X0_nextWay 51 [.iconst (1), .ret 1] ls st g M Q := q_T_next rfl
theorem b_X0_nextWay_51 : q_T md d qP_X0_nextWay 51 [] ls st g M Q = q_T md d qP_X0_nextWay 57 [.iinc 1 (-1), .goto (7)] ls st g M Q := q_T_next rfl
theorem b_X0_nextWay_57 : q_T md d qP_X0_nextWay 57 [] ls st g M Q = q_T md d qP_X0_nextWay 59 [.iconst (0), .ret 1] ls st g M Q := q_T_next rfl
theorem s_X1_clear {w : Nat} : q_S md d 21 [qR 1 w] g M Q = q_T md d qP_X1_clear 0 [] [qR 1 w] [] g M Q := rfl
theorem b_X1_clear_0 : q_T md d qP_X1_clear 0 [] ls st g M Q = q_T md d qP_X1_clear 6 [.aload 0, .iconst (0), .putfield 101, .return_] ls st g M Q := q_T_next rfl
theorem s_X1_take {w : Nat} {x0 : Int} : q_S md d 22 [qR 1 w, qI x0] g M Q = q_T md d qP_X1_take 0 [] [qR 1 w, qI x0] [] g M Q := rfl
theorem b_X1_take_0 : q_T md d qP_X1_take 0 [] ls st g M Q = q_T md d qP_X1_take 10 [.aload 0, .getfield 101, .iconst (160), .if_icmp .ge (30)] ls st g M Q := q_T_next rfl
theorem b_X1_take_10 : q_T md d qP_X1_take 10 [] ls st g M Q = q_T md d qP_X1_take 30 [.aload 0, .getfield 100, .aload 0, .getfield 101, .iload 1, .iastore, .aload 0, .dup, .getfield 101, .iconst (1), .iadd, .putfield 101] ls st g M Q := q_T_next rfl
theorem b_X1_take_30 : q_T md d qP_X1_take 30 [] ls st g M Q = q_T md d qP_X1_take 31 [.return_] ls st g M Q := q_T_next rfl
theorem s_X1_read {w : Nat} : q_S md d 23 [qR 1 w] g M Q = q_T md d qP_X1_read 0 [] [qR 1 w] [] g M Q := rfl
theorem b_X1_read_0 : q_T md d qP_X1_read 0 [] ls st g M Q = q_T md d qP_X1_read 51 [.aload 0, .iconst (0), .putfield 103, .aload 0, .iconst (-1), .putfield 109, .aload 0, .iconst (0), .putfield 108, .aload 0, .invokestatic 35, .aload 0, .iconst (0), .iconst (-5), .invokestatic 25, .aload 0, .iconst (1), .iconst (-6), .invokestatic 25, .aload 0, .iconst (2), .iconst (-7), .invokestatic 25, .aload 0, .iconst (-2), .invokestatic 26, .aload 0, .getfield 109, .ret 0] ls st g M Q := q_T_next rfl
theorem s_X1_made {w : Nat} {x0 : Int} : q_S md d 24 [qR 1 w, qI x0] g M Q = q_T md d qP_X1_made 0 [] [qR 1 w, qI x0, qS 0] [] g M Q := rfl
theorem b_X1_made_0 : q_T md d qP_X1_made 0 [] ls st g M Q = q_T md d qP_X1_made 41 [.aload 0, .getfield 103, .newarray .int, .astore 2, .aload 0, .getfield 102, .iconst (0), .aload 2, .iconst (0), .aload 0, .getfield 103, .monitorexit, .new 3, .dup, .iload 1, .aload 2, .aload 0, .getfield 104, .swap, .nop, .invokestatic 46, .areturn] ls st g M Q := q_T_next rfl
theorem s_X1_part {w : Nat} {x0 : Int} {x1 : Int} : q_S md d 25 [qR 1 w, qI x0, qI x1] g M Q = q_T md d qP_X1_part 0 [] [qR 1 w, qI x0, qI x1] [] g M Q := rfl
theorem b_X1_part_0 : q_T md d qP_X1_part 0 [] ls st g M Q = q_T md d qP_X1_part 33 [.aload 0, .iload 2, .invokestatic 26, .aload 0, .getfield 104, .iload 1, .aload 0, .getfield 103, .iastore, .aload 0, .iconst (0), .invokestatic 29, .aload 0, .iconst (59), .invokestatic 26, .aload 0, .iconst (0), .iconst (0), .invokestatic 28, .return_] ls st g M Q := q_T_next rfl
theorem s_X1_expect {w : Nat} {x0 : Int} : q_S md d 26 [qR 1 w, qI x0] g M Q = q_T md d qP_X1_expect 0 [] [qR 1 w, qI x0] [] g M Q := rfl
theorem b_X1_expect_0 : q_T md d qP_X1_expect 0 [] ls st g M Q = q_T md d qP_X1_expect 8 [.aload 0, .getfield 105, .iload 1, .if_icmp .ne (15)] ls st g M Q := q_T_next rfl
theorem b_X1_expect_8 : q_T md d qP_X1_expect 8 [] ls st g M Q = q_T md d qP_X1_expect 15 [.aload 0, .invokestatic 35, .goto (19)] ls st g M Q := q_T_next rfl
theorem b_X1_expect_15 : q_T md d qP_X1_expect 15 [] ls st g M Q = q_T md d qP_X1_expect 19 [.aload 0, .invokestatic 27] ls st g M Q := q_T_next rfl
theorem b_X1_expect_19 : q_T md d qP_X1_expect 19 [] ls st g M Q = q_T md d qP_X1_expect 20 [.return_] ls st g M Q := q_T_next rfl
theorem s_X1_fail {w : Nat} : q_S md d 27 [qR 1 w] g M Q = q_T md d qP_X1_fail 0 [] [qR 1 w] [] g M Q := rfl
theorem b_X1_fail_0 : q_T md d qP_X1_fail 0 [] ls st g M Q = q_T md d qP_X1_fail 7 [.aload 0, .getfield 109, .ifCond .ge (15)] ls st g M Q := q_T_next rfl
theorem b_X1_fail_7 : q_T md d qP_X1_fail 7 [] ls st g M Q = q_T md d qP_X1_fail 15 [.aload 0, .aload 0, .getfield 107, .putfield 109] ls st g M Q := q_T_next rfl
theorem b_X1_fail_15 : q_T md d qP_X1_fail 15 [] ls st g M Q = q_T md d qP_X1_fail 21 [.aload 0, .iconst (-1), .putfield 105, .return_] ls st g M Q := q_T_next rfl
theorem s_X1_emit {w : Nat} {x0 : Int} {x1 : Int} : q_S md d 28 [qR 1 w, qI x0, qI x1] g M Q = q_T md d qP_X1_emit 0 [] [qR 1 w, qI x0, qI x1] [] g M Q := rfl
theorem b_X1_emit_0 : q_T md d qP_X1_emit 0 [] ls st g M Q = q_T md d qP_X1_emit 12 [.aload 0, .getfield 103, .aload 0, .getfield 102, .arraylength, .if_icmp .ge (36)] ls st g M Q := q_T_next rfl
theorem b_X1_emit_12 : q_T md d qP_X1_emit 12 [] ls st g M Q = q_T md d qP_X1_emit 36 [.aload 0, .getfield 102, .aload 0, .getfield 103, .iload 2, .iconst (4), .ishl, .iload 1, .ior, .iastore, .aload 0, .dup, .getfield 103, .iconst (1), .iadd, .putfield 103] ls st g M Q := q_T_next rfl
theorem b_X1_emit_36 : q_T md d qP_X1_emit 36 [] ls st g M Q = q_T md d qP_X1_emit 37 [.return_] ls st g M Q := q_T_next rfl
theorem s_X1_either {w : Nat} {x0 : Int} : q_S md d 29 [qR 1 w, qI x0] g M Q = q_T md d qP_X1_either 0 [] [qR 1 w, qI x0, qS 0] [] g M Q := rfl
theorem b_X1_either_0 : q_T md d qP_X1_either 0 [] ls st g M Q = q_T md d qP_X1_either 7 [.aload 0, .iload 1, .invokestatic 30, .iconst (0), .istore 2] ls st g M Q := q_T_next rfl
theorem b_X1_either_7 : q_T md d qP_X1_either 7 [] ls st g M Q = q_T md d qP_X1_either 16 [.aload 0, .getfield 105, .iconst (-8), .if_icmp .ne (45)] ls st g M Q := q_T_next rfl
theorem b_X1_either_16 : q_T md d qP_X1_either 16 [] ls st g M Q = q_T md d qP_X1_either 23 [.iload 2, .iconst (160), .if_icmp .ge (45)] ls st g M Q := q_T_next rfl
theorem b_X1_either_23 : q_T md d qP_X1_either 23 [] ls st g M Q = q_T md d qP_X1_either 45 [.aload 0, .invokestatic 35, .aload 0, .iload 1, .invokestatic 30, .aload 0, .iconst (11), .iconst (0), .invokestatic 28, .iinc 2 (1), .goto (7)] ls st g M Q := q_T_next rfl
theorem b_X1_either_45 : q_T md d qP_X1_either 45 [] ls st g M Q = q_T md d qP_X1_either 46 [.return_] ls st g M Q := q_T_next rfl
theorem s_X1_both {w : Nat} {x0 : Int} : q_S md d 30 [qR 1 w, qI x0] g M Q = q_T md d qP_X1_both 0 [] [qR 1 w, qI x0, qS 0] [] g M Q := rfl
theorem b_X1_both_0 : q_T md d qP_X1_both 0 [] ls st g M Q = q_T md d qP_X1_both 7 [.aload 0, .iload 1, .invokestatic 31, .iconst (0), .istore 2] ls st g M Q := q_T_next rfl
theorem b_X1_both_7 : q_T md d qP_X1_both 7 [] ls st g M Q = q_T md d qP_X1_both 16 [.aload 0, .getfield 105, .iconst (-9), .if_icmp .ne (45)] ls st g M Q := q_T_next rfl
theorem b_X1_both_16 : q_T md d qP_X1_both 16 [] ls st g M Q = q_T md d qP_X1_both 23 [.iload 2, .iconst (160), .if_icmp .ge (45)] ls st g M Q := q_T_next rfl
theorem b_X1_both_23 : q_T md d qP_X1_both 23 [] ls st g M Q = q_T md d qP_X1_both 45 [.aload 0, .invokestatic 35, .aload 0, .iload 1, .invokestatic 31, .aload 0, .iconst (10), .iconst (0), .invokestatic 28, .iinc 2 (1), .goto (7)] ls st g M Q := q_T_next rfl
theorem b_X1_both_45 : q_T md d qP_X1_both 45 [] ls st g M Q = q_T md d qP_X1_both 46 [.return_] ls st g M Q := q_T_next rfl
theorem s_X1_not {w : Nat} {x0 : Int} : q_S md d 31 [qR 1 w, qI x0] g M Q = q_T md d qP_X1_not 0 [] [qR 1 w, qI x0, qS 0] [] g M Q := rfl
theorem b_X1_not_0 : q_T md d qP_X1_not 0 [] ls st g M Q = q_T md d qP_X1_not 9 [.aload 0, .getfield 105, .iconst (-10), .if_icmp .ne (37)] ls st g M Q := q_T_next rfl
theorem b_X1_not_9 : q_T md d qP_X1_not 9 [] ls st g M Q = q_T md d qP_X1_not 14 [.iload 1, .iconst (5), .if_icmp .lt (19)] ls st g M Q := q_T_next rfl
theorem b_X1_not_14 : q_T md d qP_X1_not 14 [] ls st g M Q = q_T md d qP_X1_not 19 [.aload 0, .invokestatic 27, .return_] ls st g M Q := q_T_next rfl
theorem b_X1_not_19 : q_T md d qP_X1_not 19 [] ls st g M Q = q_T md d qP_X1_not 37 [.aload 0, .invokestatic 35, .aload 0, .iload 1, .iconst (1), .iadd, .invokestatic 31, .aload 0, .iconst (4), .iconst (0), .invokestatic 28, .return_] ls st g M Q := q_T_next rfl
theorem b_X1_not_37 : q_T md d qP_X1_not 37 [] ls st g M Q = q_T md d qP_X1_not 51 [.aload 0, .iload 1, .invokestatic 32, .aload 0, .getfield 105, .iconst (60), .if_icmp .eq (60)] ls st g M Q := q_T_next rfl
theorem b_X1_not_51 : q_T md d qP_X1_not 51 [] ls st g M Q = q_T md d qP_X1_not 60 [.aload 0, .getfield 105, .iconst (61), .if_icmp .ne (92)] ls st g M Q := q_T_next rfl
theorem b_X1_not_60 : q_T md d qP_X1_not 60 [] ls st g M Q = q_T md d qP_X1_not 69 [.aload 0, .getfield 105, .iconst (60), .if_icmp .ne (74)] ls st g M Q := q_T_next rfl
theorem b_X1_not_69 : q_T md d qP_X1_not 69 [] ls st g M Q = q_T md d qP_X1_not 74 [.iconst (8), .goto (76)] ls st g M Q := q_T_next rfl
theorem b_X1_not_74 : q_T md d qP_X1_not 74 [] ls st g M Q = q_T md d qP_X1_not 76 [.iconst (9)] ls st g M Q := q_T_next rfl
theorem b_X1_not_76 : q_T md d qP_X1_not 76 [] ls st g M Q = q_T md d qP_X1_not 92 [.istore 2, .aload 0, .invokestatic 35, .aload 0, .iload 1, .invokestatic 32, .aload 0, .iload 2, .iconst (0), .invokestatic 28] ls st g M Q := q_T_next rfl
theorem b_X1_not_92 : q_T md d qP_X1_not 92 [] ls st g M Q = q_T md d qP_X1_not 93 [.return_] ls st g M Q := q_T_next rfl
theorem s_X1_sum {w : Nat} {x0 : Int} : q_S md d 32 [qR 1 w, qI x0] g M Q = q_T md d qP_X1_sum 0 [] [qR 1 w, qI x0, qS 0, qS 0] [] g M Q := rfl
theorem b_X1_sum_0 : q_T md d qP_X1_sum 0 [] ls st g M Q = q_T md d qP_X1_sum 7 [.aload 0, .iload 1, .invokestatic 33, .iconst (0), .istore 2] ls st g M Q := q_T_next rfl
theorem b_X1_sum_7 : q_T md d qP_X1_sum 7 [] ls st g M Q = q_T md d qP_X1_sum 16 [.aload 0, .getfield 105, .iconst (43), .if_icmp .eq (25)] ls st g M Q := q_T_next rfl
theorem b_X1_sum_16 : q_T md d qP_X1_sum 16 [] ls st g M Q = q_T md d qP_X1_sum 25 [.aload 0, .getfield 105, .iconst (45), .if_icmp .ne (70)] ls st g M Q := q_T_next rfl
theorem b_X1_sum_25 : q_T md d qP_X1_sum 25 [] ls st g M Q = q_T md d qP_X1_sum 32 [.iload 2, .iconst (160), .if_icmp .ge (70)] ls st g M Q := q_T_next rfl
theorem b_X1_sum_32 : q_T md d qP_X1_sum 32 [] ls st g M Q = q_T md d qP_X1_sum 41 [.aload 0, .getfield 105, .iconst (45), .if_icmp .ne (46)] ls st g M Q := q_T_next rfl
theorem b_X1_sum_41 : q_T md d qP_X1_sum 41 [] ls st g M Q = q_T md d qP_X1_sum 46 [.iconst (7), .goto (48)] ls st g M Q := q_T_next rfl
theorem b_X1_sum_46 : q_T md d qP_X1_sum 46 [] ls st g M Q = q_T md d qP_X1_sum 48 [.iconst (6)] ls st g M Q := q_T_next rfl
theorem b_X1_sum_48 : q_T md d qP_X1_sum 48 [] ls st g M Q = q_T md d qP_X1_sum 70 [.istore 3, .aload 0, .invokestatic 35, .aload 0, .iload 1, .invokestatic 33, .aload 0, .iload 3, .iconst (0), .invokestatic 28, .iinc 2 (1), .goto (7)] ls st g M Q := q_T_next rfl
theorem b_X1_sum_70 : q_T md d qP_X1_sum 70 [] ls st g M Q = q_T md d qP_X1_sum 71 [.return_] ls st g M Q := q_T_next rfl
theorem s_X1_term {w : Nat} {x0 : Int} : q_S md d 33 [qR 1 w, qI x0] g M Q = q_T md d qP_X1_term 0 [] [qR 1 w, qI x0, qS 0] [] g M Q := rfl
theorem b_X1_term_0 : q_T md d qP_X1_term 0 [] ls st g M Q = q_T md d qP_X1_term 7 [.aload 0, .iload 1, .invokestatic 34, .iconst (0), .istore 2] ls st g M Q := q_T_next rfl
theorem b_X1_term_7 : q_T md d qP_X1_term 7 [] ls st g M Q = q_T md d qP_X1_term 16 [.aload 0, .getfield 105, .iconst (42), .if_icmp .ne (44)] ls st g M Q := q_T_next rfl
theorem b_X1_term_16 : q_T md d qP_X1_term 16 [] ls st g M Q = q_T md d qP_X1_term 23 [.iload 2, .iconst (160), .if_icmp .ge (44)] ls st g M Q := q_T_next rfl
theorem b_X1_term_23 : q_T md d qP_X1_term 23 [] ls st g M Q = q_T md d qP_X1_term 44 [.aload 0, .invokestatic 35, .aload 0, .iload 1, .invokestatic 34, .aload 0, .iconst (5), .iconst (0), .invokestatic 28, .iinc 2 (1), .goto (7)] ls st g M Q := q_T_next rfl
theorem b_X1_term_44 : q_T md d qP_X1_term 44 [] ls st g M Q = q_T md d qP_X1_term 45 [.return_] ls st g M Q := q_T_next rfl
theorem s_X1_one {w : Nat} {x0 : Int} : q_S md d 34 [qR 1 w, qI x0] g M Q = q_T md d qP_X1_one 0 [] [qR 1 w, qI x0, qS 0] [] g M Q := rfl
theorem b_X1_one_0 : q_T md d qP_X1_one 0 [] ls st g M Q = q_T md d qP_X1_one 9 [.aload 0, .getfield 105, .iconst (-3), .if_icmp .eq (18)] ls st g M Q := q_T_next rfl
theorem b_X1_one_9 : q_T md d qP_X1_one 9 [] ls st g M Q = q_T md d qP_X1_one 18 [.aload 0, .getfield 105, .iconst (-4), .if_icmp .ne (45)] ls st g M Q := q_T_next rfl
theorem b_X1_one_18 : q_T md d qP_X1_one 18 [] ls st g M Q = q_T md d qP_X1_one 28 [.aload 0, .aload 0, .getfield 105, .iconst (-3), .if_icmp .ne (32)] ls st g M Q := q_T_next rfl
theorem b_X1_one_28 : q_T md d qP_X1_one 28 [] ls st g M Q = q_T md d qP_X1_one 32 [.iconst (1), .goto (33)] ls st g M Q := q_T_next rfl
theorem b_X1_one_32 : q_T md d qP_X1_one 32 [] ls st g M Q = q_T md d qP_X1_one 33 [.iconst (2)] ls st g M Q := q_T_next rfl
theorem b_X1_one_33 : q_T md d qP_X1_one 33 [] ls st g M Q = q_T md d qP_X1_one 45 [.aload 0, .getfield 106, .invokestatic 28, .aload 0, .invokestatic 35, .return_] ls st g M Q := q_T_next rfl
theorem b_X1_one_45 : q_T md d qP_X1_one 45 [] ls st g M Q = q_T md d qP_X1_one 54 [.aload 0, .getfield 105, .iconst (40), .if_icmp .eq (63)] ls st g M Q := q_T_next rfl
theorem b_X1_one_54 : q_T md d qP_X1_one 54 [] ls st g M Q = q_T md d qP_X1_one 63 [.aload 0, .getfield 105, .iconst (45), .if_icmp .ne (68)] ls st g M Q := q_T_next rfl
theorem b_X1_one_63 : q_T md d qP_X1_one 63 [] ls st g M Q = q_T md d qP_X1_one 68 [.iload 1, .iconst (5), .if_icmp .lt (73)] ls st g M Q := q_T_next rfl
theorem b_X1_one_68 : q_T md d qP_X1_one 68 [] ls st g M Q = q_T md d qP_X1_one 73 [.aload 0, .invokestatic 27, .return_] ls st g M Q := q_T_next rfl
theorem b_X1_one_73 : q_T md d qP_X1_one 73 [] ls st g M Q = q_T md d qP_X1_one 82 [.aload 0, .getfield 105, .iconst (45), .if_icmp .ne (86)] ls st g M Q := q_T_next rfl
theorem b_X1_one_82 : q_T md d qP_X1_one 82 [] ls st g M Q = q_T md d qP_X1_one 86 [.iconst (1), .goto (87)] ls st g M Q := q_T_next rfl
theorem b_X1_one_86 : q_T md d qP_X1_one 86 [] ls st g M Q = q_T md d qP_X1_one 87 [.iconst (0)] ls st g M Q := q_T_next rfl
theorem b_X1_one_87 : q_T md d qP_X1_one 87 [] ls st g M Q = q_T md d qP_X1_one 96 [.istore 2, .aload 0, .invokestatic 35, .iload 2, .ifCond .eq (112)] ls st g M Q := q_T_next rfl
theorem b_X1_one_96 : q_T md d qP_X1_one 96 [] ls st g M Q = q_T md d qP_X1_one 112 [.aload 0, .iload 1, .iconst (1), .iadd, .invokestatic 34, .aload 0, .iconst (3), .iconst (0), .invokestatic 28, .goto (125)] ls st g M Q := q_T_next rfl
theorem b_X1_one_112 : q_T md d qP_X1_one 112 [] ls st g M Q = q_T md d qP_X1_one 125 [.aload 0, .iload 1, .iconst (1), .iadd, .invokestatic 29, .aload 0, .iconst (41), .invokestatic 26] ls st g M Q := q_T_next rfl
theorem b_X1_one_125 : q_T md d qP_X1_one 125 [] ls st g M Q = q_T md d qP_X1_one 126 [.return_] ls st g M Q := q_T_next rfl
theorem s_X1_next {w : Nat} : q_S md d 35 [qR 1 w] g M Q = q_T md d qP_X1_next 0 [] [qR 1 w, qS 0] [] g M Q := rfl
theorem b_X1_next_0 : q_T md d qP_X1_next 0 [] ls st g M Q = q_T md d qP_X1_next 7 [.aload 0, .getfield 109, .ifCond .lt (8)] ls st g M Q := q_T_next rfl
theorem b_X1_next_7 : q_T md d qP_X1_next 7 [] ls st g M Q = q_T md d qP_X1_next 8 [.return_] ls st g M Q := q_T_next rfl
theorem b_X1_next_8 : q_T md d qP_X1_next 8 [] ls st g M Q = q_T md d qP_X1_next 16 [.aload 0, .aload 0, .getfield 108, .putfield 107] ls st g M Q := q_T_next rfl
theorem b_X1_next_16 : q_T md d qP_X1_next 16 [] ls st g M Q = q_T md d qP_X1_next 27 [.aload 0, .getfield 107, .aload 0, .getfield 101, .if_icmp .ge (68)] ls st g M Q := q_T_next rfl
theorem b_X1_next_27 : q_T md d qP_X1_next 27 [] ls st g M Q = q_T md d qP_X1_next 41 [.aload 0, .getfield 100, .aload 0, .getfield 107, .iaload, .iconst (32), .if_icmp .eq (55)] ls st g M Q := q_T_next rfl
theorem b_X1_next_41 : q_T md d qP_X1_next 41 [] ls st g M Q = q_T md d qP_X1_next 55 [.aload 0, .getfield 100, .aload 0, .getfield 107, .iaload, .iconst (10), .if_icmp .ne (68)] ls st g M Q := q_T_next rfl
theorem b_X1_next_55 : q_T md d qP_X1_next 55 [] ls st g M Q = q_T md d qP_X1_next 68 [.aload 0, .dup, .getfield 107, .iconst (1), .iadd, .putfield 107, .goto (16)] ls st g M Q := q_T_next rfl
theorem b_X1_next_68 : q_T md d qP_X1_next 68 [] ls st g M Q = q_T md d qP_X1_next 79 [.aload 0, .getfield 107, .aload 0, .getfield 101, .if_icmp .lt (94)] ls st g M Q := q_T_next rfl
theorem b_X1_next_79 : q_T md d qP_X1_next 79 [] ls st g M Q = q_T md d qP_X1_next 94 [.aload 0, .aload 0, .getfield 107, .putfield 108, .aload 0, .iconst (-2), .putfield 105, .return_] ls st g M Q := q_T_next rfl
theorem b_X1_next_94 : q_T md d qP_X1_next 94 [] ls st g M Q = q_T md d qP_X1_next 121 [.aload 0, .getfield 100, .aload 0, .getfield 107, .iaload, .istore 1, .aload 0, .aload 0, .getfield 107, .iconst (1), .iadd, .putfield 108, .iload 1, .invokestatic 39, .ifCond .eq (128)] ls st g M Q := q_T_next rfl
theorem b_X1_next_121 : q_T md d qP_X1_next 121 [] ls st g M Q = q_T md d qP_X1_next 128 [.aload 0, .invokestatic 36, .goto (158)] ls st g M Q := q_T_next rfl
theorem b_X1_next_128 : q_T md d qP_X1_next 128 [] ls st g M Q = q_T md d qP_X1_next 135 [.iload 1, .invokestatic 40, .ifCond .eq (142)] ls st g M Q := q_T_next rfl
theorem b_X1_next_135 : q_T md d qP_X1_next 135 [] ls st g M Q = q_T md d qP_X1_next 142 [.aload 0, .invokestatic 37, .goto (158)] ls st g M Q := q_T_next rfl
theorem b_X1_next_142 : q_T md d qP_X1_next 142 [] ls st g M Q = q_T md d qP_X1_next 150 [.aload 0, .iload 1, .invokestatic 41, .ifCond .eq (154)] ls st g M Q := q_T_next rfl
theorem b_X1_next_150 : q_T md d qP_X1_next 150 [] ls st g M Q = q_T md d qP_X1_next 154 [.iload 1, .goto (155)] ls st g M Q := q_T_next rfl
theorem b_X1_next_154 : q_T md d qP_X1_next 154 [] ls st g M Q = q_T md d qP_X1_next 155 [.iconst (-1)] ls st g M Q := q_T_next rfl
theorem b_X1_next_155 : q_T md d qP_X1_next 155 [] ls st g M Q = q_T md d qP_X1_next 158 [.putfield 105] ls st g M Q := q_T_next rfl
theorem b_X1_next_158 : q_T md d qP_X1_next 158 [] ls st g M Q = q_T md d qP_X1_next 159 [.return_] ls st g M Q := q_T_next rfl
theorem s_X1_word {w : Nat} : q_S md d 36 [qR 1 w] g M Q = q_T md d qP_X1_word 0 [] [qR 1 w] [] g M Q := rfl
theorem b_X1_word_0 : q_T md d qP_X1_word 0 [] ls st g M Q = q_T md d qP_X1_word 11 [.aload 0, .getfield 108, .aload 0, .getfield 101, .if_icmp .ge (39)] ls st g M Q := q_T_next rfl
theorem b_X1_word_11 : q_T md d qP_X1_word 11 [] ls st g M Q = q_T md d qP_X1_word 26 [.aload 0, .getfield 100, .aload 0, .getfield 108, .iaload, .invokestatic 39, .ifCond .eq (39)] ls st g M Q := q_T_next rfl
theorem b_X1_word_26 : q_T md d qP_X1_word 26 [] ls st g M Q = q_T md d qP_X1_word 39 [.aload 0, .dup, .getfield 108, .iconst (1), .iadd, .putfield 108, .goto (0)] ls st g M Q := q_T_next rfl
theorem b_X1_word_39 : q_T md d qP_X1_word 39 [] ls st g M Q = q_T md d qP_X1_word 128 [.aload 0, .iconst (-1), .putfield 105, .aload 0, .ldc 1, .iconst (-5), .iconst (0), .invokestatic 38, .aload 0, .ldc 2, .iconst (-6), .iconst (0), .invokestatic 38, .aload 0, .ldc 3, .iconst (-7), .iconst (0), .invokestatic 38, .aload 0, .ldc 4, .iconst (-8), .iconst (0), .invokestatic 38, .aload 0, .ldc 5, .iconst (-9), .iconst (0), .invokestatic 38, .aload 0, .ldc 6, .iconst (-10), .iconst (0), .invokestatic 38, .aload 0, .ldc 7, .iconst (-4), .iconst (0), .invokestatic 38, .aload 0, .ldc 8, .iconst (-4), .iconst (1), .invokestatic 38, .aload 0, .ldc 9, .iconst (-4), .iconst (2), .invokestatic 38, .aload 0, .ldc 10] ls st g M Q := q_T_next rfl
theorem b_X1_word_128 : q_T md d qP_X1_word 128 [] ls st g M Q = q_T md d qP_X1_word 153 [.iconst (-4), .iconst (3), .invokestatic 38, .aload 0, .ldc 11, .iconst (-4), .iconst (4), .invokestatic 38, .aload 0, .ldc 12, .iconst (-4), .iconst (5), .invokestatic 38, .return_] ls st g M Q := q_T_next rfl
theorem s_X1_number {w : Nat} : q_S md d 37 [qR 1 w] g M Q = q_T md d qP_X1_number 0 [] [qR 1 w] [] g M Q := rfl
theorem b_X1_number_0 : q_T md d qP_X1_number 0 [] ls st g M Q = q_T md d qP_X1_number 13 [.aload 0, .iconst (0), .putfield 106, .aload 0, .aload 0, .getfield 107, .putfield 108] ls st g M Q := q_T_next rfl
theorem b_X1_number_13 : q_T md d qP_X1_number 13 [] ls st g M Q = q_T md d qP_X1_number 24 [.aload 0, .getfield 108, .aload 0, .getfield 101, .if_icmp .ge (76)] ls st g M Q := q_T_next rfl
theorem b_X1_number_24 : q_T md d qP_X1_number 24 [] ls st g M Q = q_T md d qP_X1_number 39 [.aload 0, .getfield 100, .aload 0, .getfield 108, .iaload, .invokestatic 40, .ifCond .eq (76)] ls st g M Q := q_T_next rfl
theorem b_X1_number_39 : q_T md d qP_X1_number 39 [] ls st g M Q = q_T md d qP_X1_number 76 [.aload 0, .iconst (10), .aload 0, .getfield 106, .imul, .aload 0, .getfield 100, .aload 0, .getfield 108, .iaload, .iadd, .iconst (48), .isub, .putfield 106, .aload 0, .dup, .getfield 108, .iconst (1), .iadd, .putfield 108, .goto (13)] ls st g M Q := q_T_next rfl
theorem b_X1_number_76 : q_T md d qP_X1_number 76 [] ls st g M Q = q_T md d qP_X1_number 90 [.aload 0, .aload 0, .getfield 108, .aload 0, .getfield 107, .isub, .iconst (4), .if_icmp .le (94)] ls st g M Q := q_T_next rfl
theorem b_X1_number_90 : q_T md d qP_X1_number 90 [] ls st g M Q = q_T md d qP_X1_number 94 [.iconst (-1), .goto (96)] ls st g M Q := q_T_next rfl
theorem b_X1_number_94 : q_T md d qP_X1_number 94 [] ls st g M Q = q_T md d qP_X1_number 96 [.iconst (-3)] ls st g M Q := q_T_next rfl
theorem b_X1_number_96 : q_T md d qP_X1_number 96 [] ls st g M Q = q_T md d qP_X1_number 100 [.putfield 105, .return_] ls st g M Q := q_T_next rfl
theorem s_X1_mean {w : Nat} {t0 : Nat} {x1 : Int} {x2 : Int} : q_S md d 38 [qR 1 w, qS (16 + t0), qI x1, qI x2] g M Q = q_T md d qP_X1_mean 0 [] [qR 1 w, qS (16 + t0), qI x1, qI x2, qS 0, qS 0] [] g M Q := rfl
theorem b_X1_mean_0 : q_T md d qP_X1_mean 0 [] ls st g M Q = q_T md d qP_X1_mean 16 [.aload 1, .invokestatic 199, .aload 0, .getfield 108, .aload 0, .getfield 107, .isub, .if_icmp .ne (20)] ls st g M Q := q_T_next rfl
theorem b_X1_mean_16 : q_T md d qP_X1_mean 16 [] ls st g M Q = q_T md d qP_X1_mean 20 [.iconst (1), .goto (21)] ls st g M Q := q_T_next rfl
theorem b_X1_mean_20 : q_T md d qP_X1_mean 20 [] ls st g M Q = q_T md d qP_X1_mean 21 [.iconst (0)] ls st g M Q := q_T_next rfl
theorem b_X1_mean_21 : q_T md d qP_X1_mean 21 [] ls st g M Q = q_T md d qP_X1_mean 26 [.istore 4, .iconst (0), .istore 5] ls st g M Q := q_T_next rfl
theorem b_X1_mean_26 : q_T md d qP_X1_mean 26 [] ls st g M Q = q_T md d qP_X1_mean 31 [.iload 4, .ifCond .eq (74)] ls st g M Q := q_T_next rfl
theorem b_X1_mean_31 : q_T md d qP_X1_mean 31 [] ls st g M Q = q_T md d qP_X1_mean 40 [.iload 5, .aload 1, .invokestatic 199, .if_icmp .ge (74)] ls st g M Q := q_T_next rfl
theorem b_X1_mean_40 : q_T md d qP_X1_mean 40 [] ls st g M Q = q_T md d qP_X1_mean 61 [.aload 0, .getfield 100, .aload 0, .getfield 107, .iload 5, .iadd, .iaload, .aload 1, .iload 5, .invokestatic 200, .if_icmp .ne (65)] ls st g M Q := q_T_next rfl
theorem b_X1_mean_61 : q_T md d qP_X1_mean 61 [] ls st g M Q = q_T md d qP_X1_mean 65 [.iconst (1), .goto (66)] ls st g M Q := q_T_next rfl
theorem b_X1_mean_65 : q_T md d qP_X1_mean 65 [] ls st g M Q = q_T md d qP_X1_mean 66 [.iconst (0)] ls st g M Q := q_T_next rfl
theorem b_X1_mean_66 : q_T md d qP_X1_mean 66 [] ls st g M Q = q_T md d qP_X1_mean 74 [.istore 4, .iinc 5 (1), .goto (26)] ls st g M Q := q_T_next rfl
theorem b_X1_mean_74 : q_T md d qP_X1_mean 74 [] ls st g M Q = q_T md d qP_X1_mean 79 [.iload 4, .ifCond .eq (89)] ls st g M Q := q_T_next rfl
theorem b_X1_mean_79 : q_T md d qP_X1_mean 79 [] ls st g M Q = q_T md d qP_X1_mean 89 [.aload 0, .iload 2, .putfield 105, .aload 0, .iload 3, .putfield 106] ls st g M Q := q_T_next rfl
theorem b_X1_mean_89 : q_T md d qP_X1_mean 89 [] ls st g M Q = q_T md d qP_X1_mean 90 [.return_] ls st g M Q := q_T_next rfl
theorem s_X1_isLetter {x0 : Int} : q_S md d 39 [qI x0] g M Q = q_T md d qP_X1_isLetter 0 [] [qI x0] [] g M Q := rfl
theorem b_X1_isLetter_0 : q_T md d qP_X1_isLetter 0 [] ls st g M Q = q_T md d qP_X1_isLetter 6 [.iload 0, .iconst (97), .if_icmp .lt (16)] ls st g M Q := q_T_next rfl
theorem b_X1_isLetter_6 : q_T md d qP_X1_isLetter 6 [] ls st g M Q = q_T md d qP_X1_isLetter 12 [.iload 0, .iconst (122), .if_icmp .gt (16)] ls st g M Q := q_T_next rfl
theorem b_X1_isLetter_12 : q_T md d qP_X1_isLetter 12 [] ls st g M Q = q_T md d qP_X1_isLetter 16 [.iconst (1), .goto (17)] ls st g M Q := q_T_next rfl
theorem b_X1_isLetter_16 : q_T md d qP_X1_isLetter 16 [] ls st g M Q = q_T md d qP_X1_isLetter 17 [.iconst (0)] ls st g M Q := q_T_next rfl
theorem b_X1_isLetter_17 : q_T md d qP_X1_isLetter 17 [] ls st g M Q = q_T md d qP_X1_isLetter 18 [.ret 1] ls st g M Q := q_T_next rfl
theorem s_X1_isDigit {x0 : Int} : q_S md d 40 [qI x0] g M Q = q_T md d qP_X1_isDigit 0 [] [qI x0] [] g M Q := rfl
theorem b_X1_isDigit_0 : q_T md d qP_X1_isDigit 0 [] ls st g M Q = q_T md d qP_X1_isDigit 6 [.iload 0, .iconst (48), .if_icmp .lt (16)] ls st g M Q := q_T_next rfl
theorem b_X1_isDigit_6 : q_T md d qP_X1_isDigit 6 [] ls st g M Q = q_T md d qP_X1_isDigit 12 [.iload 0, .iconst (57), .if_icmp .gt (16)] ls st g M Q := q_T_next rfl
theorem b_X1_isDigit_12 : q_T md d qP_X1_isDigit 12 [] ls st g M Q = q_T md d qP_X1_isDigit 16 [.iconst (1), .goto (17)] ls st g M Q := q_T_next rfl
theorem b_X1_isDigit_16 : q_T md d qP_X1_isDigit 16 [] ls st g M Q = q_T md d qP_X1_isDigit 17 [.iconst (0)] ls st g M Q := q_T_next rfl
theorem b_X1_isDigit_17 : q_T md d qP_X1_isDigit 17 [] ls st g M Q = q_T md d qP_X1_isDigit 18 [.ret 1] ls st g M Q := q_T_next rfl
theorem s_X1_isSign {x0 : Int} : q_S md d 41 [qI x0] g M Q = q_T md d qP_X1_isSign 0 [] [qI x0] [] g M Q := rfl
theorem b_X1_isSign_0 : q_T md d qP_X1_isSign 0 [] ls st g M Q = q_T md d qP_X1_isSign 6 [.iload 0, .iconst (40), .if_icmp .eq (48)] ls st g M Q := q_T_next rfl
theorem b_X1_isSign_6 : q_T md d qP_X1_isSign 6 [] ls st g M Q = q_T md d qP_X1_isSign 12 [.iload 0, .iconst (41), .if_icmp .eq (48)] ls st g M Q := q_T_next rfl
theorem b_X1_isSign_12 : q_T md d qP_X1_isSign 12 [] ls st g M Q = q_T md d qP_X1_isSign 18 [.iload 0, .iconst (59), .if_icmp .eq (48)] ls st g M Q := q_T_next rfl
theorem b_X1_isSign_18 : q_T md d qP_X1_isSign 18 [] ls st g M Q = q_T md d qP_X1_isSign 24 [.iload 0, .iconst (43), .if_icmp .eq (48)] ls st g M Q := q_T_next rfl
theorem b_X1_isSign_24 : q_T md d qP_X1_isSign 24 [] ls st g M Q = q_T md d qP_X1_isSign 30 [.iload 0, .iconst (45), .if_icmp .eq (48)] ls st g M Q := q_T_next rfl
theorem b_X1_isSign_30 : q_T md d qP_X1_isSign 30 [] ls st g M Q = q_T md d qP_X1_isSign 36 [.iload 0, .iconst (42), .if_icmp .eq (48)] ls st g M Q := q_T_next rfl
theorem b_X1_isSign_36 : q_T md d qP_X1_isSign 36 [] ls st g M Q = q_T md d qP_X1_isSign 42 [.iload 0, .iconst (60), .if_icmp .eq (48)] ls st g M Q := q_T_next rfl
theorem b_X1_isSign_42 : q_T md d qP_X1_isSign 42 [] ls st g M Q = q_T md d qP_X1_isSign 48 [.iload 0, .iconst (61), .if_icmp .ne (52)] ls st g M Q := q_T_next rfl
theorem b_X1_isSign_48 : q_T md d qP_X1_isSign 48 [] ls st g M Q = q_T md d qP_X1_isSign 52 [.iconst (1), .goto (53)] ls st g M Q := q_T_next rfl
theorem b_X1_isSign_52 : q_T md d qP_X1_isSign 52 [] ls st g M Q = q_T md d qP_X1_isSign 53 [.iconst (0)] ls st g M Q := q_T_next rfl
theorem b_X1_isSign_53 : q_T md d qP_X1_isSign 53 [] ls st g M Q = q_T md d qP_X1_isSign 54 [.ret 1] ls st g M Q := q_T_next rfl
theorem s_X2_isMissing {w : Nat} : q_S md d 43 [qR 2 w] g M Q = q_T md d qP_X2_isMissing 0 [] [qR 2 w] [] g M Q := rfl
theorem b_X2_isMissing_0 : q_T md d qP_X2_isMissing 0 [] ls st g M Q = q_T md d qP_X2_isMissing 8 [.aload 0, .getfield 201, .iconst (-1), .if_icmp .ne (12)] ls st g M Q := q_T_next rfl
theorem b_X2_isMissing_8 : q_T md d qP_X2_isMissing 8 [] ls st g M Q = q_T md d qP_X2_isMissing 12 [.iconst (1), .goto (13)] ls st g M Q := q_T_next rfl
theorem b_X2_isMissing_12 : q_T md d qP_X2_isMissing 12 [] ls st g M Q = q_T md d qP_X2_isMissing 13 [.iconst (0)] ls st g M Q := q_T_next rfl
theorem b_X2_isMissing_13 : q_T md d qP_X2_isMissing 13 [] ls st g M Q = q_T md d qP_X2_isMissing 14 [.ret 1] ls st g M Q := q_T_next rfl
theorem s_X2_become {w : Nat} {x0 : Int} {x1 : Int} : q_S md d 44 [qR 2 w, qI x0, qI x1] g M Q = q_T md d qP_X2_become 0 [] [qR 2 w, qI x0, qI x1, qS 0] [] g M Q := rfl
theorem b_X2_become_0 : q_T md d qP_X2_become 0 [] ls st g M Q = q_T md d qP_X2_become 12 [.aload 0, .iload 1, .putfield 201, .aload 0, .iload 2, .putfield 202, .iconst (0), .istore 3] ls st g M Q := q_T_next rfl
theorem b_X2_become_12 : q_T md d qP_X2_become 12 [] ls st g M Q = q_T md d qP_X2_become 18 [.iload 3, .iconst (40), .if_icmp .ge (31)] ls st g M Q := q_T_next rfl
theorem b_X2_become_18 : q_T md d qP_X2_become 18 [] ls st g M Q = q_T md d qP_X2_become 31 [.aload 0, .getfield 200, .iload 3, .iconst (0), .iastore, .iinc 3 (1), .goto (12)] ls st g M Q := q_T_next rfl
theorem b_X2_become_31 : q_T md d qP_X2_become 31 [] ls st g M Q = q_T md d qP_X2_become 32 [.return_] ls st g M Q := q_T_next rfl
theorem s_X2_write {w : Nat} {x0 : Int} {x1 : Int} : q_S md d 45 [qR 2 w, qI x0, qI x1] g M Q = q_T md d qP_X2_write 0 [] [qR 2 w, qI x0, qI x1] [] g M Q := rfl
theorem b_X2_write_0 : q_T md d qP_X2_write 0 [] ls st g M Q = q_T md d qP_X2_write 4 [.iload 1, .ifCond .lt (44)] ls st g M Q := q_T_next rfl
theorem b_X2_write_4 : q_T md d qP_X2_write 4 [] ls st g M Q = q_T md d qP_X2_write 12 [.iload 1, .aload 0, .getfield 202, .if_icmp .ge (44)] ls st g M Q := q_T_next rfl
theorem b_X2_write_12 : q_T md d qP_X2_write 12 [] ls st g M Q = q_T md d qP_X2_write 24 [.aload 0, .getfield 200, .iload 1, .aload 0, .getfield 201, .ifCond .ne (29)] ls st g M Q := q_T_next rfl
theorem b_X2_write_24 : q_T md d qP_X2_write 24 [] ls st g M Q = q_T md d qP_X2_write 29 [.iload 2, .i2b, .goto (43)] ls st g M Q := q_T_next rfl
theorem b_X2_write_29 : q_T md d qP_X2_write 29 [] ls st g M Q = q_T md d qP_X2_write 37 [.aload 0, .getfield 201, .iconst (1), .if_icmp .ne (42)] ls st g M Q := q_T_next rfl
theorem b_X2_write_37 : q_T md d qP_X2_write 37 [] ls st g M Q = q_T md d qP_X2_write 42 [.iload 2, .i2s, .goto (43)] ls st g M Q := q_T_next rfl
theorem b_X2_write_42 : q_T md d qP_X2_write 42 [] ls st g M Q = q_T md d qP_X2_write 43 [.iload 2] ls st g M Q := q_T_next rfl
theorem b_X2_write_43 : q_T md d qP_X2_write 43 [] ls st g M Q = q_T md d qP_X2_write 44 [.iastore] ls st g M Q := q_T_next rfl
theorem b_X2_write_44 : q_T md d qP_X2_write 44 [] ls st g M Q = q_T md d qP_X2_write 45 [.return_] ls st g M Q := q_T_next rfl
theorem s_X3_init {w : Nat} {x0 : Int} {k1 y1 : Nat} {k2 y2 : Nat} : q_S md d 46 [qR 3 w, qI x0, qR k1 y1, qR k2 y2] g M Q = q_T md d qP_X3_init 0 [] [qR 3 w, qI x0, qR k1 y1, qR k2 y2] [] g M Q := rfl
theorem b_X3_init_0 : q_T md d qP_X3_init 0 [] ls st g M Q = q_T md d qP_X3_init 28 [.aload 0, .monitorenter, .aload 0, .iconst (40), .newarray .int, .putfield 303, .aload 0, .iload 1, .putfield 300, .aload 0, .aload 2, .putfield 301, .aload 0, .aload 3, .putfield 302, .return_] ls st g M Q := q_T_next rfl
theorem s_X3_value {w : Nat} {x0 : Int} {k1 y1 : Nat} : q_S md d 47 [qR 3 w, qI x0, qR k1 y1] g M Q = q_T md d qP_X3_value 0 [] [qR 3 w, qI x0, qR k1 y1, qS 0, qS 0, qS 0, qS 0, qS 0, qS 0, qS 0] [] g M Q := rfl
theorem b_X3_value_0 : q_T md d qP_X3_value 0 [] ls st g M Q = q_T md d qP_X3_value 10 [.iconst (1), .istore 3, .aload 0, .getfield 302, .iload 1, .iaload, .istore 4] ls st g M Q := q_T_next rfl
theorem b_X3_value_10 : q_T md d qP_X3_value 10 [] ls st g M Q = q_T md d qP_X3_value 20 [.iload 4, .aload 0, .getfield 301, .arraylength, .if_icmp .ge (339)] ls st g M Q := q_T_next rfl
theorem b_X3_value_20 : q_T md d qP_X3_value 20 [] ls st g M Q = q_T md d qP_X3_value 48 [.aload 0, .getfield 301, .iload 4, .iaload, .iconst (15), .iand, .istore 5, .aload 0, .getfield 301, .iload 4, .iaload, .iconst (4), .ishr, .istore 6, .iload 5, .ifCond .ne (51)] ls st g M Q := q_T_next rfl
theorem b_X3_value_48 : q_T md d qP_X3_value 48 [] ls st g M Q = q_T md d qP_X3_value 51 [.goto (339)] ls st g M Q := q_T_next rfl
theorem b_X3_value_51 : q_T md d qP_X3_value 51 [] ls st g M Q = q_T md d qP_X3_value 57 [.iload 5, .iconst (1), .if_icmp .eq (63)] ls st g M Q := q_T_next rfl
theorem b_X3_value_57 : q_T md d qP_X3_value 57 [] ls st g M Q = q_T md d qP_X3_value 63 [.iload 5, .iconst (2), .if_icmp .ne (98)] ls st g M Q := q_T_next rfl
theorem b_X3_value_63 : q_T md d qP_X3_value 63 [] ls st g M Q = q_T md d qP_X3_value 69 [.iload 3, .iconst (39), .if_icmp .lt (71)] ls st g M Q := q_T_next rfl
theorem b_X3_value_69 : q_T md d qP_X3_value 69 [] ls st g M Q = q_T md d qP_X3_value 71 [.iconst (0), .ret 0] ls st g M Q := q_T_next rfl
theorem b_X3_value_71 : q_T md d qP_X3_value 71 [] ls st g M Q = q_T md d qP_X3_value 85 [.iinc 3 (1), .aload 0, .getfield 303, .iload 3, .iload 5, .iconst (1), .if_icmp .ne (90)] ls st g M Q := q_T_next rfl
theorem b_X3_value_85 : q_T md d qP_X3_value 85 [] ls st g M Q = q_T md d qP_X3_value 90 [.iload 6, .goto (94)] ls st g M Q := q_T_next rfl
theorem b_X3_value_90 : q_T md d qP_X3_value 90 [] ls st g M Q = q_T md d qP_X3_value 94 [.aload 2, .iload 6, .iaload] ls st g M Q := q_T_next rfl
theorem b_X3_value_94 : q_T md d qP_X3_value 94 [] ls st g M Q = q_T md d qP_X3_value 98 [.iastore, .goto (333)] ls st g M Q := q_T_next rfl
theorem b_X3_value_98 : q_T md d qP_X3_value 98 [] ls st g M Q = q_T md d qP_X3_value 104 [.iload 5, .iconst (3), .if_icmp .eq (110)] ls st g M Q := q_T_next rfl
theorem b_X3_value_104 : q_T md d qP_X3_value 104 [] ls st g M Q = q_T md d qP_X3_value 110 [.iload 5, .iconst (4), .if_icmp .ne (156)] ls st g M Q := q_T_next rfl
theorem b_X3_value_110 : q_T md d qP_X3_value 110 [] ls st g M Q = q_T md d qP_X3_value 115 [.iload 3, .iconst (2), .if_icmp .ge (117)] ls st g M Q := q_T_next rfl
theorem b_X3_value_115 : q_T md d qP_X3_value 115 [] ls st g M Q = q_T md d qP_X3_value 117 [.iconst (0), .ret 0] ls st g M Q := q_T_next rfl
theorem b_X3_value_117 : q_T md d qP_X3_value 117 [] ls st g M Q = q_T md d qP_X3_value 136 [.aload 0, .getfield 303, .iload 3, .iaload, .istore 7, .aload 0, .getfield 303, .iload 3, .iload 5, .iconst (3), .if_icmp .ne (142)] ls st g M Q := q_T_next rfl
theorem b_X3_value_136 : q_T md d qP_X3_value 136 [] ls st g M Q = q_T md d qP_X3_value 142 [.iload 7, .ineg, .goto (152)] ls st g M Q := q_T_next rfl
theorem b_X3_value_142 : q_T md d qP_X3_value 142 [] ls st g M Q = q_T md d qP_X3_value 147 [.iload 7, .ifCond .ne (151)] ls st g M Q := q_T_next rfl
theorem b_X3_value_147 : q_T md d qP_X3_value 147 [] ls st g M Q = q_T md d qP_X3_value 151 [.iconst (1), .goto (152)] ls st g M Q := q_T_next rfl
theorem b_X3_value_151 : q_T md d qP_X3_value 151 [] ls st g M Q = q_T md d qP_X3_value 152 [.iconst (0)] ls st g M Q := q_T_next rfl
theorem b_X3_value_152 : q_T md d qP_X3_value 152 [] ls st g M Q = q_T md d qP_X3_value 156 [.iastore, .goto (333)] ls st g M Q := q_T_next rfl
theorem b_X3_value_156 : q_T md d qP_X3_value 156 [] ls st g M Q = q_T md d qP_X3_value 161 [.iload 3, .iconst (3), .if_icmp .ge (163)] ls st g M Q := q_T_next rfl
theorem b_X3_value_161 : q_T md d qP_X3_value 161 [] ls st g M Q = q_T md d qP_X3_value 163 [.iconst (0), .ret 0] ls st g M Q := q_T_next rfl
theorem b_X3_value_163 : q_T md d qP_X3_value 163 [] ls st g M Q = q_T md d qP_X3_value 224 [.iinc 3 (-1), .aload 0, .getfield 303, .iload 3, .iaload, .istore 7, .aload 0, .getfield 303, .iload 3, .iconst (1), .iadd, .iaload, .istore 8, .iload 5, .tableswitch (308) (5) (10) #[224, 234, 244, 254, 271, 288]] ls st g M Q := q_T_next rfl
theorem b_X3_value_224 : q_T md d qP_X3_value 224 [] ls st g M Q = q_T md d qP_X3_value 234 [.iload 7, .iload 8, .imul, .istore 9, .goto (325)] ls st g M Q := q_T_next rfl
theorem b_X3_value_234 : q_T md d qP_X3_value 234 [] ls st g M Q = q_T md d qP_X3_value 244 [.iload 7, .iload 8, .iadd, .istore 9, .goto (325)] ls st g M Q := q_T_next rfl
theorem b_X3_value_244 : q_T md d qP_X3_value 244 [] ls st g M Q = q_T md d qP_X3_value 254 [.iload 7, .iload 8, .isub, .istore 9, .goto (325)] ls st g M Q := q_T_next rfl
theorem b_X3_value_254 : q_T md d qP_X3_value 254 [] ls st g M Q = q_T md d qP_X3_value 261 [.iload 7, .iload 8, .if_icmp .ge (265)] ls st g M Q := q_T_next rfl
theorem b_X3_value_261 : q_T md d qP_X3_value 261 [] ls st g M Q = q_T md d qP_X3_value 265 [.iconst (1), .goto (266)] ls st g M Q := q_T_next rfl
theorem b_X3_value_265 : q_T md d qP_X3_value 265 [] ls st g M Q = q_T md d qP_X3_value 266 [.iconst (0)] ls st g M Q := q_T_next rfl
theorem b_X3_value_266 : q_T md d qP_X3_value 266 [] ls st g M Q = q_T md d qP_X3_value 271 [.istore 9, .goto (325)] ls st g M Q := q_T_next rfl
theorem b_X3_value_271 : q_T md d qP_X3_value 271 [] ls st g M Q = q_T md d qP_X3_value 278 [.iload 7, .iload 8, .if_icmp .ne (282)] ls st g M Q := q_T_next rfl
theorem b_X3_value_278 : q_T md d qP_X3_value 278 [] ls st g M Q = q_T md d qP_X3_value 282 [.iconst (1), .goto (283)] ls st g M Q := q_T_next rfl
theorem b_X3_value_282 : q_T md d qP_X3_value 282 [] ls st g M Q = q_T md d qP_X3_value 283 [.iconst (0)] ls st g M Q := q_T_next rfl
theorem b_X3_value_283 : q_T md d qP_X3_value 283 [] ls st g M Q = q_T md d qP_X3_value 288 [.istore 9, .goto (325)] ls st g M Q := q_T_next rfl
theorem b_X3_value_288 : q_T md d qP_X3_value 288 [] ls st g M Q = q_T md d qP_X3_value 293 [.iload 7, .ifCond .eq (302)] ls st g M Q := q_T_next rfl
theorem b_X3_value_293 : q_T md d qP_X3_value 293 [] ls st g M Q = q_T md d qP_X3_value 298 [.iload 8, .ifCond .eq (302)] ls st g M Q := q_T_next rfl
theorem b_X3_value_298 : q_T md d qP_X3_value 298 [] ls st g M Q = q_T md d qP_X3_value 302 [.iconst (1), .goto (303)] ls st g M Q := q_T_next rfl
theorem b_X3_value_302 : q_T md d qP_X3_value 302 [] ls st g M Q = q_T md d qP_X3_value 303 [.iconst (0)] ls st g M Q := q_T_next rfl
theorem b_X3_value_303 : q_T md d qP_X3_value 303 [] ls st g M Q = q_T md d qP_X3_value 308 [.istore 9, .goto (325)] ls st g M Q := q_T_next rfl
theorem b_X3_value_308 : q_T md d qP_X3_value 308 [] ls st g M Q = q_T md d qP_X3_value 313 [.iload 7, .ifCond .ne (318)] ls st g M Q := q_T_next rfl
theorem b_X3_value_313 : q_T md d qP_X3_value 313 [] ls st g M Q = q_T md d qP_X3_value 318 [.iload 8, .ifCond .eq (322)] ls st g M Q := q_T_next rfl
theorem b_X3_value_318 : q_T md d qP_X3_value 318 [] ls st g M Q = q_T md d qP_X3_value 322 [.iconst (1), .goto (323)] ls st g M Q := q_T_next rfl
theorem b_X3_value_322 : q_T md d qP_X3_value 322 [] ls st g M Q = q_T md d qP_X3_value 323 [.iconst (0)] ls st g M Q := q_T_next rfl
theorem b_X3_value_323 : q_T md d qP_X3_value 323 [] ls st g M Q = q_T md d qP_X3_value 325 [.istore 9] ls st g M Q := q_T_next rfl
theorem b_X3_value_325 : q_T md d qP_X3_value 325 [] ls st g M Q = q_T md d qP_X3_value 333 [.aload 0, .getfield 303, .iload 3, .iload 9, .iastore] ls st g M Q := q_T_next rfl
theorem b_X3_value_333 : q_T md d qP_X3_value 333 [] ls st g M Q = q_T md d qP_X3_value 339 [.iinc 4 (1), .goto (10)] ls st g M Q := q_T_next rfl
theorem b_X3_value_339 : q_T md d qP_X3_value 339 [] ls st g M Q = q_T md d qP_X3_value 344 [.iload 3, .iconst (2), .if_icmp .ge (348)] ls st g M Q := q_T_next rfl
theorem b_X3_value_344 : q_T md d qP_X3_value 344 [] ls st g M Q = q_T md d qP_X3_value 348 [.iconst (0), .goto (354)] ls st g M Q := q_T_next rfl
theorem b_X3_value_348 : q_T md d qP_X3_value 348 [] ls st g M Q = q_T md d qP_X3_value 354 [.aload 0, .getfield 303, .iload 3, .iaload] ls st g M Q := q_T_next rfl
theorem b_X3_value_354 : q_T md d qP_X3_value 354 [] ls st g M Q = q_T md d qP_X3_value 355 [.ret 0] ls st g M Q := q_T_next rfl
theorem s_X4_copyFrom {w : Nat} {k0 y0 : Nat} : q_S md d 49 [qR 4 w, qR k0 y0] g M Q = q_T md d qP_X4_copyFrom 0 [] [qR 4 w, qR k0 y0] [] g M Q := rfl
theorem b_X4_copyFrom_0 : q_T md d qP_X4_copyFrom 0 [] ls st g M Q = q_T md d qP_X4_copyFrom 90 [.aload 0, .getfield 400, .aload 1, .getfield 400, .invokestatic 1, .aload 1, .getfield 401, .iconst (0), .aload 0, .getfield 401, .iconst (0), .iconst (5), .monitorexit, .aload 1, .getfield 402, .iconst (0), .aload 0, .getfield 402, .iconst (0), .iconst (5), .monitorexit, .aload 1, .getfield 403, .iconst (0), .aload 0, .getfield 403, .iconst (0), .iconst (5), .monitorexit, .aload 1, .getfield 404, .iconst (0), .aload 0, .getfield 404, .iconst (0), .iconst (5), .monitorexit, .aload 1, .getfield 405, .iconst (0), .aload 0, .getfield 405, .iconst (0), .iconst (5), .monitorexit, .aload 1, .getfield 406, .iconst (0), .aload 0, .getfield 406] ls st g M Q := q_T_next rfl
theorem b_X4_copyFrom_90 : q_T md d qP_X4_copyFrom 90 [] ls st g M Q = q_T md d qP_X4_copyFrom 126 [.iconst (0), .iconst (5), .monitorexit, .aload 1, .getfield 407, .iconst (0), .aload 0, .getfield 407, .iconst (0), .iconst (5), .monitorexit, .aload 0, .aload 1, .getfield 409, .putfield 409, .aload 0, .aload 1, .getfield 410, .putfield 410, .return_] ls st g M Q := q_T_next rfl
theorem s_X4_add {w : Nat} {x0 : Int} {x1 : Int} {x2 : Int} : q_S md d 50 [qR 4 w, qI x0, qI x1, qI x2] g M Q = q_T md d qP_X4_add 0 [] [qR 4 w, qI x0, qI x1, qI x2, qS 0] [] g M Q := rfl
theorem b_X4_add_0 : q_T md d qP_X4_add 0 [] ls st g M Q = q_T md d qP_X4_add 15 [.aload 0, .getfield 400, .getfield 5, .istore 4, .iload 4, .iconst (5), .if_icmp .lt (18)] ls st g M Q := q_T_next rfl
theorem b_X4_add_15 : q_T md d qP_X4_add 15 [] ls st g M Q = q_T md d qP_X4_add 18 [.iconst (-4), .ret 0] ls st g M Q := q_T_next rfl
theorem b_X4_add_18 : q_T md d qP_X4_add 18 [] ls st g M Q = q_T md d qP_X4_add 81 [.aload 0, .getfield 404, .iload 4, .iload 1, .iconst (10), .idiv, .iastore, .aload 0, .getfield 405, .iload 4, .iload 1, .iconst (10), .irem, .iastore, .aload 0, .getfield 406, .iload 4, .iload 2, .iastore, .aload 0, .getfield 407, .iload 4, .iload 3, .iastore, .aload 0, .getfield 400, .getfield 1, .iload 4, .iconst (5), .iastore, .aload 0, .getfield 400, .iload 4, .iconst (1), .iadd, .putfield 5, .iload 4, .ret 0] ls st g M Q := q_T_next rfl
theorem s_X4_lay {w : Nat} {x0 : Int} {x1 : Int} : q_S md d 51 [qR 4 w, qI x0, qI x1] g M Q = q_T md d qP_X4_lay 0 [] [qR 4 w, qI x0, qI x1] [] g M Q := rfl
theorem b_X4_lay_0 : q_T md d qP_X4_lay 0 [] ls st g M Q = q_T md d qP_X4_lay 18 [.aload 0, .getfield 406, .iload 1, .iload 2, .iastore, .aload 0, .getfield 400, .getfield 1, .iload 1, .iconst (5), .iastore, .return_] ls st g M Q := q_T_next rfl
theorem s_X4_move {w : Nat} {x0 : Int} {x1 : Int} : q_S md d 52 [qR 4 w, qI x0, qI x1] g M Q = q_T md d qP_X4_move 0 [] [qR 4 w, qI x0, qI x1, qS 0] [] g M Q := rfl
theorem b_X4_move_0 : q_T md d qP_X4_move 0 [] ls st g M Q = q_T md d qP_X4_move 9 [.aload 0, .getfield 401, .iload 1, .iload 2, .iastore, .iconst (0), .istore 3] ls st g M Q := q_T_next rfl
theorem b_X4_move_9 : q_T md d qP_X4_move 9 [] ls st g M Q = q_T md d qP_X4_move 20 [.iload 3, .aload 0, .getfield 400, .getfield 5, .if_icmp .ge (46)] ls st g M Q := q_T_next rfl
theorem b_X4_move_20 : q_T md d qP_X4_move 20 [] ls st g M Q = q_T md d qP_X4_move 33 [.aload 0, .getfield 400, .getfield 1, .iload 3, .iaload, .iload 1, .if_icmp .ne (40)] ls st g M Q := q_T_next rfl
theorem b_X4_move_33 : q_T md d qP_X4_move 33 [] ls st g M Q = q_T md d qP_X4_move 40 [.aload 0, .getfield 406, .iload 3, .iload 2, .iastore] ls st g M Q := q_T_next rfl
theorem b_X4_move_40 : q_T md d qP_X4_move 40 [] ls st g M Q = q_T md d qP_X4_move 46 [.iinc 3 (1), .goto (9)] ls st g M Q := q_T_next rfl
theorem b_X4_move_46 : q_T md d qP_X4_move 46 [] ls st g M Q = q_T md d qP_X4_move 47 [.return_] ls st g M Q := q_T_next rfl
theorem s_X4_says {w : Nat} {x0 : Int} {x1 : Int} {x2 : Int} : q_S md d 53 [qR 4 w, qI x0, qI x1, qI x2] g M Q = q_T md d qP_X4_says 0 [] [qR 4 w, qI x0, qI x1, qI x2, qS 0] [] g M Q := rfl
theorem b_X4_says_0 : q_T md d qP_X4_says 0 [] ls st g M Q = q_T md d qP_X4_says 10 [.aload 0, .getfield 408, .iconst (0), .iload 3, .iconst (5), .if_icmp .ne (14)] ls st g M Q := q_T_next rfl
theorem b_X4_says_10 : q_T md d qP_X4_says 10 [] ls st g M Q = q_T md d qP_X4_says 14 [.iconst (0), .goto (30)] ls st g M Q := q_T_next rfl
theorem b_X4_says_14 : q_T md d qP_X4_says 14 [] ls st g M Q = q_T md d qP_X4_says 30 [.aload 0, .getfield 406, .iload 2, .iaload, .aload 0, .getfield 401, .iload 3, .iaload, .isub, .invokestatic 206] ls st g M Q := q_T_next rfl
theorem b_X4_says_30 : q_T md d qP_X4_says 30 [] ls st g M Q = q_T md d qP_X4_says 94 [.iastore, .aload 0, .getfield 408, .iconst (1), .aload 0, .getfield 402, .iload 3, .iaload, .iastore, .aload 0, .getfield 408, .iconst (2), .aload 0, .getfield 403, .iload 3, .iaload, .iastore, .aload 0, .getfield 408, .iconst (3), .aload 0, .getfield 407, .iload 2, .iaload, .iastore, .aload 0, .getfield 408, .iconst (4), .aload 0, .getfield 409, .iastore, .aload 0, .getfield 408, .iconst (5), .aload 0, .getfield 405, .iload 2, .iaload, .iastore, .iload 1, .iconst (2), .if_icmp .ne (98)] ls st g M Q := q_T_next rfl
theorem b_X4_says_94 : q_T md d qP_X4_says 94 [] ls st g M Q = q_T md d qP_X4_says 98 [.iconst (0), .goto (100)] ls st g M Q := q_T_next rfl
theorem b_X4_says_98 : q_T md d qP_X4_says 98 [] ls st g M Q = q_T md d qP_X4_says 100 [.iconst (-99)] ls st g M Q := q_T_next rfl
theorem b_X4_says_100 : q_T md d qP_X4_says 100 [] ls st g M Q = q_T md d qP_X4_says 125 [.istore 4, .iload 4, .iconst (99), .aload 0, .getfield 410, .iload 1, .aload 0, .getfield 408, .invokestatic 47, .invokestatic 208, .invokestatic 207, .ret 0] ls st g M Q := q_T_next rfl
theorem s_X4_likes {w : Nat} {x0 : Int} {x1 : Int} : q_S md d 54 [qR 4 w, qI x0, qI x1] g M Q = q_T md d qP_X4_likes 0 [] [qR 4 w, qI x0, qI x1, qS 0, qS 0] [] g M Q := rfl
theorem b_X4_likes_0 : q_T md d qP_X4_likes 0 [] ls st g M Q = q_T md d qP_X4_likes 10 [.aload 0, .getfield 404, .iload 1, .iaload, .iconst (5), .if_icmp .ne (27)] ls st g M Q := q_T_next rfl
theorem b_X4_likes_10 : q_T md d qP_X4_likes 10 [] ls st g M Q = q_T md d qP_X4_likes 25 [.aload 0, .getfield 403, .iload 2, .iaload, .aload 0, .getfield 405, .iload 1, .iaload, .if_icmp .le (27)] ls st g M Q := q_T_next rfl
theorem b_X4_likes_25 : q_T md d qP_X4_likes 25 [] ls st g M Q = q_T md d qP_X4_likes 27 [.iconst (-1), .ret 0] ls st g M Q := q_T_next rfl
theorem b_X4_likes_27 : q_T md d qP_X4_likes 27 [] ls st g M Q = q_T md d qP_X4_likes 37 [.aload 0, .getfield 404, .iload 1, .iaload, .iconst (1), .if_icmp .eq (47)] ls st g M Q := q_T_next rfl
theorem b_X4_likes_37 : q_T md d qP_X4_likes 37 [] ls st g M Q = q_T md d qP_X4_likes 47 [.aload 0, .getfield 404, .iload 1, .iaload, .iconst (3), .if_icmp .ne (51)] ls st g M Q := q_T_next rfl
theorem b_X4_likes_47 : q_T md d qP_X4_likes 47 [] ls st g M Q = q_T md d qP_X4_likes 51 [.iconst (1), .goto (52)] ls st g M Q := q_T_next rfl
theorem b_X4_likes_51 : q_T md d qP_X4_likes 51 [] ls st g M Q = q_T md d qP_X4_likes 52 [.iconst (0)] ls st g M Q := q_T_next rfl
theorem b_X4_likes_52 : q_T md d qP_X4_likes 52 [] ls st g M Q = q_T md d qP_X4_likes 57 [.istore 3, .iload 3, .ifCond .eq (72)] ls st g M Q := q_T_next rfl
theorem b_X4_likes_57 : q_T md d qP_X4_likes 57 [] ls st g M Q = q_T md d qP_X4_likes 69 [.aload 0, .getfield 405, .iload 1, .iaload, .iconst (5), .irem, .iload 2, .if_icmp .ne (72)] ls st g M Q := q_T_next rfl
theorem b_X4_likes_69 : q_T md d qP_X4_likes 69 [] ls st g M Q = q_T md d qP_X4_likes 72 [.iconst (99), .ret 0] ls st g M Q := q_T_next rfl
theorem b_X4_likes_72 : q_T md d qP_X4_likes 72 [] ls st g M Q = q_T md d qP_X4_likes 85 [.aload 0, .iconst (0), .iload 1, .iload 2, .invokestatic 53, .istore 4, .iload 3, .ifCond .eq (90)] ls st g M Q := q_T_next rfl
theorem b_X4_likes_85 : q_T md d qP_X4_likes 85 [] ls st g M Q = q_T md d qP_X4_likes 90 [.iload 4, .iconst (2), .idiv, .ret 0] ls st g M Q := q_T_next rfl
theorem b_X4_likes_90 : q_T md d qP_X4_likes 90 [] ls st g M Q = q_T md d qP_X4_likes 100 [.aload 0, .getfield 404, .iload 1, .iaload, .iconst (4), .if_icmp .ne (117)] ls st g M Q := q_T_next rfl
theorem b_X4_likes_100 : q_T md d qP_X4_likes 100 [] ls st g M Q = q_T md d qP_X4_likes 111 [.aload 0, .getfield 402, .iload 2, .iaload, .iconst (50), .if_icmp .le (117)] ls st g M Q := q_T_next rfl
theorem b_X4_likes_111 : q_T md d qP_X4_likes 111 [] ls st g M Q = q_T md d qP_X4_likes 117 [.iload 4, .ineg, .goto (119)] ls st g M Q := q_T_next rfl
theorem b_X4_likes_117 : q_T md d qP_X4_likes 117 [] ls st g M Q = q_T md d qP_X4_likes 119 [.iload 4] ls st g M Q := q_T_next rfl
theorem b_X4_likes_119 : q_T md d qP_X4_likes 119 [] ls st g M Q = q_T md d qP_X4_likes 120 [.ret 0] ls st g M Q := q_T_next rfl
theorem s_X4_wants {w : Nat} {x0 : Int} {x1 : Int} : q_S md d 55 [qR 4 w, qI x0, qI x1] g M Q = q_T md d qP_X4_wants 0 [] [qR 4 w, qI x0, qI x1, qS 0, qS 0] [] g M Q := rfl
theorem b_X4_wants_0 : q_T md d qP_X4_wants 0 [] ls st g M Q = q_T md d qP_X4_wants 18 [.aload 0, .iconst (1), .iload 1, .iload 2, .invokestatic 53, .istore 3, .aload 0, .getfield 404, .iload 1, .iaload, .iconst (3), .if_icmp .ne (21)] ls st g M Q := q_T_next rfl
theorem b_X4_wants_18 : q_T md d qP_X4_wants 18 [] ls st g M Q = q_T md d qP_X4_wants 21 [.iload 3, .ineg, .ret 0] ls st g M Q := q_T_next rfl
theorem b_X4_wants_21 : q_T md d qP_X4_wants 21 [] ls st g M Q = q_T md d qP_X4_wants 31 [.aload 0, .getfield 404, .iload 1, .iaload, .iconst (2), .if_icmp .eq (50)] ls st g M Q := q_T_next rfl
theorem b_X4_wants_31 : q_T md d qP_X4_wants 31 [] ls st g M Q = q_T md d qP_X4_wants 41 [.aload 0, .getfield 404, .iload 1, .iaload, .iconst (4), .if_icmp .ne (54)] ls st g M Q := q_T_next rfl
theorem b_X4_wants_41 : q_T md d qP_X4_wants 41 [] ls st g M Q = q_T md d qP_X4_wants 50 [.aload 0, .getfield 409, .iconst (2), .irem, .ifCond .ne (54)] ls st g M Q := q_T_next rfl
theorem b_X4_wants_50 : q_T md d qP_X4_wants 50 [] ls st g M Q = q_T md d qP_X4_wants 54 [.iconst (1), .goto (55)] ls st g M Q := q_T_next rfl
theorem b_X4_wants_54 : q_T md d qP_X4_wants 54 [] ls st g M Q = q_T md d qP_X4_wants 55 [.iconst (0)] ls st g M Q := q_T_next rfl
theorem b_X4_wants_55 : q_T md d qP_X4_wants 55 [] ls st g M Q = q_T md d qP_X4_wants 62 [.istore 4, .iload 4, .ifCond .eq (76)] ls st g M Q := q_T_next rfl
theorem b_X4_wants_62 : q_T md d qP_X4_wants 62 [] ls st g M Q = q_T md d qP_X4_wants 76 [.iload 3, .iconst (10), .aload 0, .getfield 405, .iload 1, .iaload, .imul, .iadd, .goto (77)] ls st g M Q := q_T_next rfl
theorem b_X4_wants_76 : q_T md d qP_X4_wants 76 [] ls st g M Q = q_T md d qP_X4_wants 77 [.iload 3] ls st g M Q := q_T_next rfl
theorem b_X4_wants_77 : q_T md d qP_X4_wants 77 [] ls st g M Q = q_T md d qP_X4_wants 78 [.ret 0] ls st g M Q := q_T_next rfl
theorem s_X4_goes {w : Nat} {x0 : Int} : q_S md d 56 [qR 4 w, qI x0] g M Q = q_T md d qP_X4_goes 0 [] [qR 4 w, qI x0, qS 0, qS 0] [] g M Q := rfl
theorem b_X4_goes_0 : q_T md d qP_X4_goes 0 [] ls st g M Q = q_T md d qP_X4_goes 10 [.aload 0, .getfield 404, .iload 1, .iaload, .iconst (5), .if_icmp .ne (12)] ls st g M Q := q_T_next rfl
theorem b_X4_goes_10 : q_T md d qP_X4_goes 10 [] ls st g M Q = q_T md d qP_X4_goes 12 [.iconst (1), .ret 0] ls st g M Q := q_T_next rfl
theorem b_X4_goes_12 : q_T md d qP_X4_goes 12 [] ls st g M Q = q_T md d qP_X4_goes 22 [.aload 0, .getfield 404, .iload 1, .iaload, .iconst (1), .if_icmp .eq (32)] ls st g M Q := q_T_next rfl
theorem b_X4_goes_22 : q_T md d qP_X4_goes 22 [] ls st g M Q = q_T md d qP_X4_goes 32 [.aload 0, .getfield 404, .iload 1, .iaload, .iconst (3), .if_icmp .ne (36)] ls st g M Q := q_T_next rfl
theorem b_X4_goes_32 : q_T md d qP_X4_goes 32 [] ls st g M Q = q_T md d qP_X4_goes 36 [.iconst (1), .goto (37)] ls st g M Q := q_T_next rfl
theorem b_X4_goes_36 : q_T md d qP_X4_goes 36 [] ls st g M Q = q_T md d qP_X4_goes 37 [.iconst (0)] ls st g M Q := q_T_next rfl
theorem b_X4_goes_37 : q_T md d qP_X4_goes 37 [] ls st g M Q = q_T md d qP_X4_goes 42 [.istore 2, .iload 2, .ifCond .eq (55)] ls st g M Q := q_T_next rfl
theorem b_X4_goes_42 : q_T md d qP_X4_goes 42 [] ls st g M Q = q_T md d qP_X4_goes 51 [.aload 0, .getfield 409, .iconst (10), .if_icmp .ge (55)] ls st g M Q := q_T_next rfl
theorem b_X4_goes_51 : q_T md d qP_X4_goes 51 [] ls st g M Q = q_T md d qP_X4_goes 55 [.iconst (0), .goto (62)] ls st g M Q := q_T_next rfl
theorem b_X4_goes_55 : q_T md d qP_X4_goes 55 [] ls st g M Q = q_T md d qP_X4_goes 62 [.aload 0, .iconst (2), .iload 1, .iconst (5), .invokestatic 53] ls st g M Q := q_T_next rfl
theorem b_X4_goes_62 : q_T md d qP_X4_goes 62 [] ls st g M Q = q_T md d qP_X4_goes 73 [.istore 3, .aload 0, .getfield 404, .iload 1, .iaload, .iconst (3), .if_icmp .ne (82)] ls st g M Q := q_T_next rfl
theorem b_X4_goes_73 : q_T md d qP_X4_goes 73 [] ls st g M Q = q_T md d qP_X4_goes 82 [.iload 3, .aload 0, .getfield 405, .iload 1, .iaload, .iadd, .ret 0] ls st g M Q := q_T_next rfl
theorem b_X4_goes_82 : q_T md d qP_X4_goes 82 [] ls st g M Q = q_T md d qP_X4_goes 92 [.aload 0, .getfield 404, .iload 1, .iaload, .iconst (2), .if_icmp .eq (102)] ls st g M Q := q_T_next rfl
theorem b_X4_goes_92 : q_T md d qP_X4_goes 92 [] ls st g M Q = q_T md d qP_X4_goes 102 [.aload 0, .getfield 404, .iload 1, .iaload, .iconst (4), .if_icmp .ne (108)] ls st g M Q := q_T_next rfl
theorem b_X4_goes_102 : q_T md d qP_X4_goes 102 [] ls st g M Q = q_T md d qP_X4_goes 108 [.iload 3, .iconst (2), .idiv, .goto (109)] ls st g M Q := q_T_next rfl
theorem b_X4_goes_108 : q_T md d qP_X4_goes 108 [] ls st g M Q = q_T md d qP_X4_goes 109 [.iload 3] ls st g M Q := q_T_next rfl
theorem b_X4_goes_109 : q_T md d qP_X4_goes 109 [] ls st g M Q = q_T md d qP_X4_goes 110 [.ret 0] ls st g M Q := q_T_next rfl
theorem s_X4_tellAll {w : Nat} : q_S md d 57 [qR 4 w] g M Q = q_T md d qP_X4_tellAll 0 [] [qR 4 w, qS 0, qS 0] [] g M Q := rfl
theorem b_X4_tellAll_0 : q_T md d qP_X4_tellAll 0 [] ls st g M Q = q_T md d qP_X4_tellAll 2 [.iconst (0), .istore 1] ls st g M Q := q_T_next rfl
theorem b_X4_tellAll_2 : q_T md d qP_X4_tellAll 2 [] ls st g M Q = q_T md d qP_X4_tellAll 13 [.iload 1, .aload 0, .getfield 400, .getfield 5, .if_icmp .ge (66)] ls st g M Q := q_T_next rfl
theorem b_X4_tellAll_13 : q_T md d qP_X4_tellAll 13 [] ls st g M Q = q_T md d qP_X4_tellAll 15 [.iconst (0), .istore 2] ls st g M Q := q_T_next rfl
theorem b_X4_tellAll_15 : q_T md d qP_X4_tellAll 15 [] ls st g M Q = q_T md d qP_X4_tellAll 20 [.iload 2, .iconst (5), .if_icmp .ge (60)] ls st g M Q := q_T_next rfl
theorem b_X4_tellAll_20 : q_T md d qP_X4_tellAll 20 [] ls st g M Q = q_T md d qP_X4_tellAll 60 [.aload 0, .getfield 400, .getfield 2, .iload 1, .aaload, .iload 2, .aload 0, .iload 1, .iload 2, .invokestatic 54, .iastore, .aload 0, .getfield 400, .getfield 3, .iload 1, .aaload, .iload 2, .aload 0, .iload 1, .iload 2, .invokestatic 55, .iastore, .iinc 2 (1), .goto (15)] ls st g M Q := q_T_next rfl
theorem b_X4_tellAll_60 : q_T md d qP_X4_tellAll 60 [] ls st g M Q = q_T md d qP_X4_tellAll 66 [.iinc 1 (1), .goto (2)] ls st g M Q := q_T_next rfl
theorem b_X4_tellAll_66 : q_T md d qP_X4_tellAll 66 [] ls st g M Q = q_T md d qP_X4_tellAll 67 [.return_] ls st g M Q := q_T_next rfl
theorem s_X4_wish {w : Nat} {x0 : Int} : q_S md d 58 [qR 4 w, qI x0] g M Q = q_T md d qP_X4_wish 0 [] [qR 4 w, qI x0, qS 0] [] g M Q := rfl
theorem b_X4_wish_0 : q_T md d qP_X4_wish 0 [] ls st g M Q = q_T md d qP_X4_wish 2 [.iconst (0), .istore 2] ls st g M Q := q_T_next rfl
theorem b_X4_wish_2 : q_T md d qP_X4_wish 2 [] ls st g M Q = q_T md d qP_X4_wish 7 [.iload 2, .iconst (5), .if_icmp .ge (30)] ls st g M Q := q_T_next rfl
theorem b_X4_wish_7 : q_T md d qP_X4_wish 7 [] ls st g M Q = q_T md d qP_X4_wish 30 [.aload 0, .getfield 400, .getfield 2, .iload 1, .aaload, .iload 2, .aload 0, .iload 1, .iload 2, .invokestatic 54, .iastore, .iinc 2 (1), .goto (2)] ls st g M Q := q_T_next rfl
theorem b_X4_wish_30 : q_T md d qP_X4_wish 30 [] ls st g M Q = q_T md d qP_X4_wish 40 [.aload 0, .getfield 400, .iload 1, .iconst (0), .invokestatic 10, .ret 0] ls st g M Q := q_T_next rfl
theorem s_X4_passYear {w : Nat} : q_S md d 59 [qR 4 w] g M Q = q_T md d qP_X4_passYear 0 [] [qR 4 w, qS 0, qS 0, qS 0] [] g M Q := rfl
theorem b_X4_passYear_0 : q_T md d qP_X4_passYear 0 [] ls st g M Q = q_T md d qP_X4_passYear 4 [.iconst (0), .istore 1, .iconst (0), .istore 2] ls st g M Q := q_T_next rfl
theorem b_X4_passYear_4 : q_T md d qP_X4_passYear 4 [] ls st g M Q = q_T md d qP_X4_passYear 15 [.iload 2, .aload 0, .getfield 400, .getfield 5, .if_icmp .ge (64)] ls st g M Q := q_T_next rfl
theorem b_X4_passYear_15 : q_T md d qP_X4_passYear 15 [] ls st g M Q = q_T md d qP_X4_passYear 28 [.aload 0, .getfield 400, .getfield 1, .iload 2, .iaload, .iconst (5), .if_icmp .ne (36)] ls st g M Q := q_T_next rfl
theorem b_X4_passYear_28 : q_T md d qP_X4_passYear 28 [] ls st g M Q = q_T md d qP_X4_passYear 36 [.aload 0, .iload 2, .invokestatic 58, .goto (37)] ls st g M Q := q_T_next rfl
theorem b_X4_passYear_36 : q_T md d qP_X4_passYear 36 [] ls st g M Q = q_T md d qP_X4_passYear 37 [.iconst (5)] ls st g M Q := q_T_next rfl
theorem b_X4_passYear_37 : q_T md d qP_X4_passYear 37 [] ls st g M Q = q_T md d qP_X4_passYear 43 [.istore 3, .iload 3, .iconst (5), .if_icmp .eq (58)] ls st g M Q := q_T_next rfl
theorem b_X4_passYear_43 : q_T md d qP_X4_passYear 43 [] ls st g M Q = q_T md d qP_X4_passYear 52 [.aload 0, .iload 2, .iload 3, .invokestatic 60, .ifCond .eq (58)] ls st g M Q := q_T_next rfl
theorem b_X4_passYear_52 : q_T md d qP_X4_passYear 52 [] ls st g M Q = q_T md d qP_X4_passYear 58 [.iload 1, .iconst (1), .iload 2, .ishl, .ior, .istore 1] ls st g M Q := q_T_next rfl
theorem b_X4_passYear_58 : q_T md d qP_X4_passYear 58 [] ls st g M Q = q_T md d qP_X4_passYear 64 [.iinc 2 (1), .goto (4)] ls st g M Q := q_T_next rfl
theorem b_X4_passYear_64 : q_T md d qP_X4_passYear 64 [] ls st g M Q = q_T md d qP_X4_passYear 76 [.aload 0, .dup, .getfield 409, .iconst (1), .iadd, .putfield 409, .iload 1, .ret 0] ls st g M Q := q_T_next rfl
theorem s_X4_goTo {w : Nat} {x0 : Int} {x1 : Int} : q_S md d 60 [qR 4 w, qI x0, qI x1] g M Q = q_T md d qP_X4_goTo 0 [] [qR 4 w, qI x0, qI x1, qS 0, qS 0, qS 0] [] g M Q := rfl
theorem b_X4_goTo_0 : q_T md d qP_X4_goTo 0 [] ls st g M Q = q_T md d qP_X4_goTo 56 [.aload 0, .iload 1, .invokestatic 56, .istore 3, .aload 0, .getfield 401, .iload 2, .iaload, .aload 0, .getfield 406, .iload 1, .iaload, .isub, .istore 4, .aload 0, .getfield 406, .iload 1, .dup2, .iaload, .iload 3, .ineg, .iload 3, .iload 4, .invokestatic 208, .invokestatic 207, .iadd, .iastore, .aload 0, .getfield 406, .iload 1, .iaload, .aload 0, .getfield 401, .iload 2, .iaload, .if_icmp .eq (58)] ls st g M Q := q_T_next rfl
theorem b_X4_goTo_56 : q_T md d qP_X4_goTo 56 [] ls st g M Q = q_T md d qP_X4_goTo 58 [.iconst (0), .ret 1] ls st g M Q := q_T_next rfl
theorem b_X4_goTo_58 : q_T md d qP_X4_goTo 58 [] ls st g M Q = q_T md d qP_X4_goTo 61 [.iconst (0), .istore 5] ls st g M Q := q_T_next rfl
theorem b_X4_goTo_61 : q_T md d qP_X4_goTo 61 [] ls st g M Q = q_T md d qP_X4_goTo 73 [.iload 5, .aload 0, .getfield 400, .getfield 5, .if_icmp .ge (118)] ls st g M Q := q_T_next rfl
theorem b_X4_goTo_73 : q_T md d qP_X4_goTo 73 [] ls st g M Q = q_T md d qP_X4_goTo 79 [.iload 5, .iload 1, .if_icmp .eq (93)] ls st g M Q := q_T_next rfl
theorem b_X4_goTo_79 : q_T md d qP_X4_goTo 79 [] ls st g M Q = q_T md d qP_X4_goTo 93 [.aload 0, .getfield 400, .getfield 1, .iload 5, .iaload, .iload 2, .if_icmp .ne (112)] ls st g M Q := q_T_next rfl
theorem b_X4_goTo_93 : q_T md d qP_X4_goTo 93 [] ls st g M Q = q_T md d qP_X4_goTo 112 [.aload 0, .getfield 400, .getfield 3, .iload 5, .aaload, .iload 2, .aload 0, .iload 5, .iload 2, .invokestatic 55, .iastore] ls st g M Q := q_T_next rfl
theorem b_X4_goTo_112 : q_T md d qP_X4_goTo 112 [] ls st g M Q = q_T md d qP_X4_goTo 118 [.iinc 5 (1), .goto (61)] ls st g M Q := q_T_next rfl
theorem b_X4_goTo_118 : q_T md d qP_X4_goTo 118 [] ls st g M Q = q_T md d qP_X4_goTo 130 [.aload 0, .getfield 400, .iload 1, .iload 2, .invokestatic 13, .ifCond .ne (132)] ls st g M Q := q_T_next rfl
theorem b_X4_goTo_130 : q_T md d qP_X4_goTo 130 [] ls st g M Q = q_T md d qP_X4_goTo 132 [.iconst (0), .ret 1] ls st g M Q := q_T_next rfl
theorem b_X4_goTo_132 : q_T md d qP_X4_goTo 132 [] ls st g M Q = q_T md d qP_X4_goTo 149 [.aload 0, .getfield 400, .iload 1, .iload 2, .invokestatic 14, .istore 5, .iload 5, .iconst (5), .if_icmp .eq (162)] ls st g M Q := q_T_next rfl
theorem b_X4_goTo_149 : q_T md d qP_X4_goTo 149 [] ls st g M Q = q_T md d qP_X4_goTo 162 [.aload 0, .getfield 406, .iload 5, .aload 0, .getfield 401, .iload 2, .iaload, .iastore] ls st g M Q := q_T_next rfl
theorem b_X4_goTo_162 : q_T md d qP_X4_goTo 162 [] ls st g M Q = q_T md d qP_X4_goTo 183 [.aload 0, .getfield 403, .iload 2, .iconst (99), .aload 0, .getfield 403, .iload 2, .iaload, .iconst (1), .iadd, .invokestatic 208, .iastore, .iconst (1), .ret 1] ls st g M Q := q_T_next rfl
theorem s_X5_count {w : Nat} {x0 : Int} : q_S md d 62 [qR 5 w, qI x0] g M Q = q_T md d qP_X5_count 0 [] [qR 5 w, qI x0] [] g M Q := rfl
theorem b_X5_count_0 : q_T md d qP_X5_count 0 [] ls st g M Q = q_T md d qP_X5_count 40 [.iload 1, .tableswitch (94) (0) (5) #[40, 51, 59, 70, 75, 86]] ls st g M Q := q_T_next rfl
theorem b_X5_count_40 : q_T md d qP_X5_count 40 [] ls st g M Q = q_T md d qP_X5_count 51 [.aload 0, .getfield 503, .getfield 400, .getfield 5, .ret 0] ls st g M Q := q_T_next rfl
theorem b_X5_count_51 : q_T md d qP_X5_count 51 [] ls st g M Q = q_T md d qP_X5_count 59 [.aload 0, .getfield 503, .getfield 409, .ret 0] ls st g M Q := q_T_next rfl
theorem b_X5_count_59 : q_T md d qP_X5_count 59 [] ls st g M Q = q_T md d qP_X5_count 70 [.aload 0, .getfield 503, .getfield 400, .invokestatic 3, .ret 0] ls st g M Q := q_T_next rfl
theorem b_X5_count_70 : q_T md d qP_X5_count 70 [] ls st g M Q = q_T md d qP_X5_count 75 [.aload 0, .getfield 502, .ret 0] ls st g M Q := q_T_next rfl
theorem b_X5_count_75 : q_T md d qP_X5_count 75 [] ls st g M Q = q_T md d qP_X5_count 86 [.aload 0, .getfield 503, .getfield 410, .getfield 300, .ret 0] ls st g M Q := q_T_next rfl
theorem b_X5_count_86 : q_T md d qP_X5_count 86 [] ls st g M Q = q_T md d qP_X5_count 94 [.aload 0, .getfield 500, .getfield 101, .ret 0] ls st g M Q := q_T_next rfl
theorem b_X5_count_94 : q_T md d qP_X5_count 94 [] ls st g M Q = q_T md d qP_X5_count 97 [.iconst (-2), .ret 0] ls st g M Q := q_T_next rfl
theorem s_X5_dawn {w : Nat} {x0 : Int} : q_S md d 63 [qR 5 w, qI x0] g M Q = q_T md d qP_X5_dawn 0 [] [qR 5 w, qI x0, qS 0] [] g M Q := rfl
theorem b_X5_dawn_0 : q_T md d qP_X5_dawn 0 [] ls st g M Q = q_T md d qP_X5_dawn 4 [.iload 1, .ifCond .lt (11)] ls st g M Q := q_T_next rfl
theorem b_X5_dawn_4 : q_T md d qP_X5_dawn 4 [] ls st g M Q = q_T md d qP_X5_dawn 11 [.iload 1, .iconst (999), .if_icmp .le (14)] ls st g M Q := q_T_next rfl
theorem b_X5_dawn_11 : q_T md d qP_X5_dawn 11 [] ls st g M Q = q_T md d qP_X5_dawn 14 [.iconst (-2), .ret 0] ls st g M Q := q_T_next rfl
theorem b_X5_dawn_14 : q_T md d qP_X5_dawn 14 [] ls st g M Q = q_T md d qP_X5_dawn 32 [.aload 0, .getfield 503, .getfield 409, .istore 2, .aload 0, .getfield 503, .iload 1, .putfield 409, .iload 2, .ret 0] ls st g M Q := q_T_next rfl
theorem s_X5_build {w : Nat} {x0 : Int} {x1 : Int} {x2 : Int} : q_S md d 64 [qR 5 w, qI x0, qI x1, qI x2] g M Q = q_T md d qP_X5_build 0 [] [qR 5 w, qI x0, qI x1, qI x2, qS 0] [] g M Q := rfl
theorem b_X5_build_0 : q_T md d qP_X5_build 0 [] ls st g M Q = q_T md d qP_X5_build 7 [.iload 1, .invokestatic 99, .ifCond .ne (10)] ls st g M Q := q_T_next rfl
theorem b_X5_build_7 : q_T md d qP_X5_build 7 [] ls st g M Q = q_T md d qP_X5_build 10 [.iconst (-5), .ret 0] ls st g M Q := q_T_next rfl
theorem b_X5_build_10 : q_T md d qP_X5_build 10 [] ls st g M Q = q_T md d qP_X5_build 14 [.iload 2, .ifCond .lt (29)] ls st g M Q := q_T_next rfl
theorem b_X5_build_14 : q_T md d qP_X5_build 14 [] ls st g M Q = q_T md d qP_X5_build 19 [.iload 2, .iconst (3), .if_icmp .gt (29)] ls st g M Q := q_T_next rfl
theorem b_X5_build_19 : q_T md d qP_X5_build 19 [] ls st g M Q = q_T md d qP_X5_build 23 [.iload 3, .ifCond .lt (29)] ls st g M Q := q_T_next rfl
theorem b_X5_build_23 : q_T md d qP_X5_build 23 [] ls st g M Q = q_T md d qP_X5_build 29 [.iload 3, .iconst (99), .if_icmp .le (32)] ls st g M Q := q_T_next rfl
theorem b_X5_build_29 : q_T md d qP_X5_build 29 [] ls st g M Q = q_T md d qP_X5_build 32 [.iconst (-7), .ret 0] ls st g M Q := q_T_next rfl
theorem b_X5_build_32 : q_T md d qP_X5_build 32 [] ls st g M Q = q_T md d qP_X5_build 37 [.iload 2, .iconst (1), .if_icmp .ne (60)] ls st g M Q := q_T_next rfl
theorem b_X5_build_37 : q_T md d qP_X5_build 37 [] ls st g M Q = q_T md d qP_X5_build 42 [.iload 3, .iconst (5), .if_icmp .gt (57)] ls st g M Q := q_T_next rfl
theorem b_X5_build_42 : q_T md d qP_X5_build 42 [] ls st g M Q = q_T md d qP_X5_build 57 [.iload 3, .aload 0, .getfield 503, .getfield 400, .iload 1, .invokestatic 4, .if_icmp .ge (60)] ls st g M Q := q_T_next rfl
theorem b_X5_build_57 : q_T md d qP_X5_build 57 [] ls st g M Q = q_T md d qP_X5_build 60 [.iconst (-7), .ret 0] ls st g M Q := q_T_next rfl
theorem b_X5_build_60 : q_T md d qP_X5_build 60 [] ls st g M Q = q_T md d qP_X5_build 96 [.aload 0, .iload 1, .iload 2, .invokestatic 65, .istore 4, .iload 2, .tableswitch (137) (0) (2) #[96, 108, 124]] ls st g M Q := q_T_next rfl
theorem b_X5_build_96 : q_T md d qP_X5_build 96 [] ls st g M Q = q_T md d qP_X5_build 108 [.aload 0, .getfield 503, .iload 1, .iload 3, .invokestatic 52, .goto (147)] ls st g M Q := q_T_next rfl
theorem b_X5_build_108 : q_T md d qP_X5_build 108 [] ls st g M Q = q_T md d qP_X5_build 124 [.aload 0, .getfield 503, .getfield 400, .getfield 0, .iload 1, .iload 3, .iastore, .goto (147)] ls st g M Q := q_T_next rfl
theorem b_X5_build_124 : q_T md d qP_X5_build 124 [] ls st g M Q = q_T md d qP_X5_build 137 [.aload 0, .getfield 503, .getfield 402, .iload 1, .iload 3, .iastore, .goto (147)] ls st g M Q := q_T_next rfl
theorem b_X5_build_137 : q_T md d qP_X5_build 137 [] ls st g M Q = q_T md d qP_X5_build 147 [.aload 0, .getfield 503, .getfield 403, .iload 1, .iload 3, .iastore] ls st g M Q := q_T_next rfl
theorem b_X5_build_147 : q_T md d qP_X5_build 147 [] ls st g M Q = q_T md d qP_X5_build 150 [.iload 4, .ret 0] ls st g M Q := q_T_next rfl
theorem s_X5_site {w : Nat} {x0 : Int} {x1 : Int} : q_S md d 65 [qR 5 w, qI x0, qI x1] g M Q = q_T md d qP_X5_site 0 [] [qR 5 w, qI x0, qI x1] [] g M Q := rfl
theorem b_X5_site_0 : q_T md d qP_X5_site 0 [] ls st g M Q = q_T md d qP_X5_site 7 [.iload 1, .invokestatic 99, .ifCond .ne (10)] ls st g M Q := q_T_next rfl
theorem b_X5_site_7 : q_T md d qP_X5_site 7 [] ls st g M Q = q_T md d qP_X5_site 10 [.iconst (-5), .ret 0] ls st g M Q := q_T_next rfl
theorem b_X5_site_10 : q_T md d qP_X5_site 10 [] ls st g M Q = q_T md d qP_X5_site 44 [.iload 2, .tableswitch (99) (0) (4) #[44, 54, 67, 77, 87]] ls st g M Q := q_T_next rfl
theorem b_X5_site_44 : q_T md d qP_X5_site 44 [] ls st g M Q = q_T md d qP_X5_site 54 [.aload 0, .getfield 503, .getfield 401, .iload 1, .iaload, .ret 0] ls st g M Q := q_T_next rfl
theorem b_X5_site_54 : q_T md d qP_X5_site 54 [] ls st g M Q = q_T md d qP_X5_site 67 [.aload 0, .getfield 503, .getfield 400, .getfield 0, .iload 1, .iaload, .ret 0] ls st g M Q := q_T_next rfl
theorem b_X5_site_67 : q_T md d qP_X5_site 67 [] ls st g M Q = q_T md d qP_X5_site 77 [.aload 0, .getfield 503, .getfield 402, .iload 1, .iaload, .ret 0] ls st g M Q := q_T_next rfl
theorem b_X5_site_77 : q_T md d qP_X5_site 77 [] ls st g M Q = q_T md d qP_X5_site 87 [.aload 0, .getfield 503, .getfield 403, .iload 1, .iaload, .ret 0] ls st g M Q := q_T_next rfl
theorem b_X5_site_87 : q_T md d qP_X5_site 87 [] ls st g M Q = q_T md d qP_X5_site 99 [.aload 0, .getfield 503, .getfield 400, .iload 1, .invokestatic 5, .ret 0] ls st g M Q := q_T_next rfl
theorem b_X5_site_99 : q_T md d qP_X5_site 99 [] ls st g M Q = q_T md d qP_X5_site 102 [.iconst (-7), .ret 0] ls st g M Q := q_T_next rfl
theorem s_X5_feed {w : Nat} {x0 : Int} {x1 : Int} {x2 : Int} {x3 : Int} {x4 : Int} {x5 : Int} : q_S md d 66 [qR 5 w, qI x0, qI x1, qI x2, qI x3, qI x4, qI x5] g M Q = q_T md d qP_X5_feed 0 [] [qR 5 w, qI x0, qI x1, qI x2, qI x3, qI x4, qI x5] [] g M Q := rfl
theorem b_X5_feed_0 : q_T md d qP_X5_feed 0 [] ls st g M Q = q_T md d qP_X5_feed 5 [.iload 1, .iconst (1), .if_icmp .lt (48)] ls st g M Q := q_T_next rfl
theorem b_X5_feed_5 : q_T md d qP_X5_feed 5 [] ls st g M Q = q_T md d qP_X5_feed 10 [.iload 1, .iconst (5), .if_icmp .gt (48)] ls st g M Q := q_T_next rfl
theorem b_X5_feed_10 : q_T md d qP_X5_feed 10 [] ls st g M Q = q_T md d qP_X5_feed 17 [.iload 2, .invokestatic 102, .ifCond .eq (48)] ls st g M Q := q_T_next rfl
theorem b_X5_feed_17 : q_T md d qP_X5_feed 17 [] ls st g M Q = q_T md d qP_X5_feed 24 [.iload 3, .invokestatic 102, .ifCond .eq (48)] ls st g M Q := q_T_next rfl
theorem b_X5_feed_24 : q_T md d qP_X5_feed 24 [] ls st g M Q = q_T md d qP_X5_feed 32 [.iload 4, .invokestatic 102, .ifCond .eq (48)] ls st g M Q := q_T_next rfl
theorem b_X5_feed_32 : q_T md d qP_X5_feed 32 [] ls st g M Q = q_T md d qP_X5_feed 40 [.iload 5, .invokestatic 102, .ifCond .eq (48)] ls st g M Q := q_T_next rfl
theorem b_X5_feed_40 : q_T md d qP_X5_feed 40 [] ls st g M Q = q_T md d qP_X5_feed 48 [.iload 6, .invokestatic 102, .ifCond .ne (51)] ls st g M Q := q_T_next rfl
theorem b_X5_feed_48 : q_T md d qP_X5_feed 48 [] ls st g M Q = q_T md d qP_X5_feed 51 [.iconst (-2), .ret 0] ls st g M Q := q_T_next rfl
theorem b_X5_feed_51 : q_T md d qP_X5_feed 51 [] ls st g M Q = q_T md d qP_X5_feed 66 [.iload 1, .iconst (160), .aload 0, .getfield 500, .getfield 101, .isub, .if_icmp .le (69)] ls st g M Q := q_T_next rfl
theorem b_X5_feed_66 : q_T md d qP_X5_feed 66 [] ls st g M Q = q_T md d qP_X5_feed 69 [.iconst (-4), .ret 0] ls st g M Q := q_T_next rfl
theorem b_X5_feed_69 : q_T md d qP_X5_feed 69 [] ls st g M Q = q_T md d qP_X5_feed 82 [.aload 0, .getfield 500, .iload 2, .invokestatic 22, .iload 1, .iconst (1), .if_icmp .le (90)] ls st g M Q := q_T_next rfl
theorem b_X5_feed_82 : q_T md d qP_X5_feed 82 [] ls st g M Q = q_T md d qP_X5_feed 90 [.aload 0, .getfield 500, .iload 3, .invokestatic 22] ls st g M Q := q_T_next rfl
theorem b_X5_feed_90 : q_T md d qP_X5_feed 90 [] ls st g M Q = q_T md d qP_X5_feed 95 [.iload 1, .iconst (2), .if_icmp .le (104)] ls st g M Q := q_T_next rfl
theorem b_X5_feed_95 : q_T md d qP_X5_feed 95 [] ls st g M Q = q_T md d qP_X5_feed 104 [.aload 0, .getfield 500, .iload 4, .invokestatic 22] ls st g M Q := q_T_next rfl
theorem b_X5_feed_104 : q_T md d qP_X5_feed 104 [] ls st g M Q = q_T md d qP_X5_feed 109 [.iload 1, .iconst (3), .if_icmp .le (118)] ls st g M Q := q_T_next rfl
theorem b_X5_feed_109 : q_T md d qP_X5_feed 109 [] ls st g M Q = q_T md d qP_X5_feed 118 [.aload 0, .getfield 500, .iload 5, .invokestatic 22] ls st g M Q := q_T_next rfl
theorem b_X5_feed_118 : q_T md d qP_X5_feed 118 [] ls st g M Q = q_T md d qP_X5_feed 123 [.iload 1, .iconst (4), .if_icmp .le (132)] ls st g M Q := q_T_next rfl
theorem b_X5_feed_123 : q_T md d qP_X5_feed 123 [] ls st g M Q = q_T md d qP_X5_feed 132 [.aload 0, .getfield 500, .iload 6, .invokestatic 22] ls st g M Q := q_T_next rfl
theorem b_X5_feed_132 : q_T md d qP_X5_feed 132 [] ls st g M Q = q_T md d qP_X5_feed 140 [.aload 0, .getfield 500, .getfield 101, .ret 0] ls st g M Q := q_T_next rfl
theorem s_X5_text {w : Nat} : q_S md d 67 [qR 5 w] g M Q = q_T md d qP_X5_text 0 [] [qR 5 w, qS 0, qS 0] [] g M Q := rfl
theorem b_X5_text_0 : q_T md d qP_X5_text 0 [] ls st g M Q = q_T md d qP_X5_text 9 [.aload 0, .getfield 502, .iconst (6), .if_icmp .lt (12)] ls st g M Q := q_T_next rfl
theorem b_X5_text_9 : q_T md d qP_X5_text 9 [] ls st g M Q = q_T md d qP_X5_text 12 [.iconst (-4), .ret 0] ls st g M Q := q_T_next rfl
theorem b_X5_text_12 : q_T md d qP_X5_text 12 [] ls st g M Q = q_T md d qP_X5_text 29 [.aload 0, .getfield 500, .invokestatic 23, .istore 1, .iconst (-100), .iload 1, .isub, .istore 2, .iload 1, .ifCond .ge (64)] ls st g M Q := q_T_next rfl
theorem b_X5_text_29 : q_T md d qP_X5_text 29 [] ls st g M Q = q_T md d qP_X5_text 64 [.aload 0, .getfield 502, .istore 2, .aload 0, .getfield 501, .aload 0, .getfield 502, .aload 0, .getfield 500, .aload 0, .getfield 502, .invokestatic 24, .aastore, .aload 0, .dup, .getfield 502, .iconst (1), .iadd, .putfield 502] ls st g M Q := q_T_next rfl
theorem b_X5_text_64 : q_T md d qP_X5_text 64 [] ls st g M Q = q_T md d qP_X5_text 73 [.aload 0, .getfield 500, .invokestatic 21, .iload 2, .ret 0] ls st g M Q := q_T_next rfl
theorem s_X5_force {w : Nat} {x0 : Int} : q_S md d 68 [qR 5 w, qI x0] g M Q = q_T md d qP_X5_force 0 [] [qR 5 w, qI x0, qS 0] [] g M Q := rfl
theorem b_X5_force_0 : q_T md d qP_X5_force 0 [] ls st g M Q = q_T md d qP_X5_force 4 [.iload 1, .ifCond .lt (12)] ls st g M Q := q_T_next rfl
theorem b_X5_force_4 : q_T md d qP_X5_force 4 [] ls st g M Q = q_T md d qP_X5_force 12 [.iload 1, .aload 0, .getfield 502, .if_icmp .lt (15)] ls st g M Q := q_T_next rfl
theorem b_X5_force_12 : q_T md d qP_X5_force 12 [] ls st g M Q = q_T md d qP_X5_force 15 [.iconst (-2), .ret 0] ls st g M Q := q_T_next rfl
theorem b_X5_force_15 : q_T md d qP_X5_force 15 [] ls st g M Q = q_T md d qP_X5_force 41 [.aload 0, .getfield 503, .getfield 410, .getfield 300, .istore 2, .aload 0, .getfield 503, .aload 0, .getfield 501, .iload 1, .aaload, .putfield 410, .iload 2, .ret 0] ls st g M Q := q_T_next rfl
theorem s_X5_asks {w : Nat} {x0 : Int} {x1 : Int} {x2 : Int} : q_S md d 69 [qR 5 w, qI x0, qI x1, qI x2] g M Q = q_T md d qP_X5_asks 0 [] [qR 5 w, qI x0, qI x1, qI x2] [] g M Q := rfl
theorem b_X5_asks_0 : q_T md d qP_X5_asks 0 [] ls st g M Q = q_T md d qP_X5_asks 4 [.iload 1, .ifCond .lt (29)] ls st g M Q := q_T_next rfl
theorem b_X5_asks_4 : q_T md d qP_X5_asks 4 [] ls st g M Q = q_T md d qP_X5_asks 9 [.iload 1, .iconst (3), .if_icmp .ge (29)] ls st g M Q := q_T_next rfl
theorem b_X5_asks_9 : q_T md d qP_X5_asks 9 [] ls st g M Q = q_T md d qP_X5_asks 17 [.aload 0, .iload 2, .invokestatic 98, .ifCond .eq (29)] ls st g M Q := q_T_next rfl
theorem b_X5_asks_17 : q_T md d qP_X5_asks 17 [] ls st g M Q = q_T md d qP_X5_asks 22 [.iload 3, .iconst (-1), .if_icmp .eq (33)] ls st g M Q := q_T_next rfl
theorem b_X5_asks_22 : q_T md d qP_X5_asks 22 [] ls st g M Q = q_T md d qP_X5_asks 29 [.iload 3, .invokestatic 99, .ifCond .ne (33)] ls st g M Q := q_T_next rfl
theorem b_X5_asks_29 : q_T md d qP_X5_asks 29 [] ls st g M Q = q_T md d qP_X5_asks 33 [.iconst (-1000), .ret 0] ls st g M Q := q_T_next rfl
theorem b_X5_asks_33 : q_T md d qP_X5_asks 33 [] ls st g M Q = q_T md d qP_X5_asks 44 [.aload 0, .getfield 503, .iload 1, .iload 2, .iload 3, .iconst (-1), .if_icmp .ne (48)] ls st g M Q := q_T_next rfl
theorem b_X5_asks_44 : q_T md d qP_X5_asks 44 [] ls st g M Q = q_T md d qP_X5_asks 48 [.iconst (5), .goto (49)] ls st g M Q := q_T_next rfl
theorem b_X5_asks_48 : q_T md d qP_X5_asks 48 [] ls st g M Q = q_T md d qP_X5_asks 49 [.iload 3] ls st g M Q := q_T_next rfl
theorem b_X5_asks_49 : q_T md d qP_X5_asks 49 [] ls st g M Q = q_T md d qP_X5_asks 53 [.invokestatic 53, .ret 0] ls st g M Q := q_T_next rfl
theorem s_X5_stone {w : Nat} {x0 : Int} {x1 : Int} {x2 : Int} : q_S md d 70 [qR 5 w, qI x0, qI x1, qI x2] g M Q = q_T md d qP_X5_stone 0 [] [qR 5 w, qI x0, qI x1, qI x2] [] g M Q := rfl
theorem b_X5_stone_0 : q_T md d qP_X5_stone 0 [] ls st g M Q = q_T md d qP_X5_stone 4 [.iload 1, .ifCond .lt (10)] ls st g M Q := q_T_next rfl
theorem b_X5_stone_4 : q_T md d qP_X5_stone 4 [] ls st g M Q = q_T md d qP_X5_stone 10 [.iload 1, .iconst (60), .if_icmp .lt (13)] ls st g M Q := q_T_next rfl
theorem b_X5_stone_10 : q_T md d qP_X5_stone 10 [] ls st g M Q = q_T md d qP_X5_stone 13 [.iconst (-2), .ret 0] ls st g M Q := q_T_next rfl
theorem b_X5_stone_13 : q_T md d qP_X5_stone 13 [] ls st g M Q = q_T md d qP_X5_stone 17 [.iload 2, .ifCond .lt (33)] ls st g M Q := q_T_next rfl
theorem b_X5_stone_17 : q_T md d qP_X5_stone 17 [] ls st g M Q = q_T md d qP_X5_stone 23 [.iload 2, .iconst (100), .if_icmp .ge (33)] ls st g M Q := q_T_next rfl
theorem b_X5_stone_23 : q_T md d qP_X5_stone 23 [] ls st g M Q = q_T md d qP_X5_stone 27 [.iload 3, .ifCond .lt (33)] ls st g M Q := q_T_next rfl
theorem b_X5_stone_27 : q_T md d qP_X5_stone 27 [] ls st g M Q = q_T md d qP_X5_stone 33 [.iload 3, .iconst (100), .if_icmp .lt (36)] ls st g M Q := q_T_next rfl
theorem b_X5_stone_33 : q_T md d qP_X5_stone 33 [] ls st g M Q = q_T md d qP_X5_stone 36 [.iconst (-2), .ret 0] ls st g M Q := q_T_next rfl
theorem b_X5_stone_36 : q_T md d qP_X5_stone 36 [] ls st g M Q = q_T md d qP_X5_stone 47 [.aload 0, .getfield 503, .iload 1, .iload 2, .iload 3, .invokestatic 50, .ret 0] ls st g M Q := q_T_next rfl
theorem s_X5_put {w : Nat} {x0 : Int} {x1 : Int} {x2 : Int} : q_S md d 71 [qR 5 w, qI x0, qI x1, qI x2] g M Q = q_T md d qP_X5_put 0 [] [qR 5 w, qI x0, qI x1, qI x2, qS 0] [] g M Q := rfl
theorem b_X5_put_0 : q_T md d qP_X5_put 0 [] ls st g M Q = q_T md d qP_X5_put 8 [.aload 0, .iload 1, .invokestatic 98, .ifCond .ne (11)] ls st g M Q := q_T_next rfl
theorem b_X5_put_8 : q_T md d qP_X5_put 8 [] ls st g M Q = q_T md d qP_X5_put 11 [.iconst (-5), .ret 0] ls st g M Q := q_T_next rfl
theorem b_X5_put_11 : q_T md d qP_X5_put 11 [] ls st g M Q = q_T md d qP_X5_put 15 [.iload 2, .ifCond .lt (30)] ls st g M Q := q_T_next rfl
theorem b_X5_put_15 : q_T md d qP_X5_put 15 [] ls st g M Q = q_T md d qP_X5_put 20 [.iload 2, .iconst (1), .if_icmp .gt (30)] ls st g M Q := q_T_next rfl
theorem b_X5_put_20 : q_T md d qP_X5_put 20 [] ls st g M Q = q_T md d qP_X5_put 24 [.iload 3, .ifCond .lt (30)] ls st g M Q := q_T_next rfl
theorem b_X5_put_24 : q_T md d qP_X5_put 24 [] ls st g M Q = q_T md d qP_X5_put 30 [.iload 3, .iconst (99), .if_icmp .le (33)] ls st g M Q := q_T_next rfl
theorem b_X5_put_30 : q_T md d qP_X5_put 30 [] ls st g M Q = q_T md d qP_X5_put 33 [.iconst (-7), .ret 0] ls st g M Q := q_T_next rfl
theorem b_X5_put_33 : q_T md d qP_X5_put 33 [] ls st g M Q = q_T md d qP_X5_put 37 [.iload 2, .ifCond .ne (60)] ls st g M Q := q_T_next rfl
theorem b_X5_put_37 : q_T md d qP_X5_put 37 [] ls st g M Q = q_T md d qP_X5_put 60 [.aload 0, .getfield 503, .getfield 406, .iload 1, .iaload, .istore 4, .aload 0, .getfield 503, .iload 1, .iload 3, .invokestatic 51, .iload 4, .ret 0] ls st g M Q := q_T_next rfl
theorem b_X5_put_60 : q_T md d qP_X5_put 60 [] ls st g M Q = q_T md d qP_X5_put 84 [.aload 0, .getfield 503, .getfield 407, .iload 1, .iaload, .istore 4, .aload 0, .getfield 503, .getfield 407, .iload 1, .iload 3, .iastore, .iload 4, .ret 0] ls st g M Q := q_T_next rfl
theorem s_X5_told {w : Nat} {x0 : Int} {x1 : Int} : q_S md d 72 [qR 5 w, qI x0, qI x1] g M Q = q_T md d qP_X5_told 0 [] [qR 5 w, qI x0, qI x1] [] g M Q := rfl
theorem b_X5_told_0 : q_T md d qP_X5_told 0 [] ls st g M Q = q_T md d qP_X5_told 8 [.aload 0, .iload 1, .invokestatic 98, .ifCond .ne (11)] ls st g M Q := q_T_next rfl
theorem b_X5_told_8 : q_T md d qP_X5_told 8 [] ls st g M Q = q_T md d qP_X5_told 11 [.iconst (-5), .ret 0] ls st g M Q := q_T_next rfl
theorem b_X5_told_11 : q_T md d qP_X5_told 11 [] ls st g M Q = q_T md d qP_X5_told 56 [.iload 2, .tableswitch (133) (0) (6) #[56, 66, 76, 92, 102, 112, 124]] ls st g M Q := q_T_next rfl
theorem b_X5_told_56 : q_T md d qP_X5_told 56 [] ls st g M Q = q_T md d qP_X5_told 66 [.aload 0, .getfield 503, .getfield 406, .iload 1, .iaload, .ret 0] ls st g M Q := q_T_next rfl
theorem b_X5_told_66 : q_T md d qP_X5_told 66 [] ls st g M Q = q_T md d qP_X5_told 76 [.aload 0, .getfield 503, .getfield 407, .iload 1, .iaload, .ret 0] ls st g M Q := q_T_next rfl
theorem b_X5_told_76 : q_T md d qP_X5_told 76 [] ls st g M Q = q_T md d qP_X5_told 92 [.aload 0, .getfield 503, .getfield 400, .getfield 1, .iload 1, .iaload, .invokestatic 100, .ret 0] ls st g M Q := q_T_next rfl
theorem b_X5_told_92 : q_T md d qP_X5_told 92 [] ls st g M Q = q_T md d qP_X5_told 102 [.aload 0, .getfield 503, .getfield 404, .iload 1, .iaload, .ret 0] ls st g M Q := q_T_next rfl
theorem b_X5_told_102 : q_T md d qP_X5_told 102 [] ls st g M Q = q_T md d qP_X5_told 112 [.aload 0, .getfield 503, .getfield 405, .iload 1, .iaload, .ret 0] ls st g M Q := q_T_next rfl
theorem b_X5_told_112 : q_T md d qP_X5_told 112 [] ls st g M Q = q_T md d qP_X5_told 124 [.aload 0, .getfield 503, .iload 1, .invokestatic 58, .invokestatic 100, .ret 0] ls st g M Q := q_T_next rfl
theorem b_X5_told_124 : q_T md d qP_X5_told 124 [] ls st g M Q = q_T md d qP_X5_told 133 [.aload 0, .getfield 503, .iload 1, .invokestatic 56, .ret 0] ls st g M Q := q_T_next rfl
theorem b_X5_told_133 : q_T md d qP_X5_told 133 [] ls st g M Q = q_T md d qP_X5_told 136 [.iconst (-7), .ret 0] ls st g M Q := q_T_next rfl
theorem s_X5_love {w : Nat} {x0 : Int} {x1 : Int} {x2 : Int} : q_S md d 73 [qR 5 w, qI x0, qI x1, qI x2] g M Q = q_T md d qP_X5_love 0 [] [qR 5 w, qI x0, qI x1, qI x2] [] g M Q := rfl
theorem b_X5_love_0 : q_T md d qP_X5_love 0 [] ls st g M Q = q_T md d qP_X5_love 8 [.aload 0, .iload 1, .invokestatic 98, .ifCond .eq (15)] ls st g M Q := q_T_next rfl
theorem b_X5_love_8 : q_T md d qP_X5_love 8 [] ls st g M Q = q_T md d qP_X5_love 15 [.iload 2, .invokestatic 99, .ifCond .ne (19)] ls st g M Q := q_T_next rfl
theorem b_X5_love_15 : q_T md d qP_X5_love 15 [] ls st g M Q = q_T md d qP_X5_love 19 [.iconst (-5000), .ret 0] ls st g M Q := q_T_next rfl
theorem b_X5_love_19 : q_T md d qP_X5_love 19 [] ls st g M Q = q_T md d qP_X5_love 48 [.iload 3, .lookupswitch (68) #[(0, 48), (1, 58)]] ls st g M Q := q_T_next rfl
theorem b_X5_love_48 : q_T md d qP_X5_love 48 [] ls st g M Q = q_T md d qP_X5_love 58 [.aload 0, .getfield 503, .iload 1, .iload 2, .invokestatic 54, .ret 0] ls st g M Q := q_T_next rfl
theorem b_X5_love_58 : q_T md d qP_X5_love 58 [] ls st g M Q = q_T md d qP_X5_love 68 [.aload 0, .getfield 503, .iload 1, .iload 2, .invokestatic 55, .ret 0] ls st g M Q := q_T_next rfl
theorem b_X5_love_68 : q_T md d qP_X5_love 68 [] ls st g M Q = q_T md d qP_X5_love 72 [.iconst (-7000), .ret 0] ls st g M Q := q_T_next rfl
theorem s_X5_year {w : Nat} : q_S md d 74 [qR 5 w] g M Q = q_T md d qP_X5_year 0 [] [qR 5 w] [] g M Q := rfl
theorem b_X5_year_0 : q_T md d qP_X5_year 0 [] ls st g M Q = q_T md d qP_X5_year 13 [.aload 0, .getfield 503, .getfield 409, .iconst (999), .if_icmp .lt (16)] ls st g M Q := q_T_next rfl
theorem b_X5_year_13 : q_T md d qP_X5_year 13 [] ls st g M Q = q_T md d qP_X5_year 16 [.iconst (-3), .ret 0] ls st g M Q := q_T_next rfl
theorem b_X5_year_16 : q_T md d qP_X5_year 16 [] ls st g M Q = q_T md d qP_X5_year 24 [.aload 0, .getfield 503, .invokestatic 59, .ret 0] ls st g M Q := q_T_next rfl
theorem s_X5_run {w : Nat} {x0 : Int} {x1 : Int} : q_S md d 75 [qR 5 w, qI x0, qI x1] g M Q = q_T md d qP_X5_run 0 [] [qR 5 w, qI x0, qI x1, qS 0, qS 0] [] g M Q := rfl
theorem b_X5_run_0 : q_T md d qP_X5_run 0 [] ls st g M Q = q_T md d qP_X5_run 4 [.iload 1, .ifCond .lt (10)] ls st g M Q := q_T_next rfl
theorem b_X5_run_4 : q_T md d qP_X5_run 4 [] ls st g M Q = q_T md d qP_X5_run 10 [.iload 1, .iconst (40), .if_icmp .le (13)] ls st g M Q := q_T_next rfl
theorem b_X5_run_10 : q_T md d qP_X5_run 10 [] ls st g M Q = q_T md d qP_X5_run 13 [.iconst (-2), .ret 0] ls st g M Q := q_T_next rfl
theorem b_X5_run_13 : q_T md d qP_X5_run 13 [] ls st g M Q = q_T md d qP_X5_run 17 [.iload 2, .ifCond .eq (22)] ls st g M Q := q_T_next rfl
theorem b_X5_run_17 : q_T md d qP_X5_run 17 [] ls st g M Q = q_T md d qP_X5_run 22 [.iload 2, .iconst (1), .if_icmp .ne (26)] ls st g M Q := q_T_next rfl
theorem b_X5_run_22 : q_T md d qP_X5_run 22 [] ls st g M Q = q_T md d qP_X5_run 26 [.iconst (1), .goto (27)] ls st g M Q := q_T_next rfl
theorem b_X5_run_26 : q_T md d qP_X5_run 26 [] ls st g M Q = q_T md d qP_X5_run 27 [.iconst (0)] ls st g M Q := q_T_next rfl
theorem b_X5_run_27 : q_T md d qP_X5_run 27 [] ls st g M Q = q_T md d qP_X5_run 32 [.istore 3, .iload 3, .ifCond .ne (46)] ls st g M Q := q_T_next rfl
theorem b_X5_run_32 : q_T md d qP_X5_run 32 [] ls st g M Q = q_T md d qP_X5_run 43 [.aload 0, .iload 2, .iconst (10), .isub, .invokestatic 98, .ifCond .ne (46)] ls st g M Q := q_T_next rfl
theorem b_X5_run_43 : q_T md d qP_X5_run 43 [] ls st g M Q = q_T md d qP_X5_run 46 [.iconst (-2), .ret 0] ls st g M Q := q_T_next rfl
theorem b_X5_run_46 : q_T md d qP_X5_run 46 [] ls st g M Q = q_T md d qP_X5_run 60 [.aload 0, .getfield 504, .aload 0, .getfield 503, .invokestatic 49, .iconst (0), .istore 4] ls st g M Q := q_T_next rfl
theorem b_X5_run_60 : q_T md d qP_X5_run 60 [] ls st g M Q = q_T md d qP_X5_run 66 [.iload 4, .iload 1, .if_icmp .ge (80)] ls st g M Q := q_T_next rfl
theorem b_X5_run_66 : q_T md d qP_X5_run 66 [] ls st g M Q = q_T md d qP_X5_run 80 [.aload 0, .getfield 504, .invokestatic 59, .pop, .iinc 4 (1), .goto (60)] ls st g M Q := q_T_next rfl
theorem b_X5_run_80 : q_T md d qP_X5_run 80 [] ls st g M Q = q_T md d qP_X5_run 84 [.iload 3, .ifCond .eq (112)] ls st g M Q := q_T_next rfl
theorem b_X5_run_84 : q_T md d qP_X5_run 84 [] ls st g M Q = q_T md d qP_X5_run 88 [.iload 2, .ifCond .ne (101)] ls st g M Q := q_T_next rfl
theorem b_X5_run_88 : q_T md d qP_X5_run 88 [] ls st g M Q = q_T md d qP_X5_run 101 [.aload 0, .getfield 504, .getfield 400, .invokestatic 6, .goto (111)] ls st g M Q := q_T_next rfl
theorem b_X5_run_101 : q_T md d qP_X5_run 101 [] ls st g M Q = q_T md d qP_X5_run 111 [.aload 0, .getfield 504, .getfield 400, .invokestatic 3] ls st g M Q := q_T_next rfl
theorem b_X5_run_111 : q_T md d qP_X5_run 111 [] ls st g M Q = q_T md d qP_X5_run 112 [.ret 0] ls st g M Q := q_T_next rfl
theorem b_X5_run_112 : q_T md d qP_X5_run 112 [] ls st g M Q = q_T md d qP_X5_run 125 [.aload 0, .getfield 504, .getfield 406, .iload 2, .iconst (10), .isub, .iaload, .ret 0] ls st g M Q := q_T_next rfl
theorem s_X5_when {w : Nat} {x0 : Int} {x1 : Int} : q_S md d 76 [qR 5 w, qI x0, qI x1] g M Q = q_T md d qP_X5_when 0 [] [qR 5 w, qI x0, qI x1] [] g M Q := rfl
theorem b_X5_when_0 : q_T md d qP_X5_when 0 [] ls st g M Q = q_T md d qP_X5_when 8 [.aload 0, .iload 1, .invokestatic 98, .ifCond .ne (11)] ls st g M Q := q_T_next rfl
theorem b_X5_when_8 : q_T md d qP_X5_when 8 [] ls st g M Q = q_T md d qP_X5_when 11 [.iconst (-5), .ret 0] ls st g M Q := q_T_next rfl
theorem b_X5_when_11 : q_T md d qP_X5_when 11 [] ls st g M Q = q_T md d qP_X5_when 16 [.iload 2, .iconst (-1), .if_icmp .eq (26)] ls st g M Q := q_T_next rfl
theorem b_X5_when_16 : q_T md d qP_X5_when 16 [] ls st g M Q = q_T md d qP_X5_when 23 [.iload 2, .invokestatic 99, .ifCond .ne (26)] ls st g M Q := q_T_next rfl
theorem b_X5_when_23 : q_T md d qP_X5_when 23 [] ls st g M Q = q_T md d qP_X5_when 26 [.iconst (-7), .ret 0] ls st g M Q := q_T_next rfl
theorem b_X5_when_26 : q_T md d qP_X5_when 26 [] ls st g M Q = q_T md d qP_X5_when 46 [.aload 0, .getfield 504, .aload 0, .getfield 503, .invokestatic 49, .aload 0, .iload 1, .iload 2, .iconst (60), .invokestatic 106, .ret 0] ls st g M Q := q_T_next rfl
theorem s_X5_peace {w : Nat} {x0 : Int} : q_S md d 77 [qR 5 w, qI x0] g M Q = q_T md d qP_X5_peace 0 [] [qR 5 w, qI x0] [] g M Q := rfl
theorem b_X5_peace_0 : q_T md d qP_X5_peace 0 [] ls st g M Q = q_T md d qP_X5_peace 4 [.iload 1, .ifCond .lt (9)] ls st g M Q := q_T_next rfl
theorem b_X5_peace_4 : q_T md d qP_X5_peace 4 [] ls st g M Q = q_T md d qP_X5_peace 9 [.iload 1, .iconst (2), .if_icmp .le (12)] ls st g M Q := q_T_next rfl
theorem b_X5_peace_9 : q_T md d qP_X5_peace 9 [] ls st g M Q = q_T md d qP_X5_peace 12 [.iconst (-100000), .ret 0] ls st g M Q := q_T_next rfl
theorem b_X5_peace_12 : q_T md d qP_X5_peace 12 [] ls st g M Q = q_T md d qP_X5_peace 48 [.aload 0, .getfield 503, .invokestatic 57, .iload 1, .lookupswitch (70) #[(0, 48), (1, 59)]] ls st g M Q := q_T_next rfl
theorem b_X5_peace_48 : q_T md d qP_X5_peace 48 [] ls st g M Q = q_T md d qP_X5_peace 59 [.aload 0, .getfield 503, .getfield 400, .invokestatic 17, .ret 0] ls st g M Q := q_T_next rfl
theorem b_X5_peace_59 : q_T md d qP_X5_peace 59 [] ls st g M Q = q_T md d qP_X5_peace 70 [.aload 0, .getfield 503, .getfield 400, .invokestatic 7, .ret 0] ls st g M Q := q_T_next rfl
theorem b_X5_peace_70 : q_T md d qP_X5_peace 70 [] ls st g M Q = q_T md d qP_X5_peace 81 [.aload 0, .getfield 503, .getfield 400, .invokestatic 8, .ret 0] ls st g M Q := q_T_next rfl
theorem s_X5_court {w : Nat} {x0 : Int} : q_S md d 78 [qR 5 w, qI x0] g M Q = q_T md d qP_X5_court 0 [] [qR 5 w, qI x0] [] g M Q := rfl
theorem b_X5_court_0 : q_T md d qP_X5_court 0 [] ls st g M Q = q_T md d qP_X5_court 4 [.iload 1, .ifCond .lt (9)] ls st g M Q := q_T_next rfl
theorem b_X5_court_4 : q_T md d qP_X5_court 4 [] ls st g M Q = q_T md d qP_X5_court 9 [.iload 1, .iconst (2), .if_icmp .le (12)] ls st g M Q := q_T_next rfl
theorem b_X5_court_9 : q_T md d qP_X5_court 9 [] ls st g M Q = q_T md d qP_X5_court 12 [.iconst (-100000), .ret 0] ls st g M Q := q_T_next rfl
theorem b_X5_court_12 : q_T md d qP_X5_court 12 [] ls st g M Q = q_T md d qP_X5_court 68 [.aload 0, .getfield 504, .aload 0, .getfield 503, .invokestatic 49, .aload 0, .getfield 504, .invokestatic 57, .aload 0, .getfield 504, .getfield 400, .invokestatic 15, .iload 1, .lookupswitch (90) #[(0, 68), (1, 79)]] ls st g M Q := q_T_next rfl
theorem b_X5_court_68 : q_T md d qP_X5_court 68 [] ls st g M Q = q_T md d qP_X5_court 79 [.aload 0, .getfield 504, .getfield 400, .invokestatic 6, .ret 0] ls st g M Q := q_T_next rfl
theorem b_X5_court_79 : q_T md d qP_X5_court 79 [] ls st g M Q = q_T md d qP_X5_court 90 [.aload 0, .getfield 504, .getfield 400, .invokestatic 7, .ret 0] ls st g M Q := q_T_next rfl
theorem b_X5_court_90 : q_T md d qP_X5_court 90 [] ls st g M Q = q_T md d qP_X5_court 101 [.aload 0, .getfield 504, .getfield 400, .invokestatic 8, .ret 0] ls st g M Q := q_T_next rfl
theorem s_X5_all {w : Nat} {x0 : Int} : q_S md d 79 [qR 5 w, qI x0] g M Q = q_T md d qP_X5_all 0 [] [qR 5 w, qI x0, qS 0, qS 0, qS 0, qS 0, qS 0, qS 0, qS 0, qS 0] [] g M Q := rfl
theorem b_X5_all_0 : q_T md d qP_X5_all 0 [] ls st g M Q = q_T md d qP_X5_all 4 [.iload 1, .ifCond .lt (9)] ls st g M Q := q_T_next rfl
theorem b_X5_all_4 : q_T md d qP_X5_all 4 [] ls st g M Q = q_T md d qP_X5_all 9 [.iload 1, .iconst (4), .if_icmp .le (12)] ls st g M Q := q_T_next rfl
theorem b_X5_all_9 : q_T md d qP_X5_all 9 [] ls st g M Q = q_T md d qP_X5_all 12 [.iconst (-100000), .ret 0] ls st g M Q := q_T_next rfl
theorem b_X5_all_12 : q_T md d qP_X5_all 12 [] ls st g M Q = q_T md d qP_X5_all 47 [.aload 0, .getfield 504, .aload 0, .getfield 503, .invokestatic 49, .aload 0, .getfield 504, .invokestatic 57, .aload 0, .getfield 504, .getfield 400, .astore 2, .aload 2, .invokestatic 2, .iload 1, .iconst (3), .if_icmp .ge (51)] ls st g M Q := q_T_next rfl
theorem b_X5_all_47 : q_T md d qP_X5_all 47 [] ls st g M Q = q_T md d qP_X5_all 51 [.iconst (1), .goto (52)] ls st g M Q := q_T_next rfl
theorem b_X5_all_51 : q_T md d qP_X5_all 51 [] ls st g M Q = q_T md d qP_X5_all 52 [.iconst (0)] ls st g M Q := q_T_next rfl
theorem b_X5_all_52 : q_T md d qP_X5_all 52 [] ls st g M Q = q_T md d qP_X5_all 68 [.istore 3, .iconst (0), .istore 4, .iconst (-1), .istore 5, .iconst (0), .istore 6, .iconst (1), .istore 7, .iconst (0), .istore 8] ls st g M Q := q_T_next rfl
theorem b_X5_all_68 : q_T md d qP_X5_all 68 [] ls st g M Q = q_T md d qP_X5_all 73 [.iload 7, .ifCond .eq (142)] ls st g M Q := q_T_next rfl
theorem b_X5_all_73 : q_T md d qP_X5_all 73 [] ls st g M Q = q_T md d qP_X5_all 81 [.iload 8, .iconst (7776), .if_icmp .ge (142)] ls st g M Q := q_T_next rfl
theorem b_X5_all_81 : q_T md d qP_X5_all 81 [] ls st g M Q = q_T md d qP_X5_all 88 [.aload 2, .invokestatic 18, .ifCond .eq (130)] ls st g M Q := q_T_next rfl
theorem b_X5_all_88 : q_T md d qP_X5_all 88 [] ls st g M Q = q_T md d qP_X5_all 92 [.iload 3, .ifCond .eq (99)] ls st g M Q := q_T_next rfl
theorem b_X5_all_92 : q_T md d qP_X5_all 92 [] ls st g M Q = q_T md d qP_X5_all 99 [.aload 2, .invokestatic 17, .ifCond .ge (130)] ls st g M Q := q_T_next rfl
theorem b_X5_all_99 : q_T md d qP_X5_all 99 [] ls st g M Q = q_T md d qP_X5_all 110 [.aload 2, .invokestatic 7, .istore 9, .iload 4, .ifCond .eq (117)] ls st g M Q := q_T_next rfl
theorem b_X5_all_110 : q_T md d qP_X5_all 110 [] ls st g M Q = q_T md d qP_X5_all 117 [.iload 9, .iload 6, .if_icmp .le (127)] ls st g M Q := q_T_next rfl
theorem b_X5_all_117 : q_T md d qP_X5_all 117 [] ls st g M Q = q_T md d qP_X5_all 127 [.aload 2, .invokestatic 6, .istore 5, .iload 9, .istore 6] ls st g M Q := q_T_next rfl
theorem b_X5_all_127 : q_T md d qP_X5_all 127 [] ls st g M Q = q_T md d qP_X5_all 130 [.iinc 4 (1)] ls st g M Q := q_T_next rfl
theorem b_X5_all_130 : q_T md d qP_X5_all 130 [] ls st g M Q = q_T md d qP_X5_all 142 [.aload 2, .invokestatic 19, .istore 7, .iinc 8 (1), .goto (68)] ls st g M Q := q_T_next rfl
theorem b_X5_all_142 : q_T md d qP_X5_all 142 [] ls st g M Q = q_T md d qP_X5_all 146 [.iload 1, .ifCond .ne (149)] ls st g M Q := q_T_next rfl
theorem b_X5_all_146 : q_T md d qP_X5_all 146 [] ls st g M Q = q_T md d qP_X5_all 149 [.iload 4, .ret 0] ls st g M Q := q_T_next rfl
theorem b_X5_all_149 : q_T md d qP_X5_all 149 [] ls st g M Q = q_T md d qP_X5_all 154 [.iload 1, .iconst (1), .if_icmp .eq (159)] ls st g M Q := q_T_next rfl
theorem b_X5_all_154 : q_T md d qP_X5_all 154 [] ls st g M Q = q_T md d qP_X5_all 159 [.iload 1, .iconst (3), .if_icmp .ne (164)] ls st g M Q := q_T_next rfl
theorem b_X5_all_159 : q_T md d qP_X5_all 159 [] ls st g M Q = q_T md d qP_X5_all 164 [.iload 5, .goto (166)] ls st g M Q := q_T_next rfl
theorem b_X5_all_164 : q_T md d qP_X5_all 164 [] ls st g M Q = q_T md d qP_X5_all 166 [.iload 6] ls st g M Q := q_T_next rfl
theorem b_X5_all_166 : q_T md d qP_X5_all 166 [] ls st g M Q = q_T md d qP_X5_all 167 [.ret 0] ls st g M Q := q_T_next rfl
theorem s_X5_annex {w : Nat} {x0 : Int} : q_S md d 80 [qR 5 w, qI x0] g M Q = q_T md d qP_X5_annex 0 [] [qR 5 w, qI x0, qS 0, qS 0, qS 0, qS 0] [] g M Q := rfl
theorem b_X5_annex_0 : q_T md d qP_X5_annex 0 [] ls st g M Q = q_T md d qP_X5_annex 4 [.iload 1, .ifCond .lt (9)] ls st g M Q := q_T_next rfl
theorem b_X5_annex_4 : q_T md d qP_X5_annex 4 [] ls st g M Q = q_T md d qP_X5_annex 9 [.iload 1, .iconst (1), .if_icmp .le (12)] ls st g M Q := q_T_next rfl
theorem b_X5_annex_9 : q_T md d qP_X5_annex 9 [] ls st g M Q = q_T md d qP_X5_annex 12 [.iconst (-100000), .ret 0] ls st g M Q := q_T_next rfl
theorem b_X5_annex_12 : q_T md d qP_X5_annex 12 [] ls st g M Q = q_T md d qP_X5_annex 37 [.aload 0, .getfield 504, .aload 0, .getfield 503, .invokestatic 49, .aload 0, .getfield 504, .invokestatic 57, .iconst (-1), .istore 2, .iconst (0), .istore 3, .iconst (0), .istore 4] ls st g M Q := q_T_next rfl
theorem b_X5_annex_37 : q_T md d qP_X5_annex 37 [] ls st g M Q = q_T md d qP_X5_annex 43 [.iload 4, .iconst (5), .if_icmp .ge (122)] ls st g M Q := q_T_next rfl
theorem b_X5_annex_43 : q_T md d qP_X5_annex 43 [] ls st g M Q = q_T md d qP_X5_annex 104 [.aload 0, .getfield 504, .getfield 400, .getfield 0, .iload 4, .dup2, .iaload, .iconst (1), .iadd, .iastore, .aload 0, .getfield 504, .getfield 400, .invokestatic 15, .aload 0, .getfield 504, .getfield 400, .getfield 0, .iload 4, .dup2, .iaload, .iconst (1), .isub, .iastore, .aload 0, .getfield 504, .getfield 400, .invokestatic 7, .istore 5, .iload 2, .iconst (-1), .if_icmp .eq (110)] ls st g M Q := q_T_next rfl
theorem b_X5_annex_104 : q_T md d qP_X5_annex 104 [] ls st g M Q = q_T md d qP_X5_annex 110 [.iload 5, .iload 3, .if_icmp .le (116)] ls st g M Q := q_T_next rfl
theorem b_X5_annex_110 : q_T md d qP_X5_annex 110 [] ls st g M Q = q_T md d qP_X5_annex 116 [.iload 4, .istore 2, .iload 5, .istore 3] ls st g M Q := q_T_next rfl
theorem b_X5_annex_116 : q_T md d qP_X5_annex 116 [] ls st g M Q = q_T md d qP_X5_annex 122 [.iinc 4 (1), .goto (37)] ls st g M Q := q_T_next rfl
theorem b_X5_annex_122 : q_T md d qP_X5_annex 122 [] ls st g M Q = q_T md d qP_X5_annex 126 [.iload 1, .ifCond .ne (130)] ls st g M Q := q_T_next rfl
theorem b_X5_annex_126 : q_T md d qP_X5_annex 126 [] ls st g M Q = q_T md d qP_X5_annex 130 [.iload 2, .goto (131)] ls st g M Q := q_T_next rfl
theorem b_X5_annex_130 : q_T md d qP_X5_annex 130 [] ls st g M Q = q_T md d qP_X5_annex 131 [.iload 3] ls st g M Q := q_T_next rfl
theorem b_X5_annex_131 : q_T md d qP_X5_annex 131 [] ls st g M Q = q_T md d qP_X5_annex 132 [.ret 0] ls st g M Q := q_T_next rfl
theorem s_X5_cart {w : Nat} {x0 : Int} {x1 : Int} : q_S md d 81 [qR 5 w, qI x0, qI x1] g M Q = q_T md d qP_X5_cart 0 [] [qR 5 w, qI x0, qI x1, qS 0, qS 0, qS 0, qS 0] [] g M Q := rfl
theorem b_X5_cart_0 : q_T md d qP_X5_cart 0 [] ls st g M Q = q_T md d qP_X5_cart 8 [.aload 0, .iload 1, .invokestatic 98, .ifCond .ne (11)] ls st g M Q := q_T_next rfl
theorem b_X5_cart_8 : q_T md d qP_X5_cart 8 [] ls st g M Q = q_T md d qP_X5_cart 11 [.iconst (-5), .ret 0] ls st g M Q := q_T_next rfl
theorem b_X5_cart_11 : q_T md d qP_X5_cart 11 [] ls st g M Q = q_T md d qP_X5_cart 15 [.iload 2, .ifCond .lt (20)] ls st g M Q := q_T_next rfl
theorem b_X5_cart_15 : q_T md d qP_X5_cart 15 [] ls st g M Q = q_T md d qP_X5_cart 20 [.iload 2, .iconst (1), .if_icmp .le (23)] ls st g M Q := q_T_next rfl
theorem b_X5_cart_20 : q_T md d qP_X5_cart 20 [] ls st g M Q = q_T md d qP_X5_cart 23 [.iconst (-7), .ret 0] ls st g M Q := q_T_next rfl
theorem b_X5_cart_23 : q_T md d qP_X5_cart 23 [] ls st g M Q = q_T md d qP_X5_cart 32 [.iconst (-1), .istore 3, .iconst (61), .istore 4, .iconst (0), .istore 5] ls st g M Q := q_T_next rfl
theorem b_X5_cart_32 : q_T md d qP_X5_cart 32 [] ls st g M Q = q_T md d qP_X5_cart 39 [.iload 5, .iconst (100), .if_icmp .ge (90)] ls st g M Q := q_T_next rfl
theorem b_X5_cart_39 : q_T md d qP_X5_cart 39 [] ls st g M Q = q_T md d qP_X5_cart 77 [.aload 0, .getfield 504, .aload 0, .getfield 503, .invokestatic 49, .aload 0, .getfield 504, .iload 1, .iload 5, .invokestatic 51, .aload 0, .iload 1, .iconst (-1), .iload 4, .iconst (1), .isub, .invokestatic 106, .istore 6, .iload 6, .ifCond .lt (84)] ls st g M Q := q_T_next rfl
theorem b_X5_cart_77 : q_T md d qP_X5_cart 77 [] ls st g M Q = q_T md d qP_X5_cart 84 [.iload 5, .istore 3, .iload 6, .istore 4] ls st g M Q := q_T_next rfl
theorem b_X5_cart_84 : q_T md d qP_X5_cart 84 [] ls st g M Q = q_T md d qP_X5_cart 90 [.iinc 5 (1), .goto (32)] ls st g M Q := q_T_next rfl
theorem b_X5_cart_90 : q_T md d qP_X5_cart 90 [] ls st g M Q = q_T md d qP_X5_cart 95 [.iload 3, .iconst (-1), .if_icmp .ne (97)] ls st g M Q := q_T_next rfl
theorem b_X5_cart_95 : q_T md d qP_X5_cart 95 [] ls st g M Q = q_T md d qP_X5_cart 97 [.iconst (-1), .ret 0] ls st g M Q := q_T_next rfl
theorem b_X5_cart_97 : q_T md d qP_X5_cart 97 [] ls st g M Q = q_T md d qP_X5_cart 101 [.iload 2, .ifCond .ne (105)] ls st g M Q := q_T_next rfl
theorem b_X5_cart_101 : q_T md d qP_X5_cart 101 [] ls st g M Q = q_T md d qP_X5_cart 105 [.iload 3, .goto (107)] ls st g M Q := q_T_next rfl
theorem b_X5_cart_105 : q_T md d qP_X5_cart 105 [] ls st g M Q = q_T md d qP_X5_cart 107 [.iload 4] ls st g M Q := q_T_next rfl
theorem b_X5_cart_107 : q_T md d qP_X5_cart 107 [] ls st g M Q = q_T md d qP_X5_cart 108 [.ret 0] ls st g M Q := q_T_next rfl
theorem s_X5_share {w : Nat} {x0 : Int} : q_S md d 82 [qR 5 w, qI x0] g M Q = q_T md d qP_X5_share 0 [] [qR 5 w, qI x0, qS 0, qS 0, qS 0] [] g M Q := rfl
theorem b_X5_share_0 : q_T md d qP_X5_share 0 [] ls st g M Q = q_T md d qP_X5_share 4 [.iload 1, .ifCond .lt (9)] ls st g M Q := q_T_next rfl
theorem b_X5_share_4 : q_T md d qP_X5_share 4 [] ls st g M Q = q_T md d qP_X5_share 9 [.iload 1, .iconst (1), .if_icmp .le (13)] ls st g M Q := q_T_next rfl
theorem b_X5_share_9 : q_T md d qP_X5_share 9 [] ls st g M Q = q_T md d qP_X5_share 13 [.jsr (-4611686018427387904), .lreturn] ls st g M Q := q_T_next rfl
theorem b_X5_share_13 : q_T md d qP_X5_share 13 [] ls st g M Q = q_T md d qP_X5_share 20 [.iconst (0), .istore 2, .iconst (0), .istore 3, .iconst (0), .istore 4] ls st g M Q := q_T_next rfl
theorem b_X5_share_20 : q_T md d qP_X5_share 20 [] ls st g M Q = q_T md d qP_X5_share 35 [.iload 4, .aload 0, .getfield 503, .getfield 400, .getfield 5, .if_icmp .ge (88)] ls st g M Q := q_T_next rfl
theorem b_X5_share_35 : q_T md d qP_X5_share 35 [] ls st g M Q = q_T md d qP_X5_share 66 [.iload 3, .aload 0, .getfield 503, .getfield 407, .iload 4, .iaload, .iadd, .istore 3, .iload 2, .aload 0, .getfield 503, .getfield 400, .getfield 1, .iload 4, .iaload, .iconst (5), .if_icmp .ne (70)] ls st g M Q := q_T_next rfl
theorem b_X5_share_66 : q_T md d qP_X5_share 66 [] ls st g M Q = q_T md d qP_X5_share 70 [.iconst (0), .goto (80)] ls st g M Q := q_T_next rfl
theorem b_X5_share_70 : q_T md d qP_X5_share 70 [] ls st g M Q = q_T md d qP_X5_share 80 [.aload 0, .getfield 503, .getfield 407, .iload 4, .iaload] ls st g M Q := q_T_next rfl
theorem b_X5_share_80 : q_T md d qP_X5_share 80 [] ls st g M Q = q_T md d qP_X5_share 88 [.iadd, .istore 2, .iinc 4 (1), .goto (20)] ls st g M Q := q_T_next rfl
theorem b_X5_share_88 : q_T md d qP_X5_share 88 [] ls st g M Q = q_T md d qP_X5_share 95 [.iload 2, .iload 3, .iload 1, .invokestatic 108, .lreturn] ls st g M Q := q_T_next rfl
theorem s_X5_judge {w : Nat} {x0 : Int} {x1 : Int} : q_S md d 83 [qR 5 w, qI x0, qI x1] g M Q = q_T md d qP_X5_judge 0 [] [qR 5 w, qI x0, qI x1, qS 0] [] g M Q := rfl
theorem b_X5_judge_0 : q_T md d qP_X5_judge 0 [] ls st g M Q = q_T md d qP_X5_judge 10 [.aload 0, .iload 1, .invokestatic 104, .istore 3, .iload 3, .ifCond .eq (12)] ls st g M Q := q_T_next rfl
theorem b_X5_judge_10 : q_T md d qP_X5_judge 10 [] ls st g M Q = q_T md d qP_X5_judge 12 [.iload 3, .ret 0] ls st g M Q := q_T_next rfl
theorem b_X5_judge_12 : q_T md d qP_X5_judge 12 [] ls st g M Q = q_T md d qP_X5_judge 20 [.aload 0, .iload 2, .invokestatic 98, .ifCond .ne (23)] ls st g M Q := q_T_next rfl
theorem b_X5_judge_20 : q_T md d qP_X5_judge 20 [] ls st g M Q = q_T md d qP_X5_judge 23 [.iconst (-5), .ret 0] ls st g M Q := q_T_next rfl
theorem b_X5_judge_23 : q_T md d qP_X5_judge 23 [] ls st g M Q = q_T md d qP_X5_judge 41 [.aload 0, .getfield 504, .aload 0, .getfield 503, .invokestatic 49, .aload 0, .iload 1, .iload 2, .invokestatic 105, .ret 0] ls st g M Q := q_T_next rfl
theorem s_X5_kinds {w : Nat} {x0 : Int} {x1 : Int} {x2 : Int} : q_S md d 84 [qR 5 w, qI x0, qI x1, qI x2] g M Q = q_T md d qP_X5_kinds 0 [] [qR 5 w, qI x0, qI x1, qI x2, qS 0, qS 0, qS 0, qS 0] [] g M Q := rfl
theorem b_X5_kinds_0 : q_T md d qP_X5_kinds 0 [] ls st g M Q = q_T md d qP_X5_kinds 12 [.aload 0, .iload 1, .invokestatic 104, .istore 4, .iload 4, .ifCond .eq (15)] ls st g M Q := q_T_next rfl
theorem b_X5_kinds_12 : q_T md d qP_X5_kinds 12 [] ls st g M Q = q_T md d qP_X5_kinds 15 [.iload 4, .ret 0] ls st g M Q := q_T_next rfl
theorem b_X5_kinds_15 : q_T md d qP_X5_kinds 15 [] ls st g M Q = q_T md d qP_X5_kinds 23 [.aload 0, .iload 2, .invokestatic 98, .ifCond .ne (26)] ls st g M Q := q_T_next rfl
theorem b_X5_kinds_23 : q_T md d qP_X5_kinds 23 [] ls st g M Q = q_T md d qP_X5_kinds 26 [.iconst (-5), .ret 0] ls st g M Q := q_T_next rfl
theorem b_X5_kinds_26 : q_T md d qP_X5_kinds 26 [] ls st g M Q = q_T md d qP_X5_kinds 30 [.iload 3, .ifCond .lt (35)] ls st g M Q := q_T_next rfl
theorem b_X5_kinds_30 : q_T md d qP_X5_kinds 30 [] ls st g M Q = q_T md d qP_X5_kinds 35 [.iload 3, .iconst (1), .if_icmp .le (38)] ls st g M Q := q_T_next rfl
theorem b_X5_kinds_35 : q_T md d qP_X5_kinds 35 [] ls st g M Q = q_T md d qP_X5_kinds 38 [.iconst (-7), .ret 0] ls st g M Q := q_T_next rfl
theorem b_X5_kinds_38 : q_T md d qP_X5_kinds 38 [] ls st g M Q = q_T md d qP_X5_kinds 45 [.iconst (0), .istore 5, .iload 3, .ifCond .ne (50)] ls st g M Q := q_T_next rfl
theorem b_X5_kinds_45 : q_T md d qP_X5_kinds 45 [] ls st g M Q = q_T md d qP_X5_kinds 50 [.iconst (6), .goto (52)] ls st g M Q := q_T_next rfl
theorem b_X5_kinds_50 : q_T md d qP_X5_kinds 50 [] ls st g M Q = q_T md d qP_X5_kinds 52 [.iconst (10)] ls st g M Q := q_T_next rfl
theorem b_X5_kinds_52 : q_T md d qP_X5_kinds 52 [] ls st g M Q = q_T md d qP_X5_kinds 57 [.istore 6, .iconst (0), .istore 7] ls st g M Q := q_T_next rfl
theorem b_X5_kinds_57 : q_T md d qP_X5_kinds 57 [] ls st g M Q = q_T md d qP_X5_kinds 64 [.iload 7, .iload 6, .if_icmp .ge (129)] ls st g M Q := q_T_next rfl
theorem b_X5_kinds_64 : q_T md d qP_X5_kinds 64 [] ls st g M Q = q_T md d qP_X5_kinds 79 [.aload 0, .getfield 504, .aload 0, .getfield 503, .invokestatic 49, .iload 3, .ifCond .ne (93)] ls st g M Q := q_T_next rfl
theorem b_X5_kinds_79 : q_T md d qP_X5_kinds 79 [] ls st g M Q = q_T md d qP_X5_kinds 93 [.aload 0, .getfield 504, .getfield 404, .iload 2, .iload 7, .iastore, .goto (104)] ls st g M Q := q_T_next rfl
theorem b_X5_kinds_93 : q_T md d qP_X5_kinds 93 [] ls st g M Q = q_T md d qP_X5_kinds 104 [.aload 0, .getfield 504, .getfield 405, .iload 2, .iload 7, .iastore] ls st g M Q := q_T_next rfl
theorem b_X5_kinds_104 : q_T md d qP_X5_kinds 104 [] ls st g M Q = q_T md d qP_X5_kinds 114 [.aload 0, .iload 1, .iload 2, .invokestatic 105, .iconst (-1), .if_icmp .ne (123)] ls st g M Q := q_T_next rfl
theorem b_X5_kinds_114 : q_T md d qP_X5_kinds 114 [] ls st g M Q = q_T md d qP_X5_kinds 123 [.iload 5, .iconst (1), .iload 7, .ishl, .ior, .istore 5] ls st g M Q := q_T_next rfl
theorem b_X5_kinds_123 : q_T md d qP_X5_kinds 123 [] ls st g M Q = q_T md d qP_X5_kinds 129 [.iinc 7 (1), .goto (57)] ls st g M Q := q_T_next rfl
theorem b_X5_kinds_129 : q_T md d qP_X5_kinds 129 [] ls st g M Q = q_T md d qP_X5_kinds 132 [.iload 5, .ret 0] ls st g M Q := q_T_next rfl
theorem s_X5_states {w : Nat} {x0 : Int} {x1 : Int} {x2 : Int} {x3 : Int} : q_S md d 85 [qR 5 w, qI x0, qI x1, qI x2, qI x3] g M Q = q_T md d qP_X5_states 0 [] [qR 5 w, qI x0, qI x1, qI x2, qI x3, qS 0, qS 0, qS 0, qS 0] [] g M Q := rfl
theorem b_X5_states_0 : q_T md d qP_X5_states 0 [] ls st g M Q = q_T md d qP_X5_states 12 [.aload 0, .iload 1, .invokestatic 104, .istore 5, .iload 5, .ifCond .eq (15)] ls st g M Q := q_T_next rfl
theorem b_X5_states_12 : q_T md d qP_X5_states 12 [] ls st g M Q = q_T md d qP_X5_states 15 [.iload 5, .ret 0] ls st g M Q := q_T_next rfl
theorem b_X5_states_15 : q_T md d qP_X5_states 15 [] ls st g M Q = q_T md d qP_X5_states 23 [.aload 0, .iload 2, .invokestatic 98, .ifCond .ne (26)] ls st g M Q := q_T_next rfl
theorem b_X5_states_23 : q_T md d qP_X5_states 23 [] ls st g M Q = q_T md d qP_X5_states 26 [.iconst (-5), .ret 0] ls st g M Q := q_T_next rfl
theorem b_X5_states_26 : q_T md d qP_X5_states 26 [] ls st g M Q = q_T md d qP_X5_states 30 [.iload 3, .ifCond .lt (46)] ls st g M Q := q_T_next rfl
theorem b_X5_states_30 : q_T md d qP_X5_states 30 [] ls st g M Q = q_T md d qP_X5_states 35 [.iload 3, .iconst (1), .if_icmp .gt (46)] ls st g M Q := q_T_next rfl
theorem b_X5_states_35 : q_T md d qP_X5_states 35 [] ls st g M Q = q_T md d qP_X5_states 40 [.iload 4, .ifCond .lt (46)] ls st g M Q := q_T_next rfl
theorem b_X5_states_40 : q_T md d qP_X5_states 40 [] ls st g M Q = q_T md d qP_X5_states 46 [.iload 4, .iconst (1), .if_icmp .le (49)] ls st g M Q := q_T_next rfl
theorem b_X5_states_46 : q_T md d qP_X5_states 46 [] ls st g M Q = q_T md d qP_X5_states 49 [.iconst (-7), .ret 0] ls st g M Q := q_T_next rfl
theorem b_X5_states_49 : q_T md d qP_X5_states 49 [] ls st g M Q = q_T md d qP_X5_states 58 [.iconst (0), .istore 6, .iconst (-1), .istore 7, .iconst (0), .istore 8] ls st g M Q := q_T_next rfl
theorem b_X5_states_58 : q_T md d qP_X5_states 58 [] ls st g M Q = q_T md d qP_X5_states 65 [.iload 8, .iconst (99), .if_icmp .gt (139)] ls st g M Q := q_T_next rfl
theorem b_X5_states_65 : q_T md d qP_X5_states 65 [] ls st g M Q = q_T md d qP_X5_states 80 [.aload 0, .getfield 504, .aload 0, .getfield 503, .invokestatic 49, .iload 3, .ifCond .ne (94)] ls st g M Q := q_T_next rfl
theorem b_X5_states_80 : q_T md d qP_X5_states 80 [] ls st g M Q = q_T md d qP_X5_states 94 [.aload 0, .getfield 504, .getfield 406, .iload 2, .iload 8, .iastore, .goto (105)] ls st g M Q := q_T_next rfl
theorem b_X5_states_94 : q_T md d qP_X5_states 94 [] ls st g M Q = q_T md d qP_X5_states 105 [.aload 0, .getfield 504, .getfield 407, .iload 2, .iload 8, .iastore] ls st g M Q := q_T_next rfl
theorem b_X5_states_105 : q_T md d qP_X5_states 105 [] ls st g M Q = q_T md d qP_X5_states 115 [.aload 0, .iload 1, .iload 2, .invokestatic 105, .iconst (-1), .if_icmp .ne (133)] ls st g M Q := q_T_next rfl
theorem b_X5_states_115 : q_T md d qP_X5_states 115 [] ls st g M Q = q_T md d qP_X5_states 124 [.iinc 6 (1), .iload 7, .iconst (-1), .if_icmp .ne (129)] ls st g M Q := q_T_next rfl
theorem b_X5_states_124 : q_T md d qP_X5_states 124 [] ls st g M Q = q_T md d qP_X5_states 129 [.iload 8, .goto (131)] ls st g M Q := q_T_next rfl
theorem b_X5_states_129 : q_T md d qP_X5_states 129 [] ls st g M Q = q_T md d qP_X5_states 131 [.iload 7] ls st g M Q := q_T_next rfl
theorem b_X5_states_131 : q_T md d qP_X5_states 131 [] ls st g M Q = q_T md d qP_X5_states 133 [.istore 7] ls st g M Q := q_T_next rfl
theorem b_X5_states_133 : q_T md d qP_X5_states 133 [] ls st g M Q = q_T md d qP_X5_states 139 [.iinc 8 (1), .goto (58)] ls st g M Q := q_T_next rfl
theorem b_X5_states_139 : q_T md d qP_X5_states 139 [] ls st g M Q = q_T md d qP_X5_states 144 [.iload 4, .ifCond .ne (149)] ls st g M Q := q_T_next rfl
theorem b_X5_states_144 : q_T md d qP_X5_states 144 [] ls st g M Q = q_T md d qP_X5_states 149 [.iload 6, .goto (151)] ls st g M Q := q_T_next rfl
theorem b_X5_states_149 : q_T md d qP_X5_states 149 [] ls st g M Q = q_T md d qP_X5_states 151 [.iload 7] ls st g M Q := q_T_next rfl
theorem b_X5_states_151 : q_T md d qP_X5_states 151 [] ls st g M Q = q_T md d qP_X5_states 152 [.ret 0] ls st g M Q := q_T_next rfl
theorem s_X5_whose {w : Nat} {x0 : Int} : q_S md d 86 [qR 5 w, qI x0] g M Q = q_T md d qP_X5_whose 0 [] [qR 5 w, qI x0, qS 0, qS 0, qS 0] [] g M Q := rfl
theorem b_X5_whose_0 : q_T md d qP_X5_whose 0 [] ls st g M Q = q_T md d qP_X5_whose 10 [.aload 0, .iload 1, .invokestatic 104, .istore 2, .iload 2, .ifCond .eq (12)] ls st g M Q := q_T_next rfl
theorem b_X5_whose_10 : q_T md d qP_X5_whose 10 [] ls st g M Q = q_T md d qP_X5_whose 12 [.iload 2, .ret 0] ls st g M Q := q_T_next rfl
theorem b_X5_whose_12 : q_T md d qP_X5_whose 12 [] ls st g M Q = q_T md d qP_X5_whose 17 [.iconst (0), .istore 3, .iconst (0), .istore 4] ls st g M Q := q_T_next rfl
theorem b_X5_whose_17 : q_T md d qP_X5_whose 17 [] ls st g M Q = q_T md d qP_X5_whose 32 [.iload 4, .aload 0, .getfield 503, .getfield 400, .getfield 5, .if_icmp .ge (67)] ls st g M Q := q_T_next rfl
theorem b_X5_whose_32 : q_T md d qP_X5_whose 32 [] ls st g M Q = q_T md d qP_X5_whose 54 [.aload 0, .getfield 504, .aload 0, .getfield 503, .invokestatic 49, .aload 0, .iload 1, .iload 4, .invokestatic 105, .iconst (-1), .if_icmp .ne (61)] ls st g M Q := q_T_next rfl
theorem b_X5_whose_54 : q_T md d qP_X5_whose 54 [] ls st g M Q = q_T md d qP_X5_whose 61 [.iload 3, .iconst (1), .iload 4, .ishl, .ior, .istore 3] ls st g M Q := q_T_next rfl
theorem b_X5_whose_61 : q_T md d qP_X5_whose 61 [] ls st g M Q = q_T md d qP_X5_whose 67 [.iinc 4 (1), .goto (17)] ls st g M Q := q_T_next rfl
theorem b_X5_whose_67 : q_T md d qP_X5_whose 67 [] ls st g M Q = q_T md d qP_X5_whose 69 [.iload 3, .ret 0] ls st g M Q := q_T_next rfl
theorem s_X5_laws {w : Nat} {x0 : Int} {x1 : Int} : q_S md d 87 [qR 5 w, qI x0, qI x1] g M Q = q_T md d qP_X5_laws 0 [] [qR 5 w, qI x0, qI x1, qS 0, qS 0, qS 0] [] g M Q := rfl
theorem b_X5_laws_0 : q_T md d qP_X5_laws 0 [] ls st g M Q = q_T md d qP_X5_laws 10 [.aload 0, .iload 1, .invokestatic 104, .istore 3, .iload 3, .ifCond .eq (12)] ls st g M Q := q_T_next rfl
theorem b_X5_laws_10 : q_T md d qP_X5_laws 10 [] ls st g M Q = q_T md d qP_X5_laws 12 [.iload 3, .ret 0] ls st g M Q := q_T_next rfl
theorem b_X5_laws_12 : q_T md d qP_X5_laws 12 [] ls st g M Q = q_T md d qP_X5_laws 20 [.aload 0, .iload 2, .invokestatic 98, .ifCond .ne (23)] ls st g M Q := q_T_next rfl
theorem b_X5_laws_20 : q_T md d qP_X5_laws 20 [] ls st g M Q = q_T md d qP_X5_laws 23 [.iconst (-5), .ret 0] ls st g M Q := q_T_next rfl
theorem b_X5_laws_23 : q_T md d qP_X5_laws 23 [] ls st g M Q = q_T md d qP_X5_laws 29 [.iconst (0), .istore 4, .iconst (0), .istore 5] ls st g M Q := q_T_next rfl
theorem b_X5_laws_29 : q_T md d qP_X5_laws 29 [] ls st g M Q = q_T md d qP_X5_laws 38 [.iload 5, .aload 0, .getfield 502, .if_icmp .ge (88)] ls st g M Q := q_T_next rfl
theorem b_X5_laws_38 : q_T md d qP_X5_laws 38 [] ls st g M Q = q_T md d qP_X5_laws 73 [.aload 0, .getfield 504, .aload 0, .getfield 503, .invokestatic 49, .aload 0, .getfield 504, .aload 0, .getfield 501, .iload 5, .aaload, .putfield 410, .aload 0, .iload 1, .iload 2, .invokestatic 105, .iconst (-1), .if_icmp .ne (82)] ls st g M Q := q_T_next rfl
theorem b_X5_laws_73 : q_T md d qP_X5_laws 73 [] ls st g M Q = q_T md d qP_X5_laws 82 [.iload 4, .iconst (1), .iload 5, .ishl, .ior, .istore 4] ls st g M Q := q_T_next rfl
theorem b_X5_laws_82 : q_T md d qP_X5_laws 82 [] ls st g M Q = q_T md d qP_X5_laws 88 [.iinc 5 (1), .goto (29)] ls st g M Q := q_T_next rfl
theorem b_X5_laws_88 : q_T md d qP_X5_laws 88 [] ls st g M Q = q_T md d qP_X5_laws 91 [.iload 4, .ret 0] ls st g M Q := q_T_next rfl
theorem s_X5_film {w : Nat} {x0 : Int} {x1 : Int} {x2 : Int} : q_S md d 88 [qR 5 w, qI x0, qI x1, qI x2] g M Q = q_T md d qP_X5_film 0 [] [qR 5 w, qI x0, qI x1, qI x2, qS 0] [] g M Q := rfl
theorem b_X5_film_0 : q_T md d qP_X5_film 0 [] ls st g M Q = q_T md d qP_X5_film 7 [.iload 1, .invokestatic 101, .ifCond .ne (10)] ls st g M Q := q_T_next rfl
theorem b_X5_film_7 : q_T md d qP_X5_film 7 [] ls st g M Q = q_T md d qP_X5_film 10 [.iconst (-2), .ret 0] ls st g M Q := q_T_next rfl
theorem b_X5_film_10 : q_T md d qP_X5_film 10 [] ls st g M Q = q_T md d qP_X5_film 18 [.aload 0, .iload 2, .invokestatic 98, .ifCond .ne (21)] ls st g M Q := q_T_next rfl
theorem b_X5_film_18 : q_T md d qP_X5_film 18 [] ls st g M Q = q_T md d qP_X5_film 21 [.iconst (-5), .ret 0] ls st g M Q := q_T_next rfl
theorem b_X5_film_21 : q_T md d qP_X5_film 21 [] ls st g M Q = q_T md d qP_X5_film 25 [.iload 3, .ifCond .lt (31)] ls st g M Q := q_T_next rfl
theorem b_X5_film_25 : q_T md d qP_X5_film 25 [] ls st g M Q = q_T md d qP_X5_film 31 [.iload 3, .iconst (20), .if_icmp .le (34)] ls st g M Q := q_T_next rfl
theorem b_X5_film_31 : q_T md d qP_X5_film 31 [] ls st g M Q = q_T md d qP_X5_film 34 [.iconst (-7), .ret 0] ls st g M Q := q_T_next rfl
theorem b_X5_film_34 : q_T md d qP_X5_film 34 [] ls st g M Q = q_T md d qP_X5_film 59 [.aload 0, .getfield 504, .aload 0, .getfield 503, .invokestatic 49, .aload 0, .getfield 507, .iload 1, .aaload, .iconst (0), .iload 3, .invokestatic 44, .iconst (0), .istore 4] ls st g M Q := q_T_next rfl
theorem b_X5_film_59 : q_T md d qP_X5_film 59 [] ls st g M Q = q_T md d qP_X5_film 65 [.iload 4, .iload 3, .if_icmp .ge (99)] ls st g M Q := q_T_next rfl
theorem b_X5_film_65 : q_T md d qP_X5_film 65 [] ls st g M Q = q_T md d qP_X5_film 99 [.aload 0, .getfield 504, .invokestatic 59, .pop, .aload 0, .getfield 507, .iload 1, .aaload, .iload 4, .aload 0, .getfield 504, .getfield 406, .iload 2, .iaload, .invokestatic 45, .iinc 4 (1), .goto (59)] ls st g M Q := q_T_next rfl
theorem b_X5_film_99 : q_T md d qP_X5_film 99 [] ls st g M Q = q_T md d qP_X5_film 101 [.iload 3, .ret 0] ls st g M Q := q_T_next rfl
theorem s_X5_drawn {w : Nat} {x0 : Int} {x1 : Int} : q_S md d 89 [qR 5 w, qI x0, qI x1] g M Q = q_T md d qP_X5_drawn 0 [] [qR 5 w, qI x0, qI x1] [] g M Q := rfl
theorem b_X5_drawn_0 : q_T md d qP_X5_drawn 0 [] ls st g M Q = q_T md d qP_X5_drawn 4 [.iload 1, .ifCond .lt (19)] ls st g M Q := q_T_next rfl
theorem b_X5_drawn_4 : q_T md d qP_X5_drawn 4 [] ls st g M Q = q_T md d qP_X5_drawn 10 [.iload 1, .iconst (100000), .if_icmp .ge (19)] ls st g M Q := q_T_next rfl
theorem b_X5_drawn_10 : q_T md d qP_X5_drawn 10 [] ls st g M Q = q_T md d qP_X5_drawn 14 [.iload 2, .ifCond .lt (19)] ls st g M Q := q_T_next rfl
theorem b_X5_drawn_14 : q_T md d qP_X5_drawn 14 [] ls st g M Q = q_T md d qP_X5_drawn 19 [.iload 2, .iconst (1), .if_icmp .le (22)] ls st g M Q := q_T_next rfl
theorem b_X5_drawn_19 : q_T md d qP_X5_drawn 19 [] ls st g M Q = q_T md d qP_X5_drawn 22 [.iconst (-2), .ret 0] ls st g M Q := q_T_next rfl
theorem b_X5_drawn_22 : q_T md d qP_X5_drawn 22 [] ls st g M Q = q_T md d qP_X5_drawn 31 [.aload 0, .iload 1, .invokestatic 107, .iload 2, .ifCond .ne (44)] ls st g M Q := q_T_next rfl
theorem b_X5_drawn_31 : q_T md d qP_X5_drawn 31 [] ls st g M Q = q_T md d qP_X5_drawn 44 [.aload 0, .getfield 504, .getfield 400, .invokestatic 6, .goto (54)] ls st g M Q := q_T_next rfl
theorem b_X5_drawn_44 : q_T md d qP_X5_drawn 44 [] ls st g M Q = q_T md d qP_X5_drawn 54 [.aload 0, .getfield 504, .getfield 400, .invokestatic 3] ls st g M Q := q_T_next rfl
theorem b_X5_drawn_54 : q_T md d qP_X5_drawn 54 [] ls st g M Q = q_T md d qP_X5_drawn 55 [.ret 0] ls st g M Q := q_T_next rfl
theorem s_X5_odds {w : Nat} {x0 : Int} {x1 : Int} {x2 : Int} {x3 : Int} : q_S md d 90 [qR 5 w, qI x0, qI x1, qI x2, qI x3] g M Q = q_T md d qP_X5_odds 0 [] [qR 5 w, qI x0, qI x1, qI x2, qI x3, qS 0, qS 0] [] g M Q := rfl
theorem b_X5_odds_0 : q_T md d qP_X5_odds 0 [] ls st g M Q = q_T md d qP_X5_odds 4 [.iload 1, .ifCond .lt (21)] ls st g M Q := q_T_next rfl
theorem b_X5_odds_4 : q_T md d qP_X5_odds 4 [] ls st g M Q = q_T md d qP_X5_odds 10 [.iload 1, .iconst (100000), .if_icmp .ge (21)] ls st g M Q := q_T_next rfl
theorem b_X5_odds_10 : q_T md d qP_X5_odds 10 [] ls st g M Q = q_T md d qP_X5_odds 15 [.iload 2, .iconst (1), .if_icmp .lt (21)] ls st g M Q := q_T_next rfl
theorem b_X5_odds_15 : q_T md d qP_X5_odds 15 [] ls st g M Q = q_T md d qP_X5_odds 21 [.iload 2, .iconst (40), .if_icmp .le (25)] ls st g M Q := q_T_next rfl
theorem b_X5_odds_21 : q_T md d qP_X5_odds 21 [] ls st g M Q = q_T md d qP_X5_odds 25 [.jsr (-4611686018427387904), .lreturn] ls st g M Q := q_T_next rfl
theorem b_X5_odds_25 : q_T md d qP_X5_odds 25 [] ls st g M Q = q_T md d qP_X5_odds 29 [.iload 3, .ifCond .lt (45)] ls st g M Q := q_T_next rfl
theorem b_X5_odds_29 : q_T md d qP_X5_odds 29 [] ls st g M Q = q_T md d qP_X5_odds 34 [.iload 3, .iconst (5), .if_icmp .gt (45)] ls st g M Q := q_T_next rfl
theorem b_X5_odds_34 : q_T md d qP_X5_odds 34 [] ls st g M Q = q_T md d qP_X5_odds 39 [.iload 4, .ifCond .lt (45)] ls st g M Q := q_T_next rfl
theorem b_X5_odds_39 : q_T md d qP_X5_odds 39 [] ls st g M Q = q_T md d qP_X5_odds 45 [.iload 4, .iconst (1), .if_icmp .le (49)] ls st g M Q := q_T_next rfl
theorem b_X5_odds_45 : q_T md d qP_X5_odds 45 [] ls st g M Q = q_T md d qP_X5_odds 49 [.jsr (-4611686018427387904), .lreturn] ls st g M Q := q_T_next rfl
theorem b_X5_odds_49 : q_T md d qP_X5_odds 49 [] ls st g M Q = q_T md d qP_X5_odds 55 [.iconst (0), .istore 5, .iconst (0), .istore 6] ls st g M Q := q_T_next rfl
theorem b_X5_odds_55 : q_T md d qP_X5_odds 55 [] ls st g M Q = q_T md d qP_X5_odds 61 [.iload 6, .iload 2, .if_icmp .ge (92)] ls st g M Q := q_T_next rfl
theorem b_X5_odds_61 : q_T md d qP_X5_odds 61 [] ls st g M Q = q_T md d qP_X5_odds 83 [.aload 0, .iload 1, .iload 6, .iadd, .invokestatic 107, .aload 0, .getfield 504, .getfield 400, .invokestatic 3, .iload 3, .if_icmp .gt (86)] ls st g M Q := q_T_next rfl
theorem b_X5_odds_83 : q_T md d qP_X5_odds 83 [] ls st g M Q = q_T md d qP_X5_odds 86 [.iinc 5 (1)] ls st g M Q := q_T_next rfl
theorem b_X5_odds_86 : q_T md d qP_X5_odds 86 [] ls st g M Q = q_T md d qP_X5_odds 92 [.iinc 6 (1), .goto (55)] ls st g M Q := q_T_next rfl
theorem b_X5_odds_92 : q_T md d qP_X5_odds 92 [] ls st g M Q = q_T md d qP_X5_odds 101 [.iload 5, .iload 2, .iload 4, .invokestatic 108, .lreturn] ls st g M Q := q_T_next rfl
theorem s_X5_image {w : Nat} : q_S md d 91 [qR 5 w] g M Q = q_T md d qP_X5_image 0 [] [qR 5 w] [] g M Q := rfl
theorem b_X5_image_0 : q_T md d qP_X5_image 0 [] ls st g M Q = q_T md d qP_X5_image 27 [.aload 0, .getfield 505, .aload 0, .getfield 503, .invokestatic 49, .aload 0, .iconst (1), .putfield 506, .aload 0, .getfield 505, .getfield 400, .getfield 5, .ret 0] ls st g M Q := q_T_next rfl
theorem s_X5_back {w : Nat} : q_S md d 92 [qR 5 w] g M Q = q_T md d qP_X5_back 0 [] [qR 5 w] [] g M Q := rfl
theorem b_X5_back_0 : q_T md d qP_X5_back 0 [] ls st g M Q = q_T md d qP_X5_back 7 [.aload 0, .getfield 506, .ifCond .ne (10)] ls st g M Q := q_T_next rfl
theorem b_X5_back_7 : q_T md d qP_X5_back 7 [] ls st g M Q = q_T md d qP_X5_back 10 [.iconst (-3), .ret 0] ls st g M Q := q_T_next rfl
theorem b_X5_back_10 : q_T md d qP_X5_back 10 [] ls st g M Q = q_T md d qP_X5_back 32 [.aload 0, .getfield 503, .aload 0, .getfield 505, .invokestatic 49, .aload 0, .getfield 503, .getfield 400, .getfield 5, .ret 0] ls st g M Q := q_T_next rfl
theorem s_X5_sheet {w : Nat} {x0 : Int} {x1 : Int} {x2 : Int} : q_S md d 93 [qR 5 w, qI x0, qI x1, qI x2] g M Q = q_T md d qP_X5_sheet 0 [] [qR 5 w, qI x0, qI x1, qI x2] [] g M Q := rfl
theorem b_X5_sheet_0 : q_T md d qP_X5_sheet 0 [] ls st g M Q = q_T md d qP_X5_sheet 7 [.iload 1, .invokestatic 101, .ifCond .eq (17)] ls st g M Q := q_T_next rfl
theorem b_X5_sheet_7 : q_T md d qP_X5_sheet 7 [] ls st g M Q = q_T md d qP_X5_sheet 12 [.iload 2, .iconst (-1), .if_icmp .lt (17)] ls st g M Q := q_T_next rfl
theorem b_X5_sheet_12 : q_T md d qP_X5_sheet 12 [] ls st g M Q = q_T md d qP_X5_sheet 17 [.iload 2, .iconst (2), .if_icmp .le (20)] ls st g M Q := q_T_next rfl
theorem b_X5_sheet_17 : q_T md d qP_X5_sheet 17 [] ls st g M Q = q_T md d qP_X5_sheet 20 [.iconst (-2), .ret 0] ls st g M Q := q_T_next rfl
theorem b_X5_sheet_20 : q_T md d qP_X5_sheet 20 [] ls st g M Q = q_T md d qP_X5_sheet 25 [.iload 2, .iconst (-1), .if_icmp .ne (38)] ls st g M Q := q_T_next rfl
theorem b_X5_sheet_25 : q_T md d qP_X5_sheet 25 [] ls st g M Q = q_T md d qP_X5_sheet 38 [.aload 0, .getfield 507, .iload 1, .aaload, .iload 2, .iconst (0), .invokestatic 44, .iconst (1), .ret 0] ls st g M Q := q_T_next rfl
theorem b_X5_sheet_38 : q_T md d qP_X5_sheet 38 [] ls st g M Q = q_T md d qP_X5_sheet 44 [.iload 3, .iconst (40), .if_icmp .le (47)] ls st g M Q := q_T_next rfl
theorem b_X5_sheet_44 : q_T md d qP_X5_sheet 44 [] ls st g M Q = q_T md d qP_X5_sheet 47 [.iconst (-2), .ret 0] ls st g M Q := q_T_next rfl
theorem b_X5_sheet_47 : q_T md d qP_X5_sheet 47 [] ls st g M Q = q_T md d qP_X5_sheet 51 [.iload 3, .ifCond .ge (54)] ls st g M Q := q_T_next rfl
theorem b_X5_sheet_51 : q_T md d qP_X5_sheet 51 [] ls st g M Q = q_T md d qP_X5_sheet 54 [.iconst (-14), .ret 0] ls st g M Q := q_T_next rfl
theorem b_X5_sheet_54 : q_T md d qP_X5_sheet 54 [] ls st g M Q = q_T md d qP_X5_sheet 67 [.aload 0, .getfield 507, .iload 1, .aaload, .iload 2, .iload 3, .invokestatic 44, .iconst (1), .ret 0] ls st g M Q := q_T_next rfl
theorem s_X5_cell {w : Nat} {x0 : Int} {x1 : Int} {x2 : Int} : q_S md d 94 [qR 5 w, qI x0, qI x1, qI x2] g M Q = q_T md d qP_X5_cell 0 [] [qR 5 w, qI x0, qI x1, qI x2] [] g M Q := rfl
theorem b_X5_cell_0 : q_T md d qP_X5_cell 0 [] ls st g M Q = q_T md d qP_X5_cell 7 [.iload 1, .invokestatic 101, .ifCond .ne (10)] ls st g M Q := q_T_next rfl
theorem b_X5_cell_7 : q_T md d qP_X5_cell 7 [] ls st g M Q = q_T md d qP_X5_cell 10 [.iconst (-2), .ret 0] ls st g M Q := q_T_next rfl
theorem b_X5_cell_10 : q_T md d qP_X5_cell 10 [] ls st g M Q = q_T md d qP_X5_cell 22 [.aload 0, .getfield 507, .iload 1, .aaload, .invokestatic 43, .ifCond .eq (25)] ls st g M Q := q_T_next rfl
theorem b_X5_cell_22 : q_T md d qP_X5_cell 22 [] ls st g M Q = q_T md d qP_X5_cell 25 [.iconst (-11), .ret 0] ls st g M Q := q_T_next rfl
theorem b_X5_cell_25 : q_T md d qP_X5_cell 25 [] ls st g M Q = q_T md d qP_X5_cell 29 [.iload 2, .ifCond .lt (42)] ls st g M Q := q_T_next rfl
theorem b_X5_cell_29 : q_T md d qP_X5_cell 29 [] ls st g M Q = q_T md d qP_X5_cell 42 [.iload 2, .aload 0, .getfield 507, .iload 1, .aaload, .getfield 202, .if_icmp .lt (45)] ls st g M Q := q_T_next rfl
theorem b_X5_cell_42 : q_T md d qP_X5_cell 42 [] ls st g M Q = q_T md d qP_X5_cell 45 [.iconst (-12), .ret 0] ls st g M Q := q_T_next rfl
theorem b_X5_cell_45 : q_T md d qP_X5_cell 45 [] ls st g M Q = q_T md d qP_X5_cell 58 [.aload 0, .getfield 507, .iload 1, .aaload, .iload 2, .iload 3, .invokestatic 45, .iconst (1), .ret 0] ls st g M Q := q_T_next rfl
theorem s_X5_copy {w : Nat} {x0 : Int} {x1 : Int} {x2 : Int} {x3 : Int} {x4 : Int} : q_S md d 95 [qR 5 w, qI x0, qI x1, qI x2, qI x3, qI x4] g M Q = q_T md d qP_X5_copy 0 [] [qR 5 w, qI x0, qI x1, qI x2, qI x3, qI x4, qS 0, qS 0] [] g M Q := rfl
theorem b_X5_copy_0 : q_T md d qP_X5_copy 0 [] ls st g M Q = q_T md d qP_X5_copy 7 [.iload 1, .invokestatic 101, .ifCond .eq (14)] ls st g M Q := q_T_next rfl
theorem b_X5_copy_7 : q_T md d qP_X5_copy 7 [] ls st g M Q = q_T md d qP_X5_copy 14 [.iload 3, .invokestatic 101, .ifCond .ne (17)] ls st g M Q := q_T_next rfl
theorem b_X5_copy_14 : q_T md d qP_X5_copy 14 [] ls st g M Q = q_T md d qP_X5_copy 17 [.iconst (-2), .ret 0] ls st g M Q := q_T_next rfl
theorem b_X5_copy_17 : q_T md d qP_X5_copy 17 [] ls st g M Q = q_T md d qP_X5_copy 41 [.aload 0, .getfield 507, .iload 1, .aaload, .astore 6, .aload 0, .getfield 507, .iload 3, .aaload, .astore 7, .aload 6, .invokestatic 43, .ifCond .ne (49)] ls st g M Q := q_T_next rfl
theorem b_X5_copy_41 : q_T md d qP_X5_copy 41 [] ls st g M Q = q_T md d qP_X5_copy 49 [.aload 7, .invokestatic 43, .ifCond .eq (52)] ls st g M Q := q_T_next rfl
theorem b_X5_copy_49 : q_T md d qP_X5_copy 49 [] ls st g M Q = q_T md d qP_X5_copy 52 [.iconst (-11), .ret 0] ls st g M Q := q_T_next rfl
theorem b_X5_copy_52 : q_T md d qP_X5_copy 52 [] ls st g M Q = q_T md d qP_X5_copy 65 [.aload 6, .getfield 201, .aload 7, .getfield 201, .if_icmp .eq (68)] ls st g M Q := q_T_next rfl
theorem b_X5_copy_65 : q_T md d qP_X5_copy 65 [] ls st g M Q = q_T md d qP_X5_copy 68 [.iconst (-13), .ret 0] ls st g M Q := q_T_next rfl
theorem b_X5_copy_68 : q_T md d qP_X5_copy 68 [] ls st g M Q = q_T md d qP_X5_copy 73 [.iload 5, .ifCond .lt (107)] ls st g M Q := q_T_next rfl
theorem b_X5_copy_73 : q_T md d qP_X5_copy 73 [] ls st g M Q = q_T md d qP_X5_copy 77 [.iload 2, .ifCond .lt (107)] ls st g M Q := q_T_next rfl
theorem b_X5_copy_77 : q_T md d qP_X5_copy 77 [] ls st g M Q = q_T md d qP_X5_copy 82 [.iload 4, .ifCond .lt (107)] ls st g M Q := q_T_next rfl
theorem b_X5_copy_82 : q_T md d qP_X5_copy 82 [] ls st g M Q = q_T md d qP_X5_copy 94 [.iload 2, .aload 6, .getfield 202, .iload 5, .isub, .if_icmp .gt (107)] ls st g M Q := q_T_next rfl
theorem b_X5_copy_94 : q_T md d qP_X5_copy 94 [] ls st g M Q = q_T md d qP_X5_copy 107 [.iload 4, .aload 7, .getfield 202, .iload 5, .isub, .if_icmp .le (110)] ls st g M Q := q_T_next rfl
theorem b_X5_copy_107 : q_T md d qP_X5_copy 107 [] ls st g M Q = q_T md d qP_X5_copy 110 [.iconst (-12), .ret 0] ls st g M Q := q_T_next rfl
theorem b_X5_copy_110 : q_T md d qP_X5_copy 110 [] ls st g M Q = q_T md d qP_X5_copy 131 [.aload 6, .getfield 200, .iload 2, .aload 7, .getfield 200, .iload 4, .iload 5, .monitorexit, .iload 5, .ret 0] ls st g M Q := q_T_next rfl
theorem s_X5_stonesBy {w : Nat} {x0 : Int} {x1 : Int} {x2 : Int} {x3 : Int} : q_S md d 96 [qR 5 w, qI x0, qI x1, qI x2, qI x3] g M Q = q_T md d qP_X5_stonesBy 0 [] [qR 5 w, qI x0, qI x1, qI x2, qI x3, qS 0, qS 0, qS 0, qS 0] [] g M Q := rfl
theorem b_X5_stonesBy_0 : q_T md d qP_X5_stonesBy 0 [] ls st g M Q = q_T md d qP_X5_stonesBy 7 [.iload 1, .invokestatic 101, .ifCond .eq (27)] ls st g M Q := q_T_next rfl
theorem b_X5_stonesBy_7 : q_T md d qP_X5_stonesBy 7 [] ls st g M Q = q_T md d qP_X5_stonesBy 11 [.iload 2, .ifCond .lt (27)] ls st g M Q := q_T_next rfl
theorem b_X5_stonesBy_11 : q_T md d qP_X5_stonesBy 11 [] ls st g M Q = q_T md d qP_X5_stonesBy 16 [.iload 2, .iconst (2), .if_icmp .gt (27)] ls st g M Q := q_T_next rfl
theorem b_X5_stonesBy_16 : q_T md d qP_X5_stonesBy 16 [] ls st g M Q = q_T md d qP_X5_stonesBy 21 [.iload 4, .ifCond .lt (27)] ls st g M Q := q_T_next rfl
theorem b_X5_stonesBy_21 : q_T md d qP_X5_stonesBy 21 [] ls st g M Q = q_T md d qP_X5_stonesBy 27 [.iload 4, .iconst (5), .if_icmp .le (30)] ls st g M Q := q_T_next rfl
theorem b_X5_stonesBy_27 : q_T md d qP_X5_stonesBy 27 [] ls st g M Q = q_T md d qP_X5_stonesBy 30 [.iconst (-2), .ret 0] ls st g M Q := q_T_next rfl
theorem b_X5_stonesBy_30 : q_T md d qP_X5_stonesBy 30 [] ls st g M Q = q_T md d qP_X5_stonesBy 46 [.aload 0, .getfield 507, .iload 1, .aaload, .astore 5, .aload 5, .invokestatic 43, .ifCond .eq (49)] ls st g M Q := q_T_next rfl
theorem b_X5_stonesBy_46 : q_T md d qP_X5_stonesBy 46 [] ls st g M Q = q_T md d qP_X5_stonesBy 49 [.iconst (-11), .ret 0] ls st g M Q := q_T_next rfl
theorem b_X5_stonesBy_49 : q_T md d qP_X5_stonesBy 49 [] ls st g M Q = q_T md d qP_X5_stonesBy 58 [.aload 5, .getfield 201, .iload 2, .if_icmp .eq (61)] ls st g M Q := q_T_next rfl
theorem b_X5_stonesBy_58 : q_T md d qP_X5_stonesBy 58 [] ls st g M Q = q_T md d qP_X5_stonesBy 61 [.iconst (-13), .ret 0] ls st g M Q := q_T_next rfl
theorem b_X5_stonesBy_61 : q_T md d qP_X5_stonesBy 61 [] ls st g M Q = q_T md d qP_X5_stonesBy 66 [.iload 4, .ifCond .le (73)] ls st g M Q := q_T_next rfl
theorem b_X5_stonesBy_66 : q_T md d qP_X5_stonesBy 66 [] ls st g M Q = q_T md d qP_X5_stonesBy 70 [.iload 3, .ifCond .ge (73)] ls st g M Q := q_T_next rfl
theorem b_X5_stonesBy_70 : q_T md d qP_X5_stonesBy 70 [] ls st g M Q = q_T md d qP_X5_stonesBy 73 [.iconst (-12), .ret 0] ls st g M Q := q_T_next rfl
theorem b_X5_stonesBy_73 : q_T md d qP_X5_stonesBy 73 [] ls st g M Q = q_T md d qP_X5_stonesBy 79 [.iconst (0), .istore 6, .iconst (0), .istore 7] ls st g M Q := q_T_next rfl
theorem b_X5_stonesBy_79 : q_T md d qP_X5_stonesBy 79 [] ls st g M Q = q_T md d qP_X5_stonesBy 86 [.iload 7, .iload 4, .if_icmp .ge (157)] ls st g M Q := q_T_next rfl
theorem b_X5_stonesBy_86 : q_T md d qP_X5_stonesBy 86 [] ls st g M Q = q_T md d qP_X5_stonesBy 102 [.iload 3, .aload 5, .getfield 202, .iconst (3), .iload 7, .imul, .isub, .iconst (3), .isub, .if_icmp .le (105)] ls st g M Q := q_T_next rfl
theorem b_X5_stonesBy_102 : q_T md d qP_X5_stonesBy 102 [] ls st g M Q = q_T md d qP_X5_stonesBy 105 [.iconst (-12), .ret 0] ls st g M Q := q_T_next rfl
theorem b_X5_stonesBy_105 : q_T md d qP_X5_stonesBy 105 [] ls st g M Q = q_T md d qP_X5_stonesBy 148 [.iload 3, .iconst (3), .iload 7, .imul, .iadd, .istore 8, .aload 0, .aload 5, .getfield 200, .iload 8, .iaload, .aload 5, .getfield 200, .iload 8, .iconst (1), .iadd, .iaload, .aload 5, .getfield 200, .iload 8, .iconst (2), .iadd, .iaload, .invokestatic 70, .ifCond .lt (151)] ls st g M Q := q_T_next rfl
theorem b_X5_stonesBy_148 : q_T md d qP_X5_stonesBy 148 [] ls st g M Q = q_T md d qP_X5_stonesBy 151 [.iinc 6 (1)] ls st g M Q := q_T_next rfl
theorem b_X5_stonesBy_151 : q_T md d qP_X5_stonesBy 151 [] ls st g M Q = q_T md d qP_X5_stonesBy 157 [.iinc 7 (1), .goto (79)] ls st g M Q := q_T_next rfl
theorem b_X5_stonesBy_157 : q_T md d qP_X5_stonesBy 157 [] ls st g M Q = q_T md d qP_X5_stonesBy 160 [.iload 6, .ret 0] ls st g M Q := q_T_next rfl
theorem s_X5_taken {w : Nat} {x0 : Int} {x1 : Int} : q_S md d 97 [qR 5 w, qI x0, qI x1] g M Q = q_T md d qP_X5_taken 0 [] [qR 5 w, qI x0, qI x1] [] g M Q := rfl
theorem b_X5_taken_0 : q_T md d qP_X5_taken 0 [] ls st g M Q = q_T md d qP_X5_taken 4 [.iload 2, .ifCond .lt (10)] ls st g M Q := q_T_next rfl
theorem b_X5_taken_4 : q_T md d qP_X5_taken 4 [] ls st g M Q = q_T md d qP_X5_taken 10 [.iload 2, .iconst (6), .if_icmp .le (13)] ls st g M Q := q_T_next rfl
theorem b_X5_taken_10 : q_T md d qP_X5_taken 10 [] ls st g M Q = q_T md d qP_X5_taken 13 [.iconst (-2), .ret 0] ls st g M Q := q_T_next rfl
theorem b_X5_taken_13 : q_T md d qP_X5_taken 13 [] ls st g M Q = q_T md d qP_X5_taken 17 [.iload 1, .ifCond .lt (23)] ls st g M Q := q_T_next rfl
theorem b_X5_taken_17 : q_T md d qP_X5_taken 17 [] ls st g M Q = q_T md d qP_X5_taken 23 [.iload 1, .iconst (10), .if_icmp .lt (26)] ls st g M Q := q_T_next rfl
theorem b_X5_taken_23 : q_T md d qP_X5_taken 23 [] ls st g M Q = q_T md d qP_X5_taken 26 [.iconst (-12), .ret 0] ls st g M Q := q_T_next rfl
theorem b_X5_taken_26 : q_T md d qP_X5_taken 26 [] ls st g M Q = q_T md d qP_X5_taken 31 [.iload 1, .iconst (5), .if_icmp .lt (54)] ls st g M Q := q_T_next rfl
theorem b_X5_taken_31 : q_T md d qP_X5_taken 31 [] ls st g M Q = q_T md d qP_X5_taken 37 [.iload 2, .iconst (6), .if_icmp .ne (51)] ls st g M Q := q_T_next rfl
theorem b_X5_taken_37 : q_T md d qP_X5_taken 37 [] ls st g M Q = q_T md d qP_X5_taken 51 [.aload 0, .getfield 503, .getfield 403, .iload 1, .iconst (5), .isub, .iaload, .goto (53)] ls st g M Q := q_T_next rfl
theorem b_X5_taken_51 : q_T md d qP_X5_taken 51 [] ls st g M Q = q_T md d qP_X5_taken 53 [.iconst (-13)] ls st g M Q := q_T_next rfl
theorem b_X5_taken_53 : q_T md d qP_X5_taken 53 [] ls st g M Q = q_T md d qP_X5_taken 54 [.ret 0] ls st g M Q := q_T_next rfl
theorem b_X5_taken_54 : q_T md d qP_X5_taken 54 [] ls st g M Q = q_T md d qP_X5_taken 62 [.aload 0, .iload 1, .invokestatic 98, .ifCond .ne (65)] ls st g M Q := q_T_next rfl
theorem b_X5_taken_62 : q_T md d qP_X5_taken 62 [] ls st g M Q = q_T md d qP_X5_taken 65 [.iconst (-11), .ret 0] ls st g M Q := q_T_next rfl
theorem b_X5_taken_65 : q_T md d qP_X5_taken 65 [] ls st g M Q = q_T md d qP_X5_taken 71 [.iload 2, .iconst (6), .if_icmp .eq (91)] ls st g M Q := q_T_next rfl
theorem b_X5_taken_71 : q_T md d qP_X5_taken 71 [] ls st g M Q = q_T md d qP_X5_taken 87 [.aload 0, .getfield 503, .getfield 404, .iload 1, .iaload, .iload 2, .invokestatic 103, .ifCond .eq (91)] ls st g M Q := q_T_next rfl
theorem b_X5_taken_87 : q_T md d qP_X5_taken 87 [] ls st g M Q = q_T md d qP_X5_taken 91 [.iload 1, .goto (93)] ls st g M Q := q_T_next rfl
theorem b_X5_taken_91 : q_T md d qP_X5_taken 91 [] ls st g M Q = q_T md d qP_X5_taken 93 [.iconst (-13)] ls st g M Q := q_T_next rfl
theorem b_X5_taken_93 : q_T md d qP_X5_taken 93 [] ls st g M Q = q_T md d qP_X5_taken 94 [.ret 0] ls st g M Q := q_T_next rfl
theorem s_X5_isStone {w : Nat} {x0 : Int} : q_S md d 98 [qR 5 w, qI x0] g M Q = q_T md d qP_X5_isStone 0 [] [qR 5 w, qI x0] [] g M Q := rfl
theorem b_X5_isStone_0 : q_T md d qP_X5_isStone 0 [] ls st g M Q = q_T md d qP_X5_isStone 4 [.iload 1, .ifCond .lt (22)] ls st g M Q := q_T_next rfl
theorem b_X5_isStone_4 : q_T md d qP_X5_isStone 4 [] ls st g M Q = q_T md d qP_X5_isStone 18 [.iload 1, .aload 0, .getfield 503, .getfield 400, .getfield 5, .if_icmp .ge (22)] ls st g M Q := q_T_next rfl
theorem b_X5_isStone_18 : q_T md d qP_X5_isStone 18 [] ls st g M Q = q_T md d qP_X5_isStone 22 [.iconst (1), .goto (23)] ls st g M Q := q_T_next rfl
theorem b_X5_isStone_22 : q_T md d qP_X5_isStone 22 [] ls st g M Q = q_T md d qP_X5_isStone 23 [.iconst (0)] ls st g M Q := q_T_next rfl
theorem b_X5_isStone_23 : q_T md d qP_X5_isStone 23 [] ls st g M Q = q_T md d qP_X5_isStone 24 [.ret 1] ls st g M Q := q_T_next rfl
theorem s_X5_isBuilding {x0 : Int} : q_S md d 99 [qI x0] g M Q = q_T md d qP_X5_isBuilding 0 [] [qI x0] [] g M Q := rfl
theorem b_X5_isBuilding_0 : q_T md d qP_X5_isBuilding 0 [] ls st g M Q = q_T md d qP_X5_isBuilding 4 [.iload 0, .ifCond .lt (13)] ls st g M Q := q_T_next rfl
theorem b_X5_isBuilding_4 : q_T md d qP_X5_isBuilding 4 [] ls st g M Q = q_T md d qP_X5_isBuilding 9 [.iload 0, .iconst (5), .if_icmp .ge (13)] ls st g M Q := q_T_next rfl
theorem b_X5_isBuilding_9 : q_T md d qP_X5_isBuilding 9 [] ls st g M Q = q_T md d qP_X5_isBuilding 13 [.iconst (1), .goto (14)] ls st g M Q := q_T_next rfl
theorem b_X5_isBuilding_13 : q_T md d qP_X5_isBuilding 13 [] ls st g M Q = q_T md d qP_X5_isBuilding 14 [.iconst (0)] ls st g M Q := q_T_next rfl
theorem b_X5_isBuilding_14 : q_T md d qP_X5_isBuilding 14 [] ls st g M Q = q_T md d qP_X5_isBuilding 15 [.ret 1] ls st g M Q := q_T_next rfl
theorem s_X5_orNone {x0 : Int} : q_S md d 100 [qI x0] g M Q = q_T md d qP_X5_orNone 0 [] [qI x0] [] g M Q := rfl
theorem b_X5_orNone_0 : q_T md d qP_X5_orNone 0 [] ls st g M Q = q_T md d qP_X5_orNone 5 [.iload 0, .iconst (5), .if_icmp .ne (9)] ls st g M Q := q_T_next rfl
theorem b_X5_orNone_5 : q_T md d qP_X5_orNone 5 [] ls st g M Q = q_T md d qP_X5_orNone 9 [.iconst (-1), .goto (10)] ls st g M Q := q_T_next rfl
theorem b_X5_orNone_9 : q_T md d qP_X5_orNone 9 [] ls st g M Q = q_T md d qP_X5_orNone 10 [.iload 0] ls st g M Q := q_T_next rfl
theorem b_X5_orNone_10 : q_T md d qP_X5_orNone 10 [] ls st g M Q = q_T md d qP_X5_orNone 11 [.ret 0] ls st g M Q := q_T_next rfl
theorem s_X5_isSheet {x0 : Int} : q_S md d 101 [qI x0] g M Q = q_T md d qP_X5_isSheet 0 [] [qI x0] [] g M Q := rfl
theorem b_X5_isSheet_0 : q_T md d qP_X5_isSheet 0 [] ls st g M Q = q_T md d qP_X5_isSheet 4 [.iload 0, .ifCond .lt (13)] ls st g M Q := q_T_next rfl
theorem b_X5_isSheet_4 : q_T md d qP_X5_isSheet 4 [] ls st g M Q = q_T md d qP_X5_isSheet 9 [.iload 0, .iconst (4), .if_icmp .ge (13)] ls st g M Q := q_T_next rfl
theorem b_X5_isSheet_9 : q_T md d qP_X5_isSheet 9 [] ls st g M Q = q_T md d qP_X5_isSheet 13 [.iconst (1), .goto (14)] ls st g M Q := q_T_next rfl
theorem b_X5_isSheet_13 : q_T md d qP_X5_isSheet 13 [] ls st g M Q = q_T md d qP_X5_isSheet 14 [.iconst (0)] ls st g M Q := q_T_next rfl
theorem b_X5_isSheet_14 : q_T md d qP_X5_isSheet 14 [] ls st g M Q = q_T md d qP_X5_isSheet 15 [.ret 1] ls st g M Q := q_T_next rfl
theorem s_X5_isByte {x0 : Int} : q_S md d 102 [qI x0] g M Q = q_T md d qP_X5_isByte 0 [] [qI x0] [] g M Q := rfl
theorem b_X5_isByte_0 : q_T md d qP_X5_isByte 0 [] ls st g M Q = q_T md d qP_X5_isByte 4 [.iload 0, .ifCond .lt (15)] ls st g M Q := q_T_next rfl
theorem b_X5_isByte_4 : q_T md d qP_X5_isByte 4 [] ls st g M Q = q_T md d qP_X5_isByte 11 [.iload 0, .iconst (255), .if_icmp .gt (15)] ls st g M Q := q_T_next rfl
theorem b_X5_isByte_11 : q_T md d qP_X5_isByte 11 [] ls st g M Q = q_T md d qP_X5_isByte 15 [.iconst (1), .goto (16)] ls st g M Q := q_T_next rfl
theorem b_X5_isByte_15 : q_T md d qP_X5_isByte 15 [] ls st g M Q = q_T md d qP_X5_isByte 16 [.iconst (0)] ls st g M Q := q_T_next rfl
theorem b_X5_isByte_16 : q_T md d qP_X5_isByte 16 [] ls st g M Q = q_T md d qP_X5_isByte 17 [.ret 1] ls st g M Q := q_T_next rfl
theorem s_X5_isOfKind {x0 : Int} {x1 : Int} : q_S md d 103 [qI x0, qI x1] g M Q = q_T md d qP_X5_isOfKind 0 [] [qI x0, qI x1] [] g M Q := rfl
theorem b_X5_isOfKind_0 : q_T md d qP_X5_isOfKind 0 [] ls st g M Q = q_T md d qP_X5_isOfKind 4 [.iload 1, .ifCond .eq (9)] ls st g M Q := q_T_next rfl
theorem b_X5_isOfKind_4 : q_T md d qP_X5_isOfKind 4 [] ls st g M Q = q_T md d qP_X5_isOfKind 9 [.iload 0, .iload 1, .if_icmp .ne (11)] ls st g M Q := q_T_next rfl
theorem b_X5_isOfKind_9 : q_T md d qP_X5_isOfKind 9 [] ls st g M Q = q_T md d qP_X5_isOfKind 11 [.iconst (1), .ret 1] ls st g M Q := q_T_next rfl
theorem b_X5_isOfKind_11 : q_T md d qP_X5_isOfKind 11 [] ls st g M Q = q_T md d qP_X5_isOfKind 16 [.iload 1, .iconst (1), .if_icmp .ne (21)] ls st g M Q := q_T_next rfl
theorem b_X5_isOfKind_16 : q_T md d qP_X5_isOfKind 16 [] ls st g M Q = q_T md d qP_X5_isOfKind 21 [.iload 0, .iconst (3), .if_icmp .eq (31)] ls st g M Q := q_T_next rfl
theorem b_X5_isOfKind_21 : q_T md d qP_X5_isOfKind 21 [] ls st g M Q = q_T md d qP_X5_isOfKind 26 [.iload 1, .iconst (2), .if_icmp .ne (35)] ls st g M Q := q_T_next rfl
theorem b_X5_isOfKind_26 : q_T md d qP_X5_isOfKind 26 [] ls st g M Q = q_T md d qP_X5_isOfKind 31 [.iload 0, .iconst (4), .if_icmp .ne (35)] ls st g M Q := q_T_next rfl
theorem b_X5_isOfKind_31 : q_T md d qP_X5_isOfKind 31 [] ls st g M Q = q_T md d qP_X5_isOfKind 35 [.iconst (1), .goto (36)] ls st g M Q := q_T_next rfl
theorem b_X5_isOfKind_35 : q_T md d qP_X5_isOfKind 35 [] ls st g M Q = q_T md d qP_X5_isOfKind 36 [.iconst (0)] ls st g M Q := q_T_next rfl
theorem b_X5_isOfKind_36 : q_T md d qP_X5_isOfKind 36 [] ls st g M Q = q_T md d qP_X5_isOfKind 37 [.ret 1] ls st g M Q := q_T_next rfl
theorem s_X5_refusalOfTold {w : Nat} {x0 : Int} : q_S md d 104 [qR 5 w, qI x0] g M Q = q_T md d qP_X5_refusalOfTold 0 [] [qR 5 w, qI x0] [] g M Q := rfl
theorem b_X5_refusalOfTold_0 : q_T md d qP_X5_refusalOfTold 0 [] ls st g M Q = q_T md d qP_X5_refusalOfTold 7 [.iload 1, .invokestatic 101, .ifCond .ne (10)] ls st g M Q := q_T_next rfl
theorem b_X5_refusalOfTold_7 : q_T md d qP_X5_refusalOfTold 7 [] ls st g M Q = q_T md d qP_X5_refusalOfTold 10 [.iconst (-2), .ret 0] ls st g M Q := q_T_next rfl
theorem b_X5_refusalOfTold_10 : q_T md d qP_X5_refusalOfTold 10 [] ls st g M Q = q_T md d qP_X5_refusalOfTold 22 [.aload 0, .getfield 507, .iload 1, .aaload, .invokestatic 43, .ifCond .eq (25)] ls st g M Q := q_T_next rfl
theorem b_X5_refusalOfTold_22 : q_T md d qP_X5_refusalOfTold 22 [] ls st g M Q = q_T md d qP_X5_refusalOfTold 25 [.iconst (-11), .ret 0] ls st g M Q := q_T_next rfl
theorem b_X5_refusalOfTold_25 : q_T md d qP_X5_refusalOfTold 25 [] ls st g M Q = q_T md d qP_X5_refusalOfTold 39 [.aload 0, .getfield 507, .iload 1, .aaload, .getfield 202, .iconst (20), .if_icmp .le (44)] ls st g M Q := q_T_next rfl
theorem b_X5_refusalOfTold_39 : q_T md d qP_X5_refusalOfTold 39 [] ls st g M Q = q_T md d qP_X5_refusalOfTold 44 [.iconst (-2), .goto (45)] ls st g M Q := q_T_next rfl
theorem b_X5_refusalOfTold_44 : q_T md d qP_X5_refusalOfTold 44 [] ls st g M Q = q_T md d qP_X5_refusalOfTold 45 [.iconst (0)] ls st g M Q := q_T_next rfl
theorem b_X5_refusalOfTold_45 : q_T md d qP_X5_refusalOfTold 45 [] ls st g M Q = q_T md d qP_X5_refusalOfTold 46 [.ret 0] ls st g M Q := q_T_next rfl
theorem s_X5_firstOtherwise {w : Nat} {x0 : Int} {x1 : Int} : q_S md d 105 [qR 5 w, qI x0, qI x1] g M Q = q_T md d qP_X5_firstOtherwise 0 [] [qR 5 w, qI x0, qI x1, qS 0, qS 0] [] g M Q := rfl
theorem b_X5_firstOtherwise_0 : q_T md d qP_X5_firstOtherwise 0 [] ls st g M Q = q_T md d qP_X5_firstOtherwise 10 [.aload 0, .getfield 507, .iload 1, .aaload, .astore 3, .iconst (0), .istore 4] ls st g M Q := q_T_next rfl
theorem b_X5_firstOtherwise_10 : q_T md d qP_X5_firstOtherwise 10 [] ls st g M Q = q_T md d qP_X5_firstOtherwise 19 [.iload 4, .aload 3, .getfield 202, .if_icmp .ge (55)] ls st g M Q := q_T_next rfl
theorem b_X5_firstOtherwise_19 : q_T md d qP_X5_firstOtherwise 19 [] ls st g M Q = q_T md d qP_X5_firstOtherwise 46 [.aload 0, .getfield 504, .invokestatic 59, .pop, .aload 0, .getfield 504, .getfield 406, .iload 2, .iaload, .aload 3, .getfield 200, .iload 4, .iaload, .if_icmp .eq (49)] ls st g M Q := q_T_next rfl
theorem b_X5_firstOtherwise_46 : q_T md d qP_X5_firstOtherwise 46 [] ls st g M Q = q_T md d qP_X5_firstOtherwise 49 [.iload 4, .ret 0] ls st g M Q := q_T_next rfl
theorem b_X5_firstOtherwise_49 : q_T md d qP_X5_firstOtherwise 49 [] ls st g M Q = q_T md d qP_X5_firstOtherwise 55 [.iinc 4 (1), .goto (10)] ls st g M Q := q_T_next rfl
theorem b_X5_firstOtherwise_55 : q_T md d qP_X5_firstOtherwise 55 [] ls st g M Q = q_T md d qP_X5_firstOtherwise 57 [.iconst (-1), .ret 0] ls st g M Q := q_T_next rfl
theorem s_X5_yearsTillIn {w : Nat} {x0 : Int} {x1 : Int} {x2 : Int} : q_S md d 106 [qR 5 w, qI x0, qI x1, qI x2] g M Q = q_T md d qP_X5_yearsTillIn 0 [] [qR 5 w, qI x0, qI x1, qI x2, qS 0, qS 0] [] g M Q := rfl
theorem b_X5_yearsTillIn_0 : q_T md d qP_X5_yearsTillIn 0 [] ls st g M Q = q_T md d qP_X5_yearsTillIn 3 [.iconst (0), .istore 4] ls st g M Q := q_T_next rfl
theorem b_X5_yearsTillIn_3 : q_T md d qP_X5_yearsTillIn 3 [] ls st g M Q = q_T md d qP_X5_yearsTillIn 9 [.iload 4, .iload 3, .if_icmp .gt (65)] ls st g M Q := q_T_next rfl
theorem b_X5_yearsTillIn_9 : q_T md d qP_X5_yearsTillIn 9 [] ls st g M Q = q_T md d qP_X5_yearsTillIn 14 [.iload 4, .ifCond .le (22)] ls st g M Q := q_T_next rfl
theorem b_X5_yearsTillIn_14 : q_T md d qP_X5_yearsTillIn 14 [] ls st g M Q = q_T md d qP_X5_yearsTillIn 22 [.aload 0, .getfield 504, .invokestatic 59, .pop] ls st g M Q := q_T_next rfl
theorem b_X5_yearsTillIn_22 : q_T md d qP_X5_yearsTillIn 22 [] ls st g M Q = q_T md d qP_X5_yearsTillIn 41 [.aload 0, .getfield 504, .getfield 400, .getfield 1, .iload 1, .iaload, .istore 5, .iload 2, .iconst (-1), .if_icmp .ne (50)] ls st g M Q := q_T_next rfl
theorem b_X5_yearsTillIn_41 : q_T md d qP_X5_yearsTillIn 41 [] ls st g M Q = q_T md d qP_X5_yearsTillIn 47 [.iload 5, .iconst (5), .if_icmp .eq (59)] ls st g M Q := q_T_next rfl
theorem b_X5_yearsTillIn_47 : q_T md d qP_X5_yearsTillIn 47 [] ls st g M Q = q_T md d qP_X5_yearsTillIn 50 [.goto (56)] ls st g M Q := q_T_next rfl
theorem b_X5_yearsTillIn_50 : q_T md d qP_X5_yearsTillIn 50 [] ls st g M Q = q_T md d qP_X5_yearsTillIn 56 [.iload 5, .iload 2, .if_icmp .ne (59)] ls st g M Q := q_T_next rfl
theorem b_X5_yearsTillIn_56 : q_T md d qP_X5_yearsTillIn 56 [] ls st g M Q = q_T md d qP_X5_yearsTillIn 59 [.iload 4, .ret 0] ls st g M Q := q_T_next rfl
theorem b_X5_yearsTillIn_59 : q_T md d qP_X5_yearsTillIn 59 [] ls st g M Q = q_T md d qP_X5_yearsTillIn 65 [.iinc 4 (1), .goto (3)] ls st g M Q := q_T_next rfl
theorem b_X5_yearsTillIn_65 : q_T md d qP_X5_yearsTillIn 65 [] ls st g M Q = q_T md d qP_X5_yearsTillIn 67 [.iconst (-1), .ret 0] ls st g M Q := q_T_next rfl
theorem s_X5_passWeather {w : Nat} {x0 : Int} : q_S md d 107 [qR 5 w, qI x0] g M Q = q_T md d qP_X5_passWeather 0 [] [qR 5 w, qI x0, qS 0, qS 0, qS 0, qS 0] [] g M Q := rfl
theorem b_X5_passWeather_0 : q_T md d qP_X5_passWeather 0 [] ls st g M Q = q_T md d qP_X5_passWeather 19 [.aload 0, .getfield 504, .aload 0, .getfield 503, .invokestatic 49, .iload 1, .i2l, .jsr (1), .ladd, .lstore 2, .iconst (0), .istore 4] ls st g M Q := q_T_next rfl
theorem b_X5_passWeather_19 : q_T md d qP_X5_passWeather 19 [] ls st g M Q = q_T md d qP_X5_passWeather 26 [.iload 4, .iconst (8), .if_icmp .ge (92)] ls st g M Q := q_T_next rfl
theorem b_X5_passWeather_26 : q_T md d qP_X5_passWeather 26 [] ls st g M Q = q_T md d qP_X5_passWeather 63 [.lload 2, .jsr (48271), .lmul, .jsr (2147483647), .lrem, .lstore 2, .lload 2, .jsr (5), .lrem, .l2i, .istore 5, .lload 2, .jsr (48271), .lmul, .jsr (2147483647), .lrem, .lstore 2, .aload 0, .iload 5, .invokestatic 98, .ifCond .eq (78)] ls st g M Q := q_T_next rfl
theorem b_X5_passWeather_63 : q_T md d qP_X5_passWeather 63 [] ls st g M Q = q_T md d qP_X5_passWeather 78 [.aload 0, .getfield 504, .iload 5, .lload 2, .jsr (100), .lrem, .l2i, .invokestatic 51] ls st g M Q := q_T_next rfl
theorem b_X5_passWeather_78 : q_T md d qP_X5_passWeather 78 [] ls st g M Q = q_T md d qP_X5_passWeather 92 [.aload 0, .getfield 504, .invokestatic 59, .pop, .iinc 4 (1), .goto (19)] ls st g M Q := q_T_next rfl
theorem b_X5_passWeather_92 : q_T md d qP_X5_passWeather 92 [] ls st g M Q = q_T md d qP_X5_passWeather 93 [.return_] ls st g M Q := q_T_next rfl
theorem s_X5_inLowestTerms {x0 : Int} {x1 : Int} {x2 : Int} : q_S md d 108 [qI x0, qI x1, qI x2] g M Q = q_T md d qP_X5_inLowestTerms 0 [] [qI x0, qI x1, qI x2, qS 0, qS 0] [] g M Q := rfl
theorem b_X5_inLowestTerms_0 : q_T md d qP_X5_inLowestTerms 0 [] ls st g M Q = q_T md d qP_X5_inLowestTerms 4 [.iload 1, .ifCond .ne (8)] ls st g M Q := q_T_next rfl
theorem b_X5_inLowestTerms_4 : q_T md d qP_X5_inLowestTerms 4 [] ls st g M Q = q_T md d qP_X5_inLowestTerms 8 [.jsr (-4611686018427387904), .lreturn] ls st g M Q := q_T_next rfl
theorem b_X5_inLowestTerms_8 : q_T md d qP_X5_inLowestTerms 8 [] ls st g M Q = q_T md d qP_X5_inLowestTerms 13 [.iconst (1), .istore 3, .iconst (2), .istore 4] ls st g M Q := q_T_next rfl
theorem b_X5_inLowestTerms_13 : q_T md d qP_X5_inLowestTerms 13 [] ls st g M Q = q_T md d qP_X5_inLowestTerms 19 [.iload 4, .iload 1, .if_icmp .gt (42)] ls st g M Q := q_T_next rfl
theorem b_X5_inLowestTerms_19 : q_T md d qP_X5_inLowestTerms 19 [] ls st g M Q = q_T md d qP_X5_inLowestTerms 26 [.iload 0, .iload 4, .irem, .ifCond .ne (36)] ls st g M Q := q_T_next rfl
theorem b_X5_inLowestTerms_26 : q_T md d qP_X5_inLowestTerms 26 [] ls st g M Q = q_T md d qP_X5_inLowestTerms 33 [.iload 1, .iload 4, .irem, .ifCond .ne (36)] ls st g M Q := q_T_next rfl
theorem b_X5_inLowestTerms_33 : q_T md d qP_X5_inLowestTerms 33 [] ls st g M Q = q_T md d qP_X5_inLowestTerms 36 [.iload 4, .istore 3] ls st g M Q := q_T_next rfl
theorem b_X5_inLowestTerms_36 : q_T md d qP_X5_inLowestTerms 36 [] ls st g M Q = q_T md d qP_X5_inLowestTerms 42 [.iinc 4 (1), .goto (13)] ls st g M Q := q_T_next rfl
theorem b_X5_inLowestTerms_42 : q_T md d qP_X5_inLowestTerms 42 [] ls st g M Q = q_T md d qP_X5_inLowestTerms 46 [.iload 2, .ifCond .ne (50)] ls st g M Q := q_T_next rfl
theorem b_X5_inLowestTerms_46 : q_T md d qP_X5_inLowestTerms 46 [] ls st g M Q = q_T md d qP_X5_inLowestTerms 50 [.iload 0, .goto (51)] ls st g M Q := q_T_next rfl
theorem b_X5_inLowestTerms_50 : q_T md d qP_X5_inLowestTerms 50 [] ls st g M Q = q_T md d qP_X5_inLowestTerms 51 [.iload 1] ls st g M Q := q_T_next rfl
theorem b_X5_inLowestTerms_51 : q_T md d qP_X5_inLowestTerms 51 [] ls st g M Q = q_T md d qP_X5_inLowestTerms 55 [.iload 3, .idiv, .i2l, .lreturn] ls st g M Q := q_T_next rfl
theorem s_J9_abs_0f7a4 {x0 : Int} : q_S md d 206 [qI x0] g M Q = q_T md d qP_J9_abs_0f7a4 0 [] [qI x0] [] g M Q := rfl
theorem b_J9_abs_0f7a4_0 : q_T md d qP_J9_abs_0f7a4 0 [] ls st g M Q = q_T md d qP_J9_abs_0f7a4 4 [.iload 0, .ifCond .ge (9)] ls st g M Q := q_T_next rfl
theorem b_J9_abs_0f7a4_4 : q_T md d qP_J9_abs_0f7a4 4 [] ls st g M Q = q_T md d qP_J9_abs_0f7a4 9 [.iload 0, .ineg, .goto (10)] ls st g M Q := q_T_next rfl
theorem b_J9_abs_0f7a4_9 : q_T md d qP_J9_abs_0f7a4 9 [] ls st g M Q = q_T md d qP_J9_abs_0f7a4 10 [.iload 0] ls st g M Q := q_T_next rfl
theorem b_J9_abs_0f7a4_10 : q_T md d qP_J9_abs_0f7a4 10 [] ls st g M Q = q_T md d qP_J9_abs_0f7a4 11 [.ret 0] ls st g M Q := q_T_next rfl
theorem s_J9_max_7cf53 {x0 : Int} {x1 : Int} : q_S md d 207 [qI x0, qI x1] g M Q = q_T md d qP_J9_max_7cf53 0 [] [qI x0, qI x1] [] g M Q := rfl
theorem b_J9_max_7cf53_0 : q_T md d qP_J9_max_7cf53 0 [] ls st g M Q = q_T md d qP_J9_max_7cf53 5 [.iload 0, .iload 1, .if_icmp .lt (9)] ls st g M Q := q_T_next rfl
theorem b_J9_max_7cf53_5 : q_T md d qP_J9_max_7cf53 5 [] ls st g M Q = q_T md d qP_J9_max_7cf53 9 [.iload 0, .goto (10)] ls st g M Q := q_T_next rfl
theorem b_J9_max_7cf53_9 : q_T md d qP_J9_max_7cf53 9 [] ls st g M Q = q_T md d qP_J9_max_7cf53 10 [.iload 1] ls st g M Q := q_T_next rfl
theorem b_J9_max_7cf53_10 : q_T md d qP_J9_max_7cf53 10 [] ls st g M Q = q_T md d qP_J9_max_7cf53 11 [.ret 0] ls st g M Q := q_T_next rfl
theorem s_J9_min_7cf53 {x0 : Int} {x1 : Int} : q_S md d 208 [qI x0, qI x1] g M Q = q_T md d qP_J9_min_7cf53 0 [] [qI x0, qI x1] [] g M Q := rfl
theorem b_J9_min_7cf53_0 : q_T md d qP_J9_min_7cf53 0 [] ls st g M Q = q_T md d qP_J9_min_7cf53 5 [.iload 0, .iload 1, .if_icmp .gt (9)] ls st g M Q := q_T_next rfl
theorem b_J9_min_7cf53_5 : q_T md d qP_J9_min_7cf53 5 [] ls st g M Q = q_T md d qP_J9_min_7cf53 9 [.iload 0, .goto (10)] ls st g M Q := q_T_next rfl
theorem b_J9_min_7cf53_9 : q_T md d qP_J9_min_7cf53 9 [] ls st g M Q = q_T md d qP_J9_min_7cf53 10 [.iload 1] ls st g M Q := q_T_next rfl
theorem b_J9_min_7cf53_10 : q_T md d qP_J9_min_7cf53 10 [] ls st g M Q = q_T md d qP_J9_min_7cf53 11 [.ret 0] ls st g M Q := q_T_next rfl
end BLK
end
section
section BLK
variable {md d : Nat} {ls st : List q_V} {g : q_G} {M : q_M} {Q : Option q_V → q_G → q_M → Prop}
theorem s_X6_in {x0 : Int} {x1 : Int} {x2 : Int} : q_S md d 110 [qI x0, qI x1, qI x2] g M Q = q_T md d qP_X6_in 0 [] [qI x0, qI x1, qI x2] [] g M Q := rfl
theorem b_X6_in_0 : q_T md d qP_X6_in 0 [] ls st g M Q = q_T md d qP_X6_in 5 [.iload 0, .iload 1, .if_icmp .lt (14)] ls st g M Q := q_T_next rfl
theorem b_X6_in_5 : q_T md d qP_X6_in 5 [] ls st g M Q = q_T md d qP_X6_in 10 [.iload 0, .iload 2, .if_icmp .gt (14)] ls st g M Q := q_T_next rfl
theorem b_X6_in_10 : q_T md d qP_X6_in 10 [] ls st g M Q = q_T md d qP_X6_in 14 [.iconst (1), .goto (15)] ls st g M Q := q_T_next rfl
theorem b_X6_in_14 : q_T md d qP_X6_in 14 [] ls st g M Q = q_T md d qP_X6_in 15 [.iconst (0)] ls st g M Q := q_T_next rfl
theorem b_X6_in_15 : q_T md d qP_X6_in 15 [] ls st g M Q = q_T md d qP_X6_in 16 [.ret 1] ls st g M Q := q_T_next rfl
theorem s_X6_within {x0 : Int} {x1 : Int} {x2 : Int} : q_S md d 111 [qI x0, qI x1, qI x2] g M Q = q_T md d qP_X6_within 0 [] [qI x0, qI x1, qI x2] [] g M Q := rfl
theorem b_X6_within_0 : q_T md d qP_X6_within 0 [] ls st g M Q = q_T md d qP_X6_within 5 [.iload 0, .iload 1, .if_icmp .ge (9)] ls st g M Q := q_T_next rfl
theorem b_X6_within_5 : q_T md d qP_X6_within 5 [] ls st g M Q = q_T md d qP_X6_within 9 [.iload 1, .goto (19)] ls st g M Q := q_T_next rfl
theorem b_X6_within_9 : q_T md d qP_X6_within 9 [] ls st g M Q = q_T md d qP_X6_within 14 [.iload 0, .iload 2, .if_icmp .le (18)] ls st g M Q := q_T_next rfl
theorem b_X6_within_14 : q_T md d qP_X6_within 14 [] ls st g M Q = q_T md d qP_X6_within 18 [.iload 2, .goto (19)] ls st g M Q := q_T_next rfl
theorem b_X6_within_18 : q_T md d qP_X6_within 18 [] ls st g M Q = q_T md d qP_X6_within 19 [.iload 0] ls st g M Q := q_T_next rfl
theorem b_X6_within_19 : q_T md d qP_X6_within 19 [] ls st g M Q = q_T md d qP_X6_within 20 [.ret 0] ls st g M Q := q_T_next rfl
theorem s_X6_isStone {w : Nat} {x0 : Int} : q_S md d 112 [qR 6 w, qI x0] g M Q = q_T md d qP_X6_isStone 0 [] [qR 6 w, qI x0] [] g M Q := rfl
theorem b_X6_isStone_0 : q_T md d qP_X6_isStone 0 [] ls st g M Q = q_T md d qP_X6_isStone 12 [.iload 1, .iconst (0), .aload 0, .getfield 600, .iconst (1), .isub, .invokestatic 110, .ret 1] ls st g M Q := q_T_next rfl
theorem s_X6_isSite {x0 : Int} : q_S md d 113 [qI x0] g M Q = q_T md d qP_X6_isSite 0 [] [qI x0] [] g M Q := rfl
theorem b_X6_isSite_0 : q_T md d qP_X6_isSite 0 [] ls st g M Q = q_T md d qP_X6_isSite 7 [.iload 0, .iconst (0), .iconst (4), .invokestatic 110, .ret 1] ls st g M Q := q_T_next rfl
theorem s_X6_outside {w : Nat} : q_S md d 114 [qR 6 w] g M Q = q_T md d qP_X6_outside 0 [] [qR 6 w, qS 0, qS 0] [] g M Q := rfl
theorem b_X6_outside_0 : q_T md d qP_X6_outside 0 [] ls st g M Q = q_T md d qP_X6_outside 4 [.iconst (0), .istore 1, .iconst (0), .istore 2] ls st g M Q := q_T_next rfl
theorem b_X6_outside_4 : q_T md d qP_X6_outside 4 [] ls st g M Q = q_T md d qP_X6_outside 12 [.iload 2, .aload 0, .getfield 600, .if_icmp .ge (40)] ls st g M Q := q_T_next rfl
theorem b_X6_outside_12 : q_T md d qP_X6_outside 12 [] ls st g M Q = q_T md d qP_X6_outside 27 [.iload 1, .aload 0, .getfield 604, .iconst (3), .iload 2, .imul, .iconst (2), .iadd, .iaload, .iconst (-1), .if_icmp .ne (31)] ls st g M Q := q_T_next rfl
theorem b_X6_outside_27 : q_T md d qP_X6_outside 27 [] ls st g M Q = q_T md d qP_X6_outside 31 [.iconst (1), .goto (32)] ls st g M Q := q_T_next rfl
theorem b_X6_outside_31 : q_T md d qP_X6_outside 31 [] ls st g M Q = q_T md d qP_X6_outside 32 [.iconst (0)] ls st g M Q := q_T_next rfl
theorem b_X6_outside_32 : q_T md d qP_X6_outside 32 [] ls st g M Q = q_T md d qP_X6_outside 40 [.iadd, .istore 1, .iinc 2 (1), .goto (4)] ls st g M Q := q_T_next rfl
theorem b_X6_outside_40 : q_T md d qP_X6_outside 40 [] ls st g M Q = q_T md d qP_X6_outside 42 [.iload 1, .ret 0] ls st g M Q := q_T_next rfl
theorem s_X6_whoIn {w : Nat} {x0 : Int} : q_S md d 115 [qR 6 w, qI x0] g M Q = q_T md d qP_X6_whoIn 0 [] [qR 6 w, qI x0, qS 0, qS 0] [] g M Q := rfl
theorem b_X6_whoIn_0 : q_T md d qP_X6_whoIn 0 [] ls st g M Q = q_T md d qP_X6_whoIn 4 [.iconst (0), .istore 2, .iconst (0), .istore 3] ls st g M Q := q_T_next rfl
theorem b_X6_whoIn_4 : q_T md d qP_X6_whoIn 4 [] ls st g M Q = q_T md d qP_X6_whoIn 12 [.iload 3, .aload 0, .getfield 600, .if_icmp .ge (42)] ls st g M Q := q_T_next rfl
theorem b_X6_whoIn_12 : q_T md d qP_X6_whoIn 12 [] ls st g M Q = q_T md d qP_X6_whoIn 27 [.iload 2, .aload 0, .getfield 604, .iconst (3), .iload 3, .imul, .iconst (2), .iadd, .iaload, .iload 1, .if_icmp .ne (33)] ls st g M Q := q_T_next rfl
theorem b_X6_whoIn_27 : q_T md d qP_X6_whoIn 27 [] ls st g M Q = q_T md d qP_X6_whoIn 33 [.iconst (1), .iload 3, .ishl, .goto (34)] ls st g M Q := q_T_next rfl
theorem b_X6_whoIn_33 : q_T md d qP_X6_whoIn 33 [] ls st g M Q = q_T md d qP_X6_whoIn 34 [.iconst (0)] ls st g M Q := q_T_next rfl
theorem b_X6_whoIn_34 : q_T md d qP_X6_whoIn 34 [] ls st g M Q = q_T md d qP_X6_whoIn 42 [.ior, .istore 2, .iinc 3 (1), .goto (4)] ls st g M Q := q_T_next rfl
theorem b_X6_whoIn_42 : q_T md d qP_X6_whoIn 42 [] ls st g M Q = q_T md d qP_X6_whoIn 44 [.iload 2, .ret 0] ls st g M Q := q_T_next rfl
theorem s_X6_onesOf {x0 : Int} : q_S md d 116 [qI x0] g M Q = q_T md d qP_X6_onesOf 0 [] [qI x0, qS 0, qS 0] [] g M Q := rfl
theorem b_X6_onesOf_0 : q_T md d qP_X6_onesOf 0 [] ls st g M Q = q_T md d qP_X6_onesOf 4 [.iconst (0), .istore 1, .iconst (0), .istore 2] ls st g M Q := q_T_next rfl
theorem b_X6_onesOf_4 : q_T md d qP_X6_onesOf 4 [] ls st g M Q = q_T md d qP_X6_onesOf 9 [.iload 2, .iconst (5), .if_icmp .ge (23)] ls st g M Q := q_T_next rfl
theorem b_X6_onesOf_9 : q_T md d qP_X6_onesOf 9 [] ls st g M Q = q_T md d qP_X6_onesOf 23 [.iload 1, .iload 0, .iload 2, .ishr, .iconst (1), .iand, .iadd, .istore 1, .iinc 2 (1), .goto (4)] ls st g M Q := q_T_next rfl
theorem b_X6_onesOf_23 : q_T md d qP_X6_onesOf 23 [] ls st g M Q = q_T md d qP_X6_onesOf 25 [.iload 1, .ret 0] ls st g M Q := q_T_next rfl
theorem s_X6_count {w : Nat} {x0 : Int} : q_S md d 117 [qR 6 w, qI x0] g M Q = q_T md d qP_X6_count 0 [] [qR 6 w, qI x0] [] g M Q := rfl
theorem b_X6_count_0 : q_T md d qP_X6_count 0 [] ls st g M Q = q_T md d qP_X6_count 40 [.iload 1, .tableswitch (70) (0) (5) #[40, 45, 50, 55, 60, 65]] ls st g M Q := q_T_next rfl
theorem b_X6_count_40 : q_T md d qP_X6_count 40 [] ls st g M Q = q_T md d qP_X6_count 45 [.aload 0, .getfield 600, .ret 0] ls st g M Q := q_T_next rfl
theorem b_X6_count_45 : q_T md d qP_X6_count 45 [] ls st g M Q = q_T md d qP_X6_count 50 [.aload 0, .getfield 605, .ret 0] ls st g M Q := q_T_next rfl
theorem b_X6_count_50 : q_T md d qP_X6_count 50 [] ls st g M Q = q_T md d qP_X6_count 55 [.aload 0, .invokestatic 114, .ret 0] ls st g M Q := q_T_next rfl
theorem b_X6_count_55 : q_T md d qP_X6_count 55 [] ls st g M Q = q_T md d qP_X6_count 60 [.aload 0, .getfield 610, .ret 0] ls st g M Q := q_T_next rfl
theorem b_X6_count_60 : q_T md d qP_X6_count 60 [] ls st g M Q = q_T md d qP_X6_count 65 [.aload 0, .getfield 611, .ret 0] ls st g M Q := q_T_next rfl
theorem b_X6_count_65 : q_T md d qP_X6_count 65 [] ls st g M Q = q_T md d qP_X6_count 70 [.aload 0, .getfield 607, .ret 0] ls st g M Q := q_T_next rfl
theorem b_X6_count_70 : q_T md d qP_X6_count 70 [] ls st g M Q = q_T md d qP_X6_count 73 [.iconst (-2), .ret 0] ls st g M Q := q_T_next rfl
theorem s_X6_dawn {w : Nat} {x0 : Int} : q_S md d 118 [qR 6 w, qI x0] g M Q = q_T md d qP_X6_dawn 0 [] [qR 6 w, qI x0, qS 0] [] g M Q := rfl
theorem b_X6_dawn_0 : q_T md d qP_X6_dawn 0 [] ls st g M Q = q_T md d qP_X6_dawn 11 [.iload 1, .iconst (0), .iconst (999), .invokestatic 110, .ifCond .ne (14)] ls st g M Q := q_T_next rfl
theorem b_X6_dawn_11 : q_T md d qP_X6_dawn 11 [] ls st g M Q = q_T md d qP_X6_dawn 14 [.iconst (-2), .ret 0] ls st g M Q := q_T_next rfl
theorem b_X6_dawn_14 : q_T md d qP_X6_dawn 14 [] ls st g M Q = q_T md d qP_X6_dawn 26 [.aload 0, .getfield 605, .istore 2, .aload 0, .iload 1, .putfield 605, .iload 2, .ret 0] ls st g M Q := q_T_next rfl
theorem s_X6_build {w : Nat} {x0 : Int} {x1 : Int} {x2 : Int} : q_S md d 119 [qR 6 w, qI x0, qI x1, qI x2] g M Q = q_T md d qP_X6_build 0 [] [qR 6 w, qI x0, qI x1, qI x2, qS 0, qS 0, qS 0] [] g M Q := rfl
theorem b_X6_build_0 : q_T md d qP_X6_build 0 [] ls st g M Q = q_T md d qP_X6_build 7 [.iload 1, .invokestatic 113, .ifCond .ne (10)] ls st g M Q := q_T_next rfl
theorem b_X6_build_7 : q_T md d qP_X6_build 7 [] ls st g M Q = q_T md d qP_X6_build 10 [.iconst (-5), .ret 0] ls st g M Q := q_T_next rfl
theorem b_X6_build_10 : q_T md d qP_X6_build 10 [] ls st g M Q = q_T md d qP_X6_build 15 [.iload 2, .iconst (1), .if_icmp .ne (26)] ls st g M Q := q_T_next rfl
theorem b_X6_build_15 : q_T md d qP_X6_build 15 [] ls st g M Q = q_T md d qP_X6_build 26 [.aload 0, .iload 1, .invokestatic 115, .invokestatic 116, .goto (27)] ls st g M Q := q_T_next rfl
theorem b_X6_build_26 : q_T md d qP_X6_build 26 [] ls st g M Q = q_T md d qP_X6_build 27 [.iconst (0)] ls st g M Q := q_T_next rfl
theorem b_X6_build_27 : q_T md d qP_X6_build 27 [] ls st g M Q = q_T md d qP_X6_build 38 [.istore 4, .iload 2, .iconst (0), .iconst (3), .invokestatic 110, .ifCond .eq (58)] ls st g M Q := q_T_next rfl
theorem b_X6_build_38 : q_T md d qP_X6_build 38 [] ls st g M Q = q_T md d qP_X6_build 46 [.iload 3, .iload 4, .iload 2, .iconst (1), .if_icmp .ne (50)] ls st g M Q := q_T_next rfl
theorem b_X6_build_46 : q_T md d qP_X6_build 46 [] ls st g M Q = q_T md d qP_X6_build 50 [.iconst (5), .goto (52)] ls st g M Q := q_T_next rfl
theorem b_X6_build_50 : q_T md d qP_X6_build 50 [] ls st g M Q = q_T md d qP_X6_build 52 [.iconst (99)] ls st g M Q := q_T_next rfl
theorem b_X6_build_52 : q_T md d qP_X6_build 52 [] ls st g M Q = q_T md d qP_X6_build 58 [.invokestatic 110, .ifCond .ne (61)] ls st g M Q := q_T_next rfl
theorem b_X6_build_58 : q_T md d qP_X6_build 58 [] ls st g M Q = q_T md d qP_X6_build 61 [.iconst (-7), .ret 0] ls st g M Q := q_T_next rfl
theorem b_X6_build_61 : q_T md d qP_X6_build 61 [] ls st g M Q = q_T md d qP_X6_build 87 [.aload 0, .getfield 603, .iconst (4), .iload 1, .imul, .iload 2, .iadd, .iaload, .istore 5, .aload 0, .getfield 603, .iconst (4), .iload 1, .imul, .iload 2, .iadd, .iload 3, .iastore, .iconst (0), .istore 6] ls st g M Q := q_T_next rfl
theorem b_X6_build_87 : q_T md d qP_X6_build 87 [] ls st g M Q = q_T md d qP_X6_build 96 [.iload 6, .aload 0, .getfield 600, .if_icmp .ge (131)] ls st g M Q := q_T_next rfl
theorem b_X6_build_96 : q_T md d qP_X6_build 96 [] ls st g M Q = q_T md d qP_X6_build 100 [.iload 2, .ifCond .ne (131)] ls st g M Q := q_T_next rfl
theorem b_X6_build_100 : q_T md d qP_X6_build 100 [] ls st g M Q = q_T md d qP_X6_build 115 [.aload 0, .getfield 604, .iconst (3), .iload 6, .imul, .iconst (2), .iadd, .iaload, .iload 1, .if_icmp .ne (125)] ls st g M Q := q_T_next rfl
theorem b_X6_build_115 : q_T md d qP_X6_build 115 [] ls st g M Q = q_T md d qP_X6_build 125 [.aload 0, .getfield 604, .iconst (3), .iload 6, .imul, .iload 3, .iastore] ls st g M Q := q_T_next rfl
theorem b_X6_build_125 : q_T md d qP_X6_build 125 [] ls st g M Q = q_T md d qP_X6_build 131 [.iinc 6 (1), .goto (87)] ls st g M Q := q_T_next rfl
theorem b_X6_build_131 : q_T md d qP_X6_build 131 [] ls st g M Q = q_T md d qP_X6_build 134 [.iload 5, .ret 0] ls st g M Q := q_T_next rfl
theorem s_X6_site {w : Nat} {x0 : Int} {x1 : Int} : q_S md d 120 [qR 6 w, qI x0, qI x1] g M Q = q_T md d qP_X6_site 0 [] [qR 6 w, qI x0, qI x1] [] g M Q := rfl
theorem b_X6_site_0 : q_T md d qP_X6_site 0 [] ls st g M Q = q_T md d qP_X6_site 7 [.iload 1, .invokestatic 113, .ifCond .ne (10)] ls st g M Q := q_T_next rfl
theorem b_X6_site_7 : q_T md d qP_X6_site 7 [] ls st g M Q = q_T md d qP_X6_site 10 [.iconst (-5), .ret 0] ls st g M Q := q_T_next rfl
theorem b_X6_site_10 : q_T md d qP_X6_site 10 [] ls st g M Q = q_T md d qP_X6_site 15 [.iload 2, .iconst (4), .if_icmp .ne (23)] ls st g M Q := q_T_next rfl
theorem b_X6_site_15 : q_T md d qP_X6_site 15 [] ls st g M Q = q_T md d qP_X6_site 23 [.aload 0, .iload 1, .invokestatic 115, .goto (47)] ls st g M Q := q_T_next rfl
theorem b_X6_site_23 : q_T md d qP_X6_site 23 [] ls st g M Q = q_T md d qP_X6_site 32 [.iload 2, .iconst (0), .iconst (3), .invokestatic 110, .ifCond .eq (45)] ls st g M Q := q_T_next rfl
theorem b_X6_site_32 : q_T md d qP_X6_site 32 [] ls st g M Q = q_T md d qP_X6_site 45 [.aload 0, .getfield 603, .iconst (4), .iload 1, .imul, .iload 2, .iadd, .iaload, .goto (47)] ls st g M Q := q_T_next rfl
theorem b_X6_site_45 : q_T md d qP_X6_site 45 [] ls st g M Q = q_T md d qP_X6_site 47 [.iconst (-7)] ls st g M Q := q_T_next rfl
theorem b_X6_site_47 : q_T md d qP_X6_site 47 [] ls st g M Q = q_T md d qP_X6_site 48 [.ret 0] ls st g M Q := q_T_next rfl
theorem s_X6_isByte {x0 : Int} : q_S md d 121 [qI x0] g M Q = q_T md d qP_X6_isByte 0 [] [qI x0] [] g M Q := rfl
theorem b_X6_isByte_0 : q_T md d qP_X6_isByte 0 [] ls st g M Q = q_T md d qP_X6_isByte 9 [.iload 0, .iconst (0), .iconst (255), .invokestatic 110, .ret 1] ls st g M Q := q_T_next rfl
theorem s_X6_feed {w : Nat} {x0 : Int} {x1 : Int} {x2 : Int} {x3 : Int} {x4 : Int} {x5 : Int} : q_S md d 122 [qR 6 w, qI x0, qI x1, qI x2, qI x3, qI x4, qI x5] g M Q = q_T md d qP_X6_feed 0 [] [qR 6 w, qI x0, qI x1, qI x2, qI x3, qI x4, qI x5, qS 0] [] g M Q := rfl
theorem b_X6_feed_0 : q_T md d qP_X6_feed 0 [] ls st g M Q = q_T md d qP_X6_feed 9 [.iload 1, .iconst (1), .iconst (5), .invokestatic 110, .ifCond .eq (47)] ls st g M Q := q_T_next rfl
theorem b_X6_feed_9 : q_T md d qP_X6_feed 9 [] ls st g M Q = q_T md d qP_X6_feed 16 [.iload 2, .invokestatic 121, .ifCond .eq (47)] ls st g M Q := q_T_next rfl
theorem b_X6_feed_16 : q_T md d qP_X6_feed 16 [] ls st g M Q = q_T md d qP_X6_feed 23 [.iload 3, .invokestatic 121, .ifCond .eq (47)] ls st g M Q := q_T_next rfl
theorem b_X6_feed_23 : q_T md d qP_X6_feed 23 [] ls st g M Q = q_T md d qP_X6_feed 31 [.iload 4, .invokestatic 121, .ifCond .eq (47)] ls st g M Q := q_T_next rfl
theorem b_X6_feed_31 : q_T md d qP_X6_feed 31 [] ls st g M Q = q_T md d qP_X6_feed 39 [.iload 5, .invokestatic 121, .ifCond .eq (47)] ls st g M Q := q_T_next rfl
theorem b_X6_feed_39 : q_T md d qP_X6_feed 39 [] ls st g M Q = q_T md d qP_X6_feed 47 [.iload 6, .invokestatic 121, .ifCond .ne (50)] ls st g M Q := q_T_next rfl
theorem b_X6_feed_47 : q_T md d qP_X6_feed 47 [] ls st g M Q = q_T md d qP_X6_feed 50 [.iconst (-2), .ret 0] ls st g M Q := q_T_next rfl
theorem b_X6_feed_50 : q_T md d qP_X6_feed 50 [] ls st g M Q = q_T md d qP_X6_feed 62 [.aload 0, .getfield 607, .iload 1, .iadd, .iconst (160), .if_icmp .le (65)] ls st g M Q := q_T_next rfl
theorem b_X6_feed_62 : q_T md d qP_X6_feed 62 [] ls st g M Q = q_T md d qP_X6_feed 65 [.iconst (-4), .ret 0] ls st g M Q := q_T_next rfl
theorem b_X6_feed_65 : q_T md d qP_X6_feed 65 [] ls st g M Q = q_T md d qP_X6_feed 68 [.iconst (0), .istore 7] ls st g M Q := q_T_next rfl
theorem b_X6_feed_68 : q_T md d qP_X6_feed 68 [] ls st g M Q = q_T md d qP_X6_feed 74 [.iload 7, .iload 1, .if_icmp .ge (142)] ls st g M Q := q_T_next rfl
theorem b_X6_feed_74 : q_T md d qP_X6_feed 74 [] ls st g M Q = q_T md d qP_X6_feed 87 [.aload 0, .getfield 606, .aload 0, .getfield 607, .iload 7, .ifCond .ne (91)] ls st g M Q := q_T_next rfl
theorem b_X6_feed_87 : q_T md d qP_X6_feed 87 [] ls st g M Q = q_T md d qP_X6_feed 91 [.iload 2, .goto (125)] ls st g M Q := q_T_next rfl
theorem b_X6_feed_91 : q_T md d qP_X6_feed 91 [] ls st g M Q = q_T md d qP_X6_feed 97 [.iload 7, .iconst (1), .if_icmp .ne (101)] ls st g M Q := q_T_next rfl
theorem b_X6_feed_97 : q_T md d qP_X6_feed 97 [] ls st g M Q = q_T md d qP_X6_feed 101 [.iload 3, .goto (125)] ls st g M Q := q_T_next rfl
theorem b_X6_feed_101 : q_T md d qP_X6_feed 101 [] ls st g M Q = q_T md d qP_X6_feed 107 [.iload 7, .iconst (2), .if_icmp .ne (112)] ls st g M Q := q_T_next rfl
theorem b_X6_feed_107 : q_T md d qP_X6_feed 107 [] ls st g M Q = q_T md d qP_X6_feed 112 [.iload 4, .goto (125)] ls st g M Q := q_T_next rfl
theorem b_X6_feed_112 : q_T md d qP_X6_feed 112 [] ls st g M Q = q_T md d qP_X6_feed 118 [.iload 7, .iconst (3), .if_icmp .ne (123)] ls st g M Q := q_T_next rfl
theorem b_X6_feed_118 : q_T md d qP_X6_feed 118 [] ls st g M Q = q_T md d qP_X6_feed 123 [.iload 5, .goto (125)] ls st g M Q := q_T_next rfl
theorem b_X6_feed_123 : q_T md d qP_X6_feed 123 [] ls st g M Q = q_T md d qP_X6_feed 125 [.iload 6] ls st g M Q := q_T_next rfl
theorem b_X6_feed_125 : q_T md d qP_X6_feed 125 [] ls st g M Q = q_T md d qP_X6_feed 142 [.iastore, .aload 0, .dup, .getfield 607, .iconst (1), .iadd, .putfield 607, .iinc 7 (1), .goto (68)] ls st g M Q := q_T_next rfl
theorem b_X6_feed_142 : q_T md d qP_X6_feed 142 [] ls st g M Q = q_T md d qP_X6_feed 147 [.aload 0, .getfield 607, .ret 0] ls st g M Q := q_T_next rfl
theorem s_X6_wordFrom {w : Nat} {x0 : Int} {x1 : Int} : q_S md d 123 [qR 6 w, qI x0, qI x1] g M Q = q_T md d qP_X6_wordFrom 0 [] [qR 6 w, qI x0, qI x1, qS 0, qS 0, qS 0] [] g M Q := rfl
theorem b_X6_wordFrom_0 : q_T md d qP_X6_wordFrom 0 [] ls st g M Q = q_T md d qP_X6_wordFrom 2 [.iconst (0), .istore 3] ls st g M Q := q_T_next rfl
theorem b_X6_wordFrom_2 : q_T md d qP_X6_wordFrom 2 [] ls st g M Q = q_T md d qP_X6_wordFrom 8 [.iload 3, .iconst (12), .if_icmp .ge (101)] ls st g M Q := q_T_next rfl
theorem b_X6_wordFrom_8 : q_T md d qP_X6_wordFrom 8 [] ls st g M Q = q_T md d qP_X6_wordFrom 16 [.iload 2, .iload 1, .isub, .iconst (8), .if_icmp .gt (20)] ls st g M Q := q_T_next rfl
theorem b_X6_wordFrom_16 : q_T md d qP_X6_wordFrom 16 [] ls st g M Q = q_T md d qP_X6_wordFrom 20 [.iconst (1), .goto (21)] ls st g M Q := q_T_next rfl
theorem b_X6_wordFrom_20 : q_T md d qP_X6_wordFrom 20 [] ls st g M Q = q_T md d qP_X6_wordFrom 21 [.iconst (0)] ls st g M Q := q_T_next rfl
theorem b_X6_wordFrom_21 : q_T md d qP_X6_wordFrom 21 [] ls st g M Q = q_T md d qP_X6_wordFrom 26 [.istore 4, .iconst (0), .istore 5] ls st g M Q := q_T_next rfl
theorem b_X6_wordFrom_26 : q_T md d qP_X6_wordFrom 26 [] ls st g M Q = q_T md d qP_X6_wordFrom 33 [.iload 5, .iconst (8), .if_icmp .ge (88)] ls st g M Q := q_T_next rfl
theorem b_X6_wordFrom_33 : q_T md d qP_X6_wordFrom 33 [] ls st g M Q = q_T md d qP_X6_wordFrom 38 [.iload 4, .ifCond .eq (88)] ls st g M Q := q_T_next rfl
theorem b_X6_wordFrom_38 : q_T md d qP_X6_wordFrom 38 [] ls st g M Q = q_T md d qP_X6_wordFrom 58 [.aload 0, .getfield 623, .iconst (8), .iload 3, .imul, .iload 5, .iadd, .iaload, .iload 1, .iload 5, .iadd, .iload 2, .if_icmp .ge (70)] ls st g M Q := q_T_next rfl
theorem b_X6_wordFrom_58 : q_T md d qP_X6_wordFrom 58 [] ls st g M Q = q_T md d qP_X6_wordFrom 70 [.aload 0, .getfield 606, .iload 1, .iload 5, .iadd, .iaload, .goto (72)] ls st g M Q := q_T_next rfl
theorem b_X6_wordFrom_70 : q_T md d qP_X6_wordFrom 70 [] ls st g M Q = q_T md d qP_X6_wordFrom 72 [.iconst (32)] ls st g M Q := q_T_next rfl
theorem b_X6_wordFrom_72 : q_T md d qP_X6_wordFrom 72 [] ls st g M Q = q_T md d qP_X6_wordFrom 75 [.if_icmp .ne (79)] ls st g M Q := q_T_next rfl
theorem b_X6_wordFrom_75 : q_T md d qP_X6_wordFrom 75 [] ls st g M Q = q_T md d qP_X6_wordFrom 79 [.iconst (1), .goto (80)] ls st g M Q := q_T_next rfl
theorem b_X6_wordFrom_79 : q_T md d qP_X6_wordFrom 79 [] ls st g M Q = q_T md d qP_X6_wordFrom 80 [.iconst (0)] ls st g M Q := q_T_next rfl
theorem b_X6_wordFrom_80 : q_T md d qP_X6_wordFrom 80 [] ls st g M Q = q_T md d qP_X6_wordFrom 88 [.istore 4, .iinc 5 (1), .goto (26)] ls st g M Q := q_T_next rfl
theorem b_X6_wordFrom_88 : q_T md d qP_X6_wordFrom 88 [] ls st g M Q = q_T md d qP_X6_wordFrom 93 [.iload 4, .ifCond .eq (95)] ls st g M Q := q_T_next rfl
theorem b_X6_wordFrom_93 : q_T md d qP_X6_wordFrom 93 [] ls st g M Q = q_T md d qP_X6_wordFrom 95 [.iload 3, .ret 0] ls st g M Q := q_T_next rfl
theorem b_X6_wordFrom_95 : q_T md d qP_X6_wordFrom 95 [] ls st g M Q = q_T md d qP_X6_wordFrom 101 [.iinc 3 (1), .goto (2)] ls st g M Q := q_T_next rfl
theorem b_X6_wordFrom_101 : q_T md d qP_X6_wordFrom 101 [] ls st g M Q = q_T md d qP_X6_wordFrom 104 [.iconst (12), .ret 0] ls st g M Q := q_T_next rfl
theorem s_X6_next {w : Nat} : q_S md d 124 [qR 6 w] g M Q = q_T md d qP_X6_next 0 [] [qR 6 w, qS 0, qS 0] [] g M Q := rfl
theorem b_X6_next_0 : q_T md d qP_X6_next 0 [] ls st g M Q = q_T md d qP_X6_next 11 [.aload 0, .getfield 619, .aload 0, .getfield 607, .if_icmp .ge (52)] ls st g M Q := q_T_next rfl
theorem b_X6_next_11 : q_T md d qP_X6_next 11 [] ls st g M Q = q_T md d qP_X6_next 25 [.aload 0, .getfield 606, .aload 0, .getfield 619, .iaload, .iconst (32), .if_icmp .eq (39)] ls st g M Q := q_T_next rfl
theorem b_X6_next_25 : q_T md d qP_X6_next 25 [] ls st g M Q = q_T md d qP_X6_next 39 [.aload 0, .getfield 606, .aload 0, .getfield 619, .iaload, .iconst (10), .if_icmp .ne (52)] ls st g M Q := q_T_next rfl
theorem b_X6_next_39 : q_T md d qP_X6_next 39 [] ls st g M Q = q_T md d qP_X6_next 52 [.aload 0, .dup, .getfield 619, .iconst (1), .iadd, .putfield 619, .goto (0)] ls st g M Q := q_T_next rfl
theorem b_X6_next_52 : q_T md d qP_X6_next 52 [] ls st g M Q = q_T md d qP_X6_next 81 [.aload 0, .aload 0, .getfield 619, .putfield 620, .aload 0, .iconst (0), .putfield 621, .aload 0, .iconst (0), .putfield 622, .aload 0, .getfield 619, .aload 0, .getfield 607, .if_icmp .ne (82)] ls st g M Q := q_T_next rfl
theorem b_X6_next_81 : q_T md d qP_X6_next 81 [] ls st g M Q = q_T md d qP_X6_next 82 [.return_] ls st g M Q := q_T_next rfl
theorem b_X6_next_82 : q_T md d qP_X6_next 82 [] ls st g M Q = q_T md d qP_X6_next 103 [.aload 0, .getfield 606, .aload 0, .getfield 619, .iaload, .istore 1, .iload 1, .iconst (97), .iconst (122), .invokestatic 110, .ifCond .eq (217)] ls st g M Q := q_T_next rfl
theorem b_X6_next_103 : q_T md d qP_X6_next 103 [] ls st g M Q = q_T md d qP_X6_next 114 [.aload 0, .getfield 619, .aload 0, .getfield 607, .if_icmp .ge (146)] ls st g M Q := q_T_next rfl
theorem b_X6_next_114 : q_T md d qP_X6_next 114 [] ls st g M Q = q_T md d qP_X6_next 133 [.aload 0, .getfield 606, .aload 0, .getfield 619, .iaload, .iconst (97), .iconst (122), .invokestatic 110, .ifCond .eq (146)] ls st g M Q := q_T_next rfl
theorem b_X6_next_133 : q_T md d qP_X6_next 133 [] ls st g M Q = q_T md d qP_X6_next 146 [.aload 0, .dup, .getfield 619, .iconst (1), .iadd, .putfield 619, .goto (103)] ls st g M Q := q_T_next rfl
theorem b_X6_next_146 : q_T md d qP_X6_next 146 [] ls st g M Q = q_T md d qP_X6_next 165 [.aload 0, .aload 0, .getfield 620, .aload 0, .getfield 619, .invokestatic 123, .istore 2, .aload 0, .iload 2, .iconst (3), .if_icmp .ge (169)] ls st g M Q := q_T_next rfl
theorem b_X6_next_165 : q_T md d qP_X6_next 165 [] ls st g M Q = q_T md d qP_X6_next 169 [.iconst (3), .goto (195)] ls st g M Q := q_T_next rfl
theorem b_X6_next_169 : q_T md d qP_X6_next 169 [] ls st g M Q = q_T md d qP_X6_next 175 [.iload 2, .iconst (9), .if_icmp .ge (179)] ls st g M Q := q_T_next rfl
theorem b_X6_next_175 : q_T md d qP_X6_next 175 [] ls st g M Q = q_T md d qP_X6_next 179 [.iconst (2), .goto (195)] ls st g M Q := q_T_next rfl
theorem b_X6_next_179 : q_T md d qP_X6_next 179 [] ls st g M Q = q_T md d qP_X6_next 185 [.iload 2, .iconst (12), .if_icmp .ne (189)] ls st g M Q := q_T_next rfl
theorem b_X6_next_185 : q_T md d qP_X6_next 185 [] ls st g M Q = q_T md d qP_X6_next 189 [.iconst (-1), .goto (195)] ls st g M Q := q_T_next rfl
theorem b_X6_next_189 : q_T md d qP_X6_next 189 [] ls st g M Q = q_T md d qP_X6_next 195 [.iconst (4), .iload 2, .iadd, .iconst (9), .isub] ls st g M Q := q_T_next rfl
theorem b_X6_next_195 : q_T md d qP_X6_next 195 [] ls st g M Q = q_T md d qP_X6_next 204 [.putfield 621, .aload 0, .iload 2, .iconst (3), .if_icmp .ge (208)] ls st g M Q := q_T_next rfl
theorem b_X6_next_204 : q_T md d qP_X6_next 204 [] ls st g M Q = q_T md d qP_X6_next 208 [.iload 2, .goto (211)] ls st g M Q := q_T_next rfl
theorem b_X6_next_208 : q_T md d qP_X6_next 208 [] ls st g M Q = q_T md d qP_X6_next 211 [.iload 2, .iconst (3), .isub] ls st g M Q := q_T_next rfl
theorem b_X6_next_211 : q_T md d qP_X6_next 211 [] ls st g M Q = q_T md d qP_X6_next 217 [.putfield 622, .goto (403)] ls st g M Q := q_T_next rfl
theorem b_X6_next_217 : q_T md d qP_X6_next 217 [] ls st g M Q = q_T md d qP_X6_next 228 [.iload 1, .iconst (48), .iconst (57), .invokestatic 110, .ifCond .eq (326)] ls st g M Q := q_T_next rfl
theorem b_X6_next_228 : q_T md d qP_X6_next 228 [] ls st g M Q = q_T md d qP_X6_next 230 [.iconst (0), .istore 2] ls st g M Q := q_T_next rfl
theorem b_X6_next_230 : q_T md d qP_X6_next 230 [] ls st g M Q = q_T md d qP_X6_next 241 [.aload 0, .getfield 619, .aload 0, .getfield 607, .if_icmp .ge (309)] ls st g M Q := q_T_next rfl
theorem b_X6_next_241 : q_T md d qP_X6_next 241 [] ls st g M Q = q_T md d qP_X6_next 260 [.aload 0, .getfield 606, .aload 0, .getfield 619, .iaload, .iconst (48), .iconst (57), .invokestatic 110, .ifCond .eq (309)] ls st g M Q := q_T_next rfl
theorem b_X6_next_260 : q_T md d qP_X6_next 260 [] ls st g M Q = q_T md d qP_X6_next 266 [.aload 0, .iload 2, .iconst (4), .if_icmp .ge (289)] ls st g M Q := q_T_next rfl
theorem b_X6_next_266 : q_T md d qP_X6_next 266 [] ls st g M Q = q_T md d qP_X6_next 289 [.iconst (10), .aload 0, .getfield 622, .imul, .aload 0, .getfield 606, .aload 0, .getfield 619, .iaload, .iadd, .iconst (48), .isub, .goto (290)] ls st g M Q := q_T_next rfl
theorem b_X6_next_289 : q_T md d qP_X6_next 289 [] ls st g M Q = q_T md d qP_X6_next 290 [.iconst (0)] ls st g M Q := q_T_next rfl
theorem b_X6_next_290 : q_T md d qP_X6_next 290 [] ls st g M Q = q_T md d qP_X6_next 309 [.putfield 622, .iinc 2 (1), .aload 0, .dup, .getfield 619, .iconst (1), .iadd, .putfield 619, .goto (230)] ls st g M Q := q_T_next rfl
theorem b_X6_next_309 : q_T md d qP_X6_next 309 [] ls st g M Q = q_T md d qP_X6_next 315 [.aload 0, .iload 2, .iconst (4), .if_icmp .le (319)] ls st g M Q := q_T_next rfl
theorem b_X6_next_315 : q_T md d qP_X6_next 315 [] ls st g M Q = q_T md d qP_X6_next 319 [.iconst (-1), .goto (320)] ls st g M Q := q_T_next rfl
theorem b_X6_next_319 : q_T md d qP_X6_next 319 [] ls st g M Q = q_T md d qP_X6_next 320 [.iconst (1)] ls st g M Q := q_T_next rfl
theorem b_X6_next_320 : q_T md d qP_X6_next 320 [] ls st g M Q = q_T md d qP_X6_next 326 [.putfield 621, .goto (403)] ls st g M Q := q_T_next rfl
theorem b_X6_next_326 : q_T md d qP_X6_next 326 [] ls st g M Q = q_T md d qP_X6_next 332 [.iload 1, .iconst (40), .if_icmp .eq (374)] ls st g M Q := q_T_next rfl
theorem b_X6_next_332 : q_T md d qP_X6_next 332 [] ls st g M Q = q_T md d qP_X6_next 338 [.iload 1, .iconst (41), .if_icmp .eq (374)] ls st g M Q := q_T_next rfl
theorem b_X6_next_338 : q_T md d qP_X6_next 338 [] ls st g M Q = q_T md d qP_X6_next 344 [.iload 1, .iconst (59), .if_icmp .eq (374)] ls st g M Q := q_T_next rfl
theorem b_X6_next_344 : q_T md d qP_X6_next 344 [] ls st g M Q = q_T md d qP_X6_next 350 [.iload 1, .iconst (43), .if_icmp .eq (374)] ls st g M Q := q_T_next rfl
theorem b_X6_next_350 : q_T md d qP_X6_next 350 [] ls st g M Q = q_T md d qP_X6_next 356 [.iload 1, .iconst (45), .if_icmp .eq (374)] ls st g M Q := q_T_next rfl
theorem b_X6_next_356 : q_T md d qP_X6_next 356 [] ls st g M Q = q_T md d qP_X6_next 362 [.iload 1, .iconst (42), .if_icmp .eq (374)] ls st g M Q := q_T_next rfl
theorem b_X6_next_362 : q_T md d qP_X6_next 362 [] ls st g M Q = q_T md d qP_X6_next 368 [.iload 1, .iconst (60), .if_icmp .eq (374)] ls st g M Q := q_T_next rfl
theorem b_X6_next_368 : q_T md d qP_X6_next 368 [] ls st g M Q = q_T md d qP_X6_next 374 [.iload 1, .iconst (61), .if_icmp .ne (378)] ls st g M Q := q_T_next rfl
theorem b_X6_next_374 : q_T md d qP_X6_next 374 [] ls st g M Q = q_T md d qP_X6_next 378 [.iconst (1), .goto (379)] ls st g M Q := q_T_next rfl
theorem b_X6_next_378 : q_T md d qP_X6_next 378 [] ls st g M Q = q_T md d qP_X6_next 379 [.iconst (0)] ls st g M Q := q_T_next rfl
theorem b_X6_next_379 : q_T md d qP_X6_next 379 [] ls st g M Q = q_T md d qP_X6_next 385 [.istore 2, .aload 0, .iload 2, .ifCond .eq (389)] ls st g M Q := q_T_next rfl
theorem b_X6_next_385 : q_T md d qP_X6_next 385 [] ls st g M Q = q_T md d qP_X6_next 389 [.iload 1, .goto (390)] ls st g M Q := q_T_next rfl
theorem b_X6_next_389 : q_T md d qP_X6_next 389 [] ls st g M Q = q_T md d qP_X6_next 390 [.iconst (-1)] ls st g M Q := q_T_next rfl
theorem b_X6_next_390 : q_T md d qP_X6_next 390 [] ls st g M Q = q_T md d qP_X6_next 403 [.putfield 621, .aload 0, .dup, .getfield 619, .iconst (1), .iadd, .putfield 619] ls st g M Q := q_T_next rfl
theorem b_X6_next_403 : q_T md d qP_X6_next 403 [] ls st g M Q = q_T md d qP_X6_next 404 [.return_] ls st g M Q := q_T_next rfl
theorem s_X6_rank {x0 : Int} : q_S md d 125 [qI x0] g M Q = q_T md d qP_X6_rank 0 [] [qI x0] [] g M Q := rfl
theorem b_X6_rank_0 : q_T md d qP_X6_rank 0 [] ls st g M Q = q_T md d qP_X6_rank 4 [.iload 0, .ifCond .ne (8)] ls st g M Q := q_T_next rfl
theorem b_X6_rank_4 : q_T md d qP_X6_rank 4 [] ls st g M Q = q_T md d qP_X6_rank 8 [.iconst (0), .goto (71)] ls st g M Q := q_T_next rfl
theorem b_X6_rank_8 : q_T md d qP_X6_rank 8 [] ls st g M Q = q_T md d qP_X6_rank 14 [.iload 0, .iconst (11), .if_icmp .ne (18)] ls st g M Q := q_T_next rfl
theorem b_X6_rank_14 : q_T md d qP_X6_rank 14 [] ls st g M Q = q_T md d qP_X6_rank 18 [.iconst (1), .goto (71)] ls st g M Q := q_T_next rfl
theorem b_X6_rank_18 : q_T md d qP_X6_rank 18 [] ls st g M Q = q_T md d qP_X6_rank 24 [.iload 0, .iconst (12), .if_icmp .ne (28)] ls st g M Q := q_T_next rfl
theorem b_X6_rank_24 : q_T md d qP_X6_rank 24 [] ls st g M Q = q_T md d qP_X6_rank 28 [.iconst (2), .goto (71)] ls st g M Q := q_T_next rfl
theorem b_X6_rank_28 : q_T md d qP_X6_rank 28 [] ls st g M Q = q_T md d qP_X6_rank 34 [.iload 0, .iconst (13), .if_icmp .ne (38)] ls st g M Q := q_T_next rfl
theorem b_X6_rank_34 : q_T md d qP_X6_rank 34 [] ls st g M Q = q_T md d qP_X6_rank 38 [.iconst (3), .goto (71)] ls st g M Q := q_T_next rfl
theorem b_X6_rank_38 : q_T md d qP_X6_rank 38 [] ls st g M Q = q_T md d qP_X6_rank 44 [.iload 0, .iconst (15), .if_icmp .gt (48)] ls st g M Q := q_T_next rfl
theorem b_X6_rank_44 : q_T md d qP_X6_rank 44 [] ls st g M Q = q_T md d qP_X6_rank 48 [.iconst (4), .goto (71)] ls st g M Q := q_T_next rfl
theorem b_X6_rank_48 : q_T md d qP_X6_rank 48 [] ls st g M Q = q_T md d qP_X6_rank 54 [.iload 0, .iconst (17), .if_icmp .gt (58)] ls st g M Q := q_T_next rfl
theorem b_X6_rank_54 : q_T md d qP_X6_rank 54 [] ls st g M Q = q_T md d qP_X6_rank 58 [.iconst (5), .goto (71)] ls st g M Q := q_T_next rfl
theorem b_X6_rank_58 : q_T md d qP_X6_rank 58 [] ls st g M Q = q_T md d qP_X6_rank 64 [.iload 0, .iconst (18), .if_icmp .ne (69)] ls st g M Q := q_T_next rfl
theorem b_X6_rank_64 : q_T md d qP_X6_rank 64 [] ls st g M Q = q_T md d qP_X6_rank 69 [.iconst (6), .goto (71)] ls st g M Q := q_T_next rfl
theorem b_X6_rank_69 : q_T md d qP_X6_rank 69 [] ls st g M Q = q_T md d qP_X6_rank 71 [.iconst (7)] ls st g M Q := q_T_next rfl
theorem b_X6_rank_71 : q_T md d qP_X6_rank 71 [] ls st g M Q = q_T md d qP_X6_rank 72 [.ret 0] ls st g M Q := q_T_next rfl
theorem s_X6_puts {w : Nat} {x0 : Int} : q_S md d 126 [qR 6 w, qI x0] g M Q = q_T md d qP_X6_puts 0 [] [qR 6 w, qI x0] [] g M Q := rfl
theorem b_X6_puts_0 : q_T md d qP_X6_puts 0 [] ls st g M Q = q_T md d qP_X6_puts 30 [.aload 0, .getfield 608, .iconst (200), .aload 0, .getfield 610, .imul, .aload 0, .getfield 627, .iadd, .iload 1, .iastore, .aload 0, .dup, .getfield 627, .iconst (1), .iadd, .putfield 627, .return_] ls st g M Q := q_T_next rfl
theorem s_X6_unwinds {w : Nat} {x0 : Int} : q_S md d 127 [qR 6 w, qI x0] g M Q = q_T md d qP_X6_unwinds 0 [] [qR 6 w, qI x0, qS 0] [] g M Q := rfl
theorem b_X6_unwinds_0 : q_T md d qP_X6_unwinds 0 [] ls st g M Q = q_T md d qP_X6_unwinds 7 [.aload 0, .getfield 625, .ifCond .le (79)] ls st g M Q := q_T_next rfl
theorem b_X6_unwinds_7 : q_T md d qP_X6_unwinds 7 [] ls st g M Q = q_T md d qP_X6_unwinds 25 [.aload 0, .getfield 624, .aload 0, .getfield 625, .iconst (1), .isub, .iaload, .invokestatic 125, .iload 1, .if_icmp .lt (79)] ls st g M Q := q_T_next rfl
theorem b_X6_unwinds_25 : q_T md d qP_X6_unwinds 25 [] ls st g M Q = q_T md d qP_X6_unwinds 56 [.aload 0, .dup, .getfield 625, .iconst (1), .isub, .putfield 625, .aload 0, .getfield 624, .aload 0, .getfield 625, .iaload, .istore 2, .aload 0, .dup, .getfield 626, .iload 2, .iconst (13), .if_icmp .eq (62)] ls st g M Q := q_T_next rfl
theorem b_X6_unwinds_56 : q_T md d qP_X6_unwinds 56 [] ls st g M Q = q_T md d qP_X6_unwinds 62 [.iload 2, .iconst (19), .if_icmp .ne (66)] ls st g M Q := q_T_next rfl
theorem b_X6_unwinds_62 : q_T md d qP_X6_unwinds 62 [] ls st g M Q = q_T md d qP_X6_unwinds 66 [.iconst (1), .goto (67)] ls st g M Q := q_T_next rfl
theorem b_X6_unwinds_66 : q_T md d qP_X6_unwinds 66 [] ls st g M Q = q_T md d qP_X6_unwinds 67 [.iconst (0)] ls st g M Q := q_T_next rfl
theorem b_X6_unwinds_67 : q_T md d qP_X6_unwinds 67 [] ls st g M Q = q_T md d qP_X6_unwinds 79 [.isub, .putfield 626, .aload 0, .iload 2, .invokestatic 126, .goto (0)] ls st g M Q := q_T_next rfl
theorem b_X6_unwinds_79 : q_T md d qP_X6_unwinds 79 [] ls st g M Q = q_T md d qP_X6_unwinds 80 [.return_] ls st g M Q := q_T_next rfl
theorem s_X6_holds {w : Nat} {x0 : Int} : q_S md d 128 [qR 6 w, qI x0] g M Q = q_T md d qP_X6_holds 0 [] [qR 6 w, qI x0] [] g M Q := rfl
theorem b_X6_holds_0 : q_T md d qP_X6_holds 0 [] ls st g M Q = q_T md d qP_X6_holds 21 [.aload 0, .getfield 624, .aload 0, .getfield 625, .iload 1, .iastore, .aload 0, .dup, .getfield 625, .iconst (1), .iadd, .putfield 625, .return_] ls st g M Q := q_T_next rfl
theorem s_X6_opensOne {w : Nat} {x0 : Int} : q_S md d 129 [qR 6 w, qI x0] g M Q = q_T md d qP_X6_opensOne 0 [] [qR 6 w, qI x0] [] g M Q := rfl
theorem b_X6_opensOne_0 : q_T md d qP_X6_opensOne 0 [] ls st g M Q = q_T md d qP_X6_opensOne 8 [.aload 0, .getfield 626, .iconst (5), .if_icmp .ne (10)] ls st g M Q := q_T_next rfl
theorem b_X6_opensOne_8 : q_T md d qP_X6_opensOne 8 [] ls st g M Q = q_T md d qP_X6_opensOne 10 [.iconst (0), .ret 1] ls st g M Q := q_T_next rfl
theorem b_X6_opensOne_10 : q_T md d qP_X6_opensOne 10 [] ls st g M Q = q_T md d qP_X6_opensOne 27 [.aload 0, .dup, .getfield 626, .iconst (1), .iadd, .putfield 626, .aload 0, .iload 1, .invokestatic 128, .iconst (1), .ret 1] ls st g M Q := q_T_next rfl
theorem s_X6_between {w : Nat} {x0 : Int} : q_S md d 130 [qR 6 w, qI x0] g M Q = q_T md d qP_X6_between 0 [] [qR 6 w, qI x0] [] g M Q := rfl
theorem b_X6_between_0 : q_T md d qP_X6_between 0 [] ls st g M Q = q_T md d qP_X6_between 9 [.aload 0, .iload 1, .invokestatic 125, .iconst (4), .if_icmp .ne (13)] ls st g M Q := q_T_next rfl
theorem b_X6_between_9 : q_T md d qP_X6_between 9 [] ls st g M Q = q_T md d qP_X6_between 13 [.iconst (5), .goto (17)] ls st g M Q := q_T_next rfl
theorem b_X6_between_13 : q_T md d qP_X6_between 13 [] ls st g M Q = q_T md d qP_X6_between 17 [.iload 1, .invokestatic 125] ls st g M Q := q_T_next rfl
theorem b_X6_between_17 : q_T md d qP_X6_between 17 [] ls st g M Q = q_T md d qP_X6_between 28 [.invokestatic 127, .iload 1, .invokestatic 125, .iconst (4), .if_icmp .ne (55)] ls st g M Q := q_T_next rfl
theorem b_X6_between_28 : q_T md d qP_X6_between 28 [] ls st g M Q = q_T md d qP_X6_between 35 [.aload 0, .getfield 625, .ifCond .le (55)] ls st g M Q := q_T_next rfl
theorem b_X6_between_35 : q_T md d qP_X6_between 35 [] ls st g M Q = q_T md d qP_X6_between 53 [.aload 0, .getfield 624, .aload 0, .getfield 625, .iconst (1), .isub, .iaload, .invokestatic 125, .iconst (4), .if_icmp .ne (55)] ls st g M Q := q_T_next rfl
theorem b_X6_between_53 : q_T md d qP_X6_between 53 [] ls st g M Q = q_T md d qP_X6_between 55 [.iconst (0), .ret 1] ls st g M Q := q_T_next rfl
theorem b_X6_between_55 : q_T md d qP_X6_between 55 [] ls st g M Q = q_T md d qP_X6_between 62 [.aload 0, .iload 1, .invokestatic 128, .iconst (1), .ret 1] ls st g M Q := q_T_next rfl
theorem s_X6_signOf {w : Nat} : q_S md d 131 [qR 6 w] g M Q = q_T md d qP_X6_signOf 0 [] [qR 6 w] [] g M Q := rfl
theorem b_X6_signOf_0 : q_T md d qP_X6_signOf 0 [] ls st g M Q = q_T md d qP_X6_signOf 8 [.aload 0, .getfield 621, .iconst (4), .if_icmp .ne (13)] ls st g M Q := q_T_next rfl
theorem b_X6_signOf_8 : q_T md d qP_X6_signOf 8 [] ls st g M Q = q_T md d qP_X6_signOf 13 [.iconst (11), .goto (97)] ls st g M Q := q_T_next rfl
theorem b_X6_signOf_13 : q_T md d qP_X6_signOf 13 [] ls st g M Q = q_T md d qP_X6_signOf 21 [.aload 0, .getfield 621, .iconst (5), .if_icmp .ne (26)] ls st g M Q := q_T_next rfl
theorem b_X6_signOf_21 : q_T md d qP_X6_signOf 21 [] ls st g M Q = q_T md d qP_X6_signOf 26 [.iconst (12), .goto (97)] ls st g M Q := q_T_next rfl
theorem b_X6_signOf_26 : q_T md d qP_X6_signOf 26 [] ls st g M Q = q_T md d qP_X6_signOf 35 [.aload 0, .getfield 621, .iconst (60), .if_icmp .ne (40)] ls st g M Q := q_T_next rfl
theorem b_X6_signOf_35 : q_T md d qP_X6_signOf 35 [] ls st g M Q = q_T md d qP_X6_signOf 40 [.iconst (14), .goto (97)] ls st g M Q := q_T_next rfl
theorem b_X6_signOf_40 : q_T md d qP_X6_signOf 40 [] ls st g M Q = q_T md d qP_X6_signOf 49 [.aload 0, .getfield 621, .iconst (61), .if_icmp .ne (54)] ls st g M Q := q_T_next rfl
theorem b_X6_signOf_49 : q_T md d qP_X6_signOf 49 [] ls st g M Q = q_T md d qP_X6_signOf 54 [.iconst (15), .goto (97)] ls st g M Q := q_T_next rfl
theorem b_X6_signOf_54 : q_T md d qP_X6_signOf 54 [] ls st g M Q = q_T md d qP_X6_signOf 63 [.aload 0, .getfield 621, .iconst (43), .if_icmp .ne (68)] ls st g M Q := q_T_next rfl
theorem b_X6_signOf_63 : q_T md d qP_X6_signOf 63 [] ls st g M Q = q_T md d qP_X6_signOf 68 [.iconst (16), .goto (97)] ls st g M Q := q_T_next rfl
theorem b_X6_signOf_68 : q_T md d qP_X6_signOf 68 [] ls st g M Q = q_T md d qP_X6_signOf 77 [.aload 0, .getfield 621, .iconst (45), .if_icmp .ne (82)] ls st g M Q := q_T_next rfl
theorem b_X6_signOf_77 : q_T md d qP_X6_signOf 77 [] ls st g M Q = q_T md d qP_X6_signOf 82 [.iconst (17), .goto (97)] ls st g M Q := q_T_next rfl
theorem b_X6_signOf_82 : q_T md d qP_X6_signOf 82 [] ls st g M Q = q_T md d qP_X6_signOf 91 [.aload 0, .getfield 621, .iconst (42), .if_icmp .ne (96)] ls st g M Q := q_T_next rfl
theorem b_X6_signOf_91 : q_T md d qP_X6_signOf 91 [] ls st g M Q = q_T md d qP_X6_signOf 96 [.iconst (18), .goto (97)] ls st g M Q := q_T_next rfl
theorem b_X6_signOf_96 : q_T md d qP_X6_signOf 96 [] ls st g M Q = q_T md d qP_X6_signOf 97 [.iconst (-1)] ls st g M Q := q_T_next rfl
theorem b_X6_signOf_97 : q_T md d qP_X6_signOf 97 [] ls st g M Q = q_T md d qP_X6_signOf 98 [.ret 0] ls st g M Q := q_T_next rfl
theorem s_X6_eRead {w : Nat} : q_S md d 132 [qR 6 w] g M Q = q_T md d qP_X6_eRead 0 [] [qR 6 w, qS 0, qS 0, qS 0] [] g M Q := rfl
theorem b_X6_eRead_0 : q_T md d qP_X6_eRead 0 [] ls st g M Q = q_T md d qP_X6_eRead 14 [.aload 0, .iconst (0), .putfield 625, .aload 0, .iconst (0), .putfield 626, .iconst (1), .istore 1, .iconst (1), .istore 2] ls st g M Q := q_T_next rfl
theorem b_X6_eRead_14 : q_T md d qP_X6_eRead 14 [] ls st g M Q = q_T md d qP_X6_eRead 22 [.aload 0, .invokestatic 124, .iload 1, .ifCond .eq (150)] ls st g M Q := q_T_next rfl
theorem b_X6_eRead_22 : q_T md d qP_X6_eRead 22 [] ls st g M Q = q_T md d qP_X6_eRead 30 [.aload 0, .getfield 621, .iconst (1), .if_icmp .eq (38)] ls st g M Q := q_T_next rfl
theorem b_X6_eRead_30 : q_T md d qP_X6_eRead 30 [] ls st g M Q = q_T md d qP_X6_eRead 38 [.aload 0, .getfield 621, .iconst (2), .if_icmp .ne (75)] ls st g M Q := q_T_next rfl
theorem b_X6_eRead_38 : q_T md d qP_X6_eRead 38 [] ls st g M Q = q_T md d qP_X6_eRead 47 [.aload 0, .aload 0, .getfield 621, .iconst (1), .if_icmp .ne (57)] ls st g M Q := q_T_next rfl
theorem b_X6_eRead_47 : q_T md d qP_X6_eRead 47 [] ls st g M Q = q_T md d qP_X6_eRead 57 [.iconst (100000), .aload 0, .getfield 622, .iadd, .goto (61)] ls st g M Q := q_T_next rfl
theorem b_X6_eRead_57 : q_T md d qP_X6_eRead 57 [] ls st g M Q = q_T md d qP_X6_eRead 61 [.aload 0, .getfield 622] ls st g M Q := q_T_next rfl
theorem b_X6_eRead_61 : q_T md d qP_X6_eRead 61 [] ls st g M Q = q_T md d qP_X6_eRead 75 [.invokestatic 126, .aload 0, .iconst (7), .invokestatic 127, .iconst (0), .istore 1, .goto (14)] ls st g M Q := q_T_next rfl
theorem b_X6_eRead_75 : q_T md d qP_X6_eRead 75 [] ls st g M Q = q_T md d qP_X6_eRead 84 [.aload 0, .getfield 621, .iconst (6), .if_icmp .ne (99)] ls st g M Q := q_T_next rfl
theorem b_X6_eRead_84 : q_T md d qP_X6_eRead 84 [] ls st g M Q = q_T md d qP_X6_eRead 88 [.iload 2, .ifCond .eq (99)] ls st g M Q := q_T_next rfl
theorem b_X6_eRead_88 : q_T md d qP_X6_eRead 88 [] ls st g M Q = q_T md d qP_X6_eRead 97 [.aload 0, .iconst (13), .invokestatic 129, .ifCond .ne (14)] ls st g M Q := q_T_next rfl
theorem b_X6_eRead_97 : q_T md d qP_X6_eRead 97 [] ls st g M Q = q_T md d qP_X6_eRead 99 [.iconst (0), .ret 1] ls st g M Q := q_T_next rfl
theorem b_X6_eRead_99 : q_T md d qP_X6_eRead 99 [] ls st g M Q = q_T md d qP_X6_eRead 108 [.aload 0, .getfield 621, .iconst (45), .if_icmp .ne (124)] ls st g M Q := q_T_next rfl
theorem b_X6_eRead_108 : q_T md d qP_X6_eRead 108 [] ls st g M Q = q_T md d qP_X6_eRead 117 [.aload 0, .iconst (19), .invokestatic 129, .ifCond .ne (119)] ls st g M Q := q_T_next rfl
theorem b_X6_eRead_117 : q_T md d qP_X6_eRead 117 [] ls st g M Q = q_T md d qP_X6_eRead 119 [.iconst (0), .ret 1] ls st g M Q := q_T_next rfl
theorem b_X6_eRead_119 : q_T md d qP_X6_eRead 119 [] ls st g M Q = q_T md d qP_X6_eRead 124 [.iconst (0), .istore 2, .goto (14)] ls st g M Q := q_T_next rfl
theorem b_X6_eRead_124 : q_T md d qP_X6_eRead 124 [] ls st g M Q = q_T md d qP_X6_eRead 133 [.aload 0, .getfield 621, .iconst (40), .if_icmp .ne (148)] ls st g M Q := q_T_next rfl
theorem b_X6_eRead_133 : q_T md d qP_X6_eRead 133 [] ls st g M Q = q_T md d qP_X6_eRead 141 [.aload 0, .iconst (0), .invokestatic 129, .ifCond .ne (143)] ls st g M Q := q_T_next rfl
theorem b_X6_eRead_141 : q_T md d qP_X6_eRead 141 [] ls st g M Q = q_T md d qP_X6_eRead 143 [.iconst (0), .ret 1] ls st g M Q := q_T_next rfl
theorem b_X6_eRead_143 : q_T md d qP_X6_eRead 143 [] ls st g M Q = q_T md d qP_X6_eRead 148 [.iconst (1), .istore 2, .goto (14)] ls st g M Q := q_T_next rfl
theorem b_X6_eRead_148 : q_T md d qP_X6_eRead 148 [] ls st g M Q = q_T md d qP_X6_eRead 150 [.iconst (0), .ret 1] ls st g M Q := q_T_next rfl
theorem b_X6_eRead_150 : q_T md d qP_X6_eRead 150 [] ls st g M Q = q_T md d qP_X6_eRead 159 [.aload 0, .getfield 621, .iconst (59), .if_icmp .ne (177)] ls st g M Q := q_T_next rfl
theorem b_X6_eRead_159 : q_T md d qP_X6_eRead 159 [] ls st g M Q = q_T md d qP_X6_eRead 171 [.aload 0, .iconst (1), .invokestatic 127, .aload 0, .getfield 625, .ifCond .ne (175)] ls st g M Q := q_T_next rfl
theorem b_X6_eRead_171 : q_T md d qP_X6_eRead 171 [] ls st g M Q = q_T md d qP_X6_eRead 175 [.iconst (1), .goto (176)] ls st g M Q := q_T_next rfl
theorem b_X6_eRead_175 : q_T md d qP_X6_eRead 175 [] ls st g M Q = q_T md d qP_X6_eRead 176 [.iconst (0)] ls st g M Q := q_T_next rfl
theorem b_X6_eRead_176 : q_T md d qP_X6_eRead 176 [] ls st g M Q = q_T md d qP_X6_eRead 177 [.ret 1] ls st g M Q := q_T_next rfl
theorem b_X6_eRead_177 : q_T md d qP_X6_eRead 177 [] ls st g M Q = q_T md d qP_X6_eRead 186 [.aload 0, .getfield 621, .iconst (41), .if_icmp .ne (229)] ls st g M Q := q_T_next rfl
theorem b_X6_eRead_186 : q_T md d qP_X6_eRead 186 [] ls st g M Q = q_T md d qP_X6_eRead 198 [.aload 0, .iconst (1), .invokestatic 127, .aload 0, .getfield 625, .ifCond .ne (200)] ls st g M Q := q_T_next rfl
theorem b_X6_eRead_198 : q_T md d qP_X6_eRead 198 [] ls st g M Q = q_T md d qP_X6_eRead 200 [.iconst (0), .ret 1] ls st g M Q := q_T_next rfl
theorem b_X6_eRead_200 : q_T md d qP_X6_eRead 200 [] ls st g M Q = q_T md d qP_X6_eRead 229 [.aload 0, .dup, .getfield 625, .iconst (1), .isub, .putfield 625, .aload 0, .dup, .getfield 626, .iconst (1), .isub, .putfield 626, .aload 0, .iconst (7), .invokestatic 127, .goto (14)] ls st g M Q := q_T_next rfl
theorem b_X6_eRead_229 : q_T md d qP_X6_eRead 229 [] ls st g M Q = q_T md d qP_X6_eRead 239 [.aload 0, .invokestatic 131, .istore 3, .iload 3, .iconst (-1), .if_icmp .eq (247)] ls st g M Q := q_T_next rfl
theorem b_X6_eRead_239 : q_T md d qP_X6_eRead 239 [] ls st g M Q = q_T md d qP_X6_eRead 247 [.aload 0, .iload 3, .invokestatic 130, .ifCond .ne (249)] ls st g M Q := q_T_next rfl
theorem b_X6_eRead_247 : q_T md d qP_X6_eRead 247 [] ls st g M Q = q_T md d qP_X6_eRead 249 [.iconst (0), .ret 1] ls st g M Q := q_T_next rfl
theorem b_X6_eRead_249 : q_T md d qP_X6_eRead 249 [] ls st g M Q = q_T md d qP_X6_eRead 257 [.iconst (1), .istore 1, .iload 3, .iconst (12), .if_icmp .gt (261)] ls st g M Q := q_T_next rfl
theorem b_X6_eRead_257 : q_T md d qP_X6_eRead 257 [] ls st g M Q = q_T md d qP_X6_eRead 261 [.iconst (1), .goto (262)] ls st g M Q := q_T_next rfl
theorem b_X6_eRead_261 : q_T md d qP_X6_eRead 261 [] ls st g M Q = q_T md d qP_X6_eRead 262 [.iconst (0)] ls st g M Q := q_T_next rfl
theorem b_X6_eRead_262 : q_T md d qP_X6_eRead 262 [] ls st g M Q = q_T md d qP_X6_eRead 266 [.istore 2, .goto (14)] ls st g M Q := q_T_next rfl
theorem s_X6_text {w : Nat} : q_S md d 133 [qR 6 w] g M Q = q_T md d qP_X6_text 0 [] [qR 6 w, qS 0, qS 0] [] g M Q := rfl
theorem b_X6_text_0 : q_T md d qP_X6_text 0 [] ls st g M Q = q_T md d qP_X6_text 9 [.aload 0, .getfield 610, .iconst (6), .if_icmp .ne (12)] ls st g M Q := q_T_next rfl
theorem b_X6_text_9 : q_T md d qP_X6_text 9 [] ls st g M Q = q_T md d qP_X6_text 12 [.iconst (-4), .ret 0] ls st g M Q := q_T_next rfl
theorem b_X6_text_12 : q_T md d qP_X6_text 12 [] ls st g M Q = q_T md d qP_X6_text 26 [.aload 0, .iconst (0), .putfield 619, .aload 0, .iconst (0), .putfield 627, .iconst (1), .istore 1, .iconst (0), .istore 2] ls st g M Q := q_T_next rfl
theorem b_X6_text_26 : q_T md d qP_X6_text 26 [] ls st g M Q = q_T md d qP_X6_text 31 [.iload 2, .iconst (3), .if_icmp .ge (101)] ls st g M Q := q_T_next rfl
theorem b_X6_text_31 : q_T md d qP_X6_text 31 [] ls st g M Q = q_T md d qP_X6_text 35 [.iload 1, .ifCond .eq (101)] ls st g M Q := q_T_next rfl
theorem b_X6_text_35 : q_T md d qP_X6_text 35 [] ls st g M Q = q_T md d qP_X6_text 47 [.aload 0, .invokestatic 124, .aload 0, .getfield 621, .iconst (3), .if_icmp .ne (59)] ls st g M Q := q_T_next rfl
theorem b_X6_text_47 : q_T md d qP_X6_text 47 [] ls st g M Q = q_T md d qP_X6_text 55 [.aload 0, .getfield 622, .iload 2, .if_icmp .ne (59)] ls st g M Q := q_T_next rfl
theorem b_X6_text_55 : q_T md d qP_X6_text 55 [] ls st g M Q = q_T md d qP_X6_text 59 [.iconst (1), .goto (60)] ls st g M Q := q_T_next rfl
theorem b_X6_text_59 : q_T md d qP_X6_text 59 [] ls st g M Q = q_T md d qP_X6_text 60 [.iconst (0)] ls st g M Q := q_T_next rfl
theorem b_X6_text_60 : q_T md d qP_X6_text 60 [] ls st g M Q = q_T md d qP_X6_text 82 [.istore 1, .aload 0, .getfield 609, .iconst (4), .aload 0, .getfield 610, .imul, .iload 2, .iadd, .aload 0, .getfield 627, .iastore, .iload 1, .ifCond .eq (93)] ls st g M Q := q_T_next rfl
theorem b_X6_text_82 : q_T md d qP_X6_text 82 [] ls st g M Q = q_T md d qP_X6_text 89 [.aload 0, .invokestatic 132, .ifCond .eq (93)] ls st g M Q := q_T_next rfl
theorem b_X6_text_89 : q_T md d qP_X6_text 89 [] ls st g M Q = q_T md d qP_X6_text 93 [.iconst (1), .goto (94)] ls st g M Q := q_T_next rfl
theorem b_X6_text_93 : q_T md d qP_X6_text 93 [] ls st g M Q = q_T md d qP_X6_text 94 [.iconst (0)] ls st g M Q := q_T_next rfl
theorem b_X6_text_94 : q_T md d qP_X6_text 94 [] ls st g M Q = q_T md d qP_X6_text 101 [.istore 1, .iinc 2 (1), .goto (26)] ls st g M Q := q_T_next rfl
theorem b_X6_text_101 : q_T md d qP_X6_text 101 [] ls st g M Q = q_T md d qP_X6_text 105 [.iload 1, .ifCond .eq (122)] ls st g M Q := q_T_next rfl
theorem b_X6_text_105 : q_T md d qP_X6_text 105 [] ls st g M Q = q_T md d qP_X6_text 116 [.aload 0, .invokestatic 124, .aload 0, .getfield 621, .ifCond .ne (120)] ls st g M Q := q_T_next rfl
theorem b_X6_text_116 : q_T md d qP_X6_text 116 [] ls st g M Q = q_T md d qP_X6_text 120 [.iconst (1), .goto (121)] ls st g M Q := q_T_next rfl
theorem b_X6_text_120 : q_T md d qP_X6_text 120 [] ls st g M Q = q_T md d qP_X6_text 121 [.iconst (0)] ls st g M Q := q_T_next rfl
theorem b_X6_text_121 : q_T md d qP_X6_text 121 [] ls st g M Q = q_T md d qP_X6_text 122 [.istore 1] ls st g M Q := q_T_next rfl
theorem b_X6_text_122 : q_T md d qP_X6_text 122 [] ls st g M Q = q_T md d qP_X6_text 148 [.aload 0, .getfield 609, .iconst (4), .aload 0, .getfield 610, .imul, .iconst (3), .iadd, .aload 0, .getfield 627, .iastore, .aload 0, .iconst (0), .putfield 607, .iload 1, .ifCond .ne (156)] ls st g M Q := q_T_next rfl
theorem b_X6_text_148 : q_T md d qP_X6_text 148 [] ls st g M Q = q_T md d qP_X6_text 156 [.iconst (-100), .aload 0, .getfield 620, .isub, .ret 0] ls st g M Q := q_T_next rfl
theorem b_X6_text_156 : q_T md d qP_X6_text 156 [] ls st g M Q = q_T md d qP_X6_text 173 [.aload 0, .dup, .getfield 610, .iconst (1), .iadd, .putfield 610, .aload 0, .getfield 610, .iconst (1), .isub, .ret 0] ls st g M Q := q_T_next rfl
theorem s_X6_two {x0 : Int} {x1 : Int} {x2 : Int} : q_S md d 134 [qI x0, qI x1, qI x2] g M Q = q_T md d qP_X6_two 0 [] [qI x0, qI x1, qI x2] [] g M Q := rfl
theorem b_X6_two_0 : q_T md d qP_X6_two 0 [] ls st g M Q = q_T md d qP_X6_two 44 [.iload 0, .tableswitch (102) (11) (17) #[44, 58, 102, 72, 83, 94, 98]] ls st g M Q := q_T_next rfl
theorem b_X6_two_44 : q_T md d qP_X6_two 44 [] ls st g M Q = q_T md d qP_X6_two 48 [.iload 1, .ifCond .ne (52)] ls st g M Q := q_T_next rfl
theorem b_X6_two_48 : q_T md d qP_X6_two 48 [] ls st g M Q = q_T md d qP_X6_two 52 [.iload 2, .ifCond .eq (56)] ls st g M Q := q_T_next rfl
theorem b_X6_two_52 : q_T md d qP_X6_two 52 [] ls st g M Q = q_T md d qP_X6_two 56 [.iconst (1), .goto (57)] ls st g M Q := q_T_next rfl
theorem b_X6_two_56 : q_T md d qP_X6_two 56 [] ls st g M Q = q_T md d qP_X6_two 57 [.iconst (0)] ls st g M Q := q_T_next rfl
theorem b_X6_two_57 : q_T md d qP_X6_two 57 [] ls st g M Q = q_T md d qP_X6_two 58 [.ret 0] ls st g M Q := q_T_next rfl
theorem b_X6_two_58 : q_T md d qP_X6_two 58 [] ls st g M Q = q_T md d qP_X6_two 62 [.iload 1, .ifCond .eq (70)] ls st g M Q := q_T_next rfl
theorem b_X6_two_62 : q_T md d qP_X6_two 62 [] ls st g M Q = q_T md d qP_X6_two 66 [.iload 2, .ifCond .eq (70)] ls st g M Q := q_T_next rfl
theorem b_X6_two_66 : q_T md d qP_X6_two 66 [] ls st g M Q = q_T md d qP_X6_two 70 [.iconst (1), .goto (71)] ls st g M Q := q_T_next rfl
theorem b_X6_two_70 : q_T md d qP_X6_two 70 [] ls st g M Q = q_T md d qP_X6_two 71 [.iconst (0)] ls st g M Q := q_T_next rfl
theorem b_X6_two_71 : q_T md d qP_X6_two 71 [] ls st g M Q = q_T md d qP_X6_two 72 [.ret 0] ls st g M Q := q_T_next rfl
theorem b_X6_two_72 : q_T md d qP_X6_two 72 [] ls st g M Q = q_T md d qP_X6_two 77 [.iload 1, .iload 2, .if_icmp .ge (81)] ls st g M Q := q_T_next rfl
theorem b_X6_two_77 : q_T md d qP_X6_two 77 [] ls st g M Q = q_T md d qP_X6_two 81 [.iconst (1), .goto (82)] ls st g M Q := q_T_next rfl
theorem b_X6_two_81 : q_T md d qP_X6_two 81 [] ls st g M Q = q_T md d qP_X6_two 82 [.iconst (0)] ls st g M Q := q_T_next rfl
theorem b_X6_two_82 : q_T md d qP_X6_two 82 [] ls st g M Q = q_T md d qP_X6_two 83 [.ret 0] ls st g M Q := q_T_next rfl
theorem b_X6_two_83 : q_T md d qP_X6_two 83 [] ls st g M Q = q_T md d qP_X6_two 88 [.iload 1, .iload 2, .if_icmp .ne (92)] ls st g M Q := q_T_next rfl
theorem b_X6_two_88 : q_T md d qP_X6_two 88 [] ls st g M Q = q_T md d qP_X6_two 92 [.iconst (1), .goto (93)] ls st g M Q := q_T_next rfl
theorem b_X6_two_92 : q_T md d qP_X6_two 92 [] ls st g M Q = q_T md d qP_X6_two 93 [.iconst (0)] ls st g M Q := q_T_next rfl
theorem b_X6_two_93 : q_T md d qP_X6_two 93 [] ls st g M Q = q_T md d qP_X6_two 94 [.ret 0] ls st g M Q := q_T_next rfl
theorem b_X6_two_94 : q_T md d qP_X6_two 94 [] ls st g M Q = q_T md d qP_X6_two 98 [.iload 1, .iload 2, .iadd, .ret 0] ls st g M Q := q_T_next rfl
theorem b_X6_two_98 : q_T md d qP_X6_two 98 [] ls st g M Q = q_T md d qP_X6_two 102 [.iload 1, .iload 2, .isub, .ret 0] ls st g M Q := q_T_next rfl
theorem b_X6_two_102 : q_T md d qP_X6_two 102 [] ls st g M Q = q_T md d qP_X6_two 106 [.iload 1, .iload 2, .imul, .ret 0] ls st g M Q := q_T_next rfl
theorem s_X6_says {w : Nat} {x0 : Int} : q_S md d 135 [qR 6 w, qI x0] g M Q = q_T md d qP_X6_says 0 [] [qR 6 w, qI x0, qS 0, qS 0, qS 0] [] g M Q := rfl
theorem b_X6_says_0 : q_T md d qP_X6_says 0 [] ls st g M Q = q_T md d qP_X6_says 16 [.iconst (0), .istore 2, .aload 0, .getfield 609, .iconst (4), .aload 0, .getfield 611, .imul, .iload 1, .iadd, .iaload, .istore 3] ls st g M Q := q_T_next rfl
theorem b_X6_says_16 : q_T md d qP_X6_says 16 [] ls st g M Q = q_T md d qP_X6_says 35 [.iload 3, .aload 0, .getfield 609, .iconst (4), .aload 0, .getfield 611, .imul, .iload 1, .iadd, .iconst (1), .iadd, .iaload, .if_icmp .ge (197)] ls st g M Q := q_T_next rfl
theorem b_X6_says_35 : q_T md d qP_X6_says 35 [] ls st g M Q = q_T md d qP_X6_says 59 [.aload 0, .getfield 608, .iconst (200), .aload 0, .getfield 611, .imul, .iload 3, .iadd, .iaload, .istore 4, .iload 4, .iconst (100000), .if_icmp .ge (66)] ls st g M Q := q_T_next rfl
theorem b_X6_says_59 : q_T md d qP_X6_says 59 [] ls st g M Q = q_T md d qP_X6_says 66 [.iload 4, .iconst (11), .if_icmp .ge (100)] ls st g M Q := q_T_next rfl
theorem b_X6_says_66 : q_T md d qP_X6_says 66 [] ls st g M Q = q_T md d qP_X6_says 78 [.aload 0, .getfield 628, .iload 2, .iload 4, .iconst (11), .if_icmp .ge (88)] ls st g M Q := q_T_next rfl
theorem b_X6_says_78 : q_T md d qP_X6_says 78 [] ls st g M Q = q_T md d qP_X6_says 88 [.aload 0, .getfield 629, .iload 4, .iaload, .goto (93)] ls st g M Q := q_T_next rfl
theorem b_X6_says_88 : q_T md d qP_X6_says 88 [] ls st g M Q = q_T md d qP_X6_says 93 [.iload 4, .iconst (100000), .isub] ls st g M Q := q_T_next rfl
theorem b_X6_says_93 : q_T md d qP_X6_says 93 [] ls st g M Q = q_T md d qP_X6_says 100 [.iastore, .iinc 2 (1), .goto (191)] ls st g M Q := q_T_next rfl
theorem b_X6_says_100 : q_T md d qP_X6_says 100 [] ls st g M Q = q_T md d qP_X6_says 107 [.iload 4, .iconst (13), .if_icmp .ne (134)] ls st g M Q := q_T_next rfl
theorem b_X6_says_107 : q_T md d qP_X6_says 107 [] ls st g M Q = q_T md d qP_X6_says 125 [.aload 0, .getfield 628, .iload 2, .iconst (1), .isub, .aload 0, .getfield 628, .iload 2, .iconst (1), .isub, .iaload, .ifCond .ne (129)] ls st g M Q := q_T_next rfl
theorem b_X6_says_125 : q_T md d qP_X6_says 125 [] ls st g M Q = q_T md d qP_X6_says 129 [.iconst (1), .goto (130)] ls st g M Q := q_T_next rfl
theorem b_X6_says_129 : q_T md d qP_X6_says 129 [] ls st g M Q = q_T md d qP_X6_says 130 [.iconst (0)] ls st g M Q := q_T_next rfl
theorem b_X6_says_130 : q_T md d qP_X6_says 130 [] ls st g M Q = q_T md d qP_X6_says 134 [.iastore, .goto (191)] ls st g M Q := q_T_next rfl
theorem b_X6_says_134 : q_T md d qP_X6_says 134 [] ls st g M Q = q_T md d qP_X6_says 141 [.iload 4, .iconst (19), .if_icmp .ne (161)] ls st g M Q := q_T_next rfl
theorem b_X6_says_141 : q_T md d qP_X6_says 141 [] ls st g M Q = q_T md d qP_X6_says 161 [.aload 0, .getfield 628, .iload 2, .iconst (1), .isub, .aload 0, .getfield 628, .iload 2, .iconst (1), .isub, .iaload, .ineg, .iastore, .goto (191)] ls st g M Q := q_T_next rfl
theorem b_X6_says_161 : q_T md d qP_X6_says 161 [] ls st g M Q = q_T md d qP_X6_says 191 [.iinc 2 (-1), .aload 0, .getfield 628, .iload 2, .iconst (1), .isub, .iload 4, .aload 0, .getfield 628, .iload 2, .iconst (1), .isub, .iaload, .aload 0, .getfield 628, .iload 2, .iaload, .invokestatic 134, .iastore] ls st g M Q := q_T_next rfl
theorem b_X6_says_191 : q_T md d qP_X6_says 191 [] ls st g M Q = q_T md d qP_X6_says 197 [.iinc 3 (1), .goto (16)] ls st g M Q := q_T_next rfl
theorem b_X6_says_197 : q_T md d qP_X6_says 197 [] ls st g M Q = q_T md d qP_X6_says 204 [.aload 0, .getfield 628, .iconst (0), .iaload, .ret 0] ls st g M Q := q_T_next rfl
theorem s_X6_force {w : Nat} {x0 : Int} : q_S md d 136 [qR 6 w, qI x0] g M Q = q_T md d qP_X6_force 0 [] [qR 6 w, qI x0, qS 0] [] g M Q := rfl
theorem b_X6_force_0 : q_T md d qP_X6_force 0 [] ls st g M Q = q_T md d qP_X6_force 14 [.iload 1, .iconst (0), .aload 0, .getfield 610, .iconst (1), .isub, .invokestatic 110, .ifCond .ne (17)] ls st g M Q := q_T_next rfl
theorem b_X6_force_14 : q_T md d qP_X6_force 14 [] ls st g M Q = q_T md d qP_X6_force 17 [.iconst (-2), .ret 0] ls st g M Q := q_T_next rfl
theorem b_X6_force_17 : q_T md d qP_X6_force 17 [] ls st g M Q = q_T md d qP_X6_force 29 [.aload 0, .getfield 611, .istore 2, .aload 0, .iload 1, .putfield 611, .iload 2, .ret 0] ls st g M Q := q_T_next rfl
theorem s_X6_asksOf {w : Nat} {x0 : Int} {x1 : Int} {x2 : Int} : q_S md d 137 [qR 6 w, qI x0, qI x1, qI x2] g M Q = q_T md d qP_X6_asksOf 0 [] [qR 6 w, qI x0, qI x1, qI x2, qS 0] [] g M Q := rfl
theorem b_X6_asksOf_0 : q_T md d qP_X6_asksOf 0 [] ls st g M Q = q_T md d qP_X6_asksOf 26 [.aload 0, .getfield 629, .iconst (0), .iconst (0), .iastore, .aload 0, .getfield 629, .iconst (1), .iconst (0), .iastore, .aload 0, .getfield 629, .iconst (2), .iconst (0), .iastore, .iload 3, .iconst (-1), .if_icmp .eq (96)] ls st g M Q := q_T_next rfl
theorem b_X6_asksOf_26 : q_T md d qP_X6_asksOf 26 [] ls st g M Q = q_T md d qP_X6_asksOf 55 [.aload 0, .getfield 604, .iconst (3), .iload 2, .imul, .iaload, .aload 0, .getfield 603, .iconst (4), .iload 3, .imul, .iaload, .isub, .istore 4, .aload 0, .getfield 629, .iconst (0), .iload 4, .ifCond .ge (61)] ls st g M Q := q_T_next rfl
theorem b_X6_asksOf_55 : q_T md d qP_X6_asksOf 55 [] ls st g M Q = q_T md d qP_X6_asksOf 61 [.iload 4, .ineg, .goto (63)] ls st g M Q := q_T_next rfl
theorem b_X6_asksOf_61 : q_T md d qP_X6_asksOf 61 [] ls st g M Q = q_T md d qP_X6_asksOf 63 [.iload 4] ls st g M Q := q_T_next rfl
theorem b_X6_asksOf_63 : q_T md d qP_X6_asksOf 63 [] ls st g M Q = q_T md d qP_X6_asksOf 96 [.iastore, .aload 0, .getfield 629, .iconst (1), .aload 0, .getfield 603, .iconst (4), .iload 3, .imul, .iconst (2), .iadd, .iaload, .iastore, .aload 0, .getfield 629, .iconst (2), .aload 0, .getfield 603, .iconst (4), .iload 3, .imul, .iconst (3), .iadd, .iaload, .iastore] ls st g M Q := q_T_next rfl
theorem b_X6_asksOf_96 : q_T md d qP_X6_asksOf 96 [] ls st g M Q = q_T md d qP_X6_asksOf 144 [.aload 0, .getfield 629, .iconst (3), .aload 0, .getfield 604, .iconst (3), .iload 2, .imul, .iconst (1), .iadd, .iaload, .iastore, .aload 0, .getfield 629, .iconst (4), .aload 0, .getfield 605, .iastore, .aload 0, .getfield 629, .iconst (5), .aload 0, .getfield 602, .iload 2, .iaload, .iastore, .aload 0, .iload 1, .invokestatic 135, .iload 1, .iconst (2), .if_icmp .ne (148)] ls st g M Q := q_T_next rfl
theorem b_X6_asksOf_144 : q_T md d qP_X6_asksOf 144 [] ls st g M Q = q_T md d qP_X6_asksOf 148 [.iconst (0), .goto (150)] ls st g M Q := q_T_next rfl
theorem b_X6_asksOf_148 : q_T md d qP_X6_asksOf 148 [] ls st g M Q = q_T md d qP_X6_asksOf 150 [.iconst (-99)] ls st g M Q := q_T_next rfl
theorem b_X6_asksOf_150 : q_T md d qP_X6_asksOf 150 [] ls st g M Q = q_T md d qP_X6_asksOf 156 [.iconst (99), .invokestatic 111, .ret 0] ls st g M Q := q_T_next rfl
theorem s_X6_asks {w : Nat} {x0 : Int} {x1 : Int} {x2 : Int} : q_S md d 138 [qR 6 w, qI x0, qI x1, qI x2] g M Q = q_T md d qP_X6_asks 0 [] [qR 6 w, qI x0, qI x1, qI x2] [] g M Q := rfl
theorem b_X6_asks_0 : q_T md d qP_X6_asks 0 [] ls st g M Q = q_T md d qP_X6_asks 9 [.iload 1, .iconst (0), .iconst (2), .invokestatic 110, .ifCond .eq (36)] ls st g M Q := q_T_next rfl
theorem b_X6_asks_9 : q_T md d qP_X6_asks 9 [] ls st g M Q = q_T md d qP_X6_asks 17 [.aload 0, .iload 2, .invokestatic 112, .ifCond .eq (36)] ls st g M Q := q_T_next rfl
theorem b_X6_asks_17 : q_T md d qP_X6_asks 17 [] ls st g M Q = q_T md d qP_X6_asks 26 [.iload 3, .iconst (-1), .iconst (4), .invokestatic 110, .ifCond .eq (36)] ls st g M Q := q_T_next rfl
theorem b_X6_asks_26 : q_T md d qP_X6_asks 26 [] ls st g M Q = q_T md d qP_X6_asks 36 [.aload 0, .iload 1, .iload 2, .iload 3, .invokestatic 137, .goto (39)] ls st g M Q := q_T_next rfl
theorem b_X6_asks_36 : q_T md d qP_X6_asks 36 [] ls st g M Q = q_T md d qP_X6_asks 39 [.iconst (-1000)] ls st g M Q := q_T_next rfl
theorem b_X6_asks_39 : q_T md d qP_X6_asks 39 [] ls st g M Q = q_T md d qP_X6_asks 40 [.ret 0] ls st g M Q := q_T_next rfl
theorem s_X6_stone {w : Nat} {x0 : Int} {x1 : Int} {x2 : Int} : q_S md d 139 [qR 6 w, qI x0, qI x1, qI x2] g M Q = q_T md d qP_X6_stone 0 [] [qR 6 w, qI x0, qI x1, qI x2] [] g M Q := rfl
theorem b_X6_stone_0 : q_T md d qP_X6_stone 0 [] ls st g M Q = q_T md d qP_X6_stone 10 [.iload 1, .iconst (0), .iconst (59), .invokestatic 110, .ifCond .eq (30)] ls st g M Q := q_T_next rfl
theorem b_X6_stone_10 : q_T md d qP_X6_stone 10 [] ls st g M Q = q_T md d qP_X6_stone 20 [.iload 2, .iconst (0), .iconst (99), .invokestatic 110, .ifCond .eq (30)] ls st g M Q := q_T_next rfl
theorem b_X6_stone_20 : q_T md d qP_X6_stone 20 [] ls st g M Q = q_T md d qP_X6_stone 30 [.iload 3, .iconst (0), .iconst (99), .invokestatic 110, .ifCond .ne (33)] ls st g M Q := q_T_next rfl
theorem b_X6_stone_30 : q_T md d qP_X6_stone 30 [] ls st g M Q = q_T md d qP_X6_stone 33 [.iconst (-2), .ret 0] ls st g M Q := q_T_next rfl
theorem b_X6_stone_33 : q_T md d qP_X6_stone 33 [] ls st g M Q = q_T md d qP_X6_stone 41 [.aload 0, .getfield 600, .iconst (5), .if_icmp .ne (44)] ls st g M Q := q_T_next rfl
theorem b_X6_stone_41 : q_T md d qP_X6_stone 41 [] ls st g M Q = q_T md d qP_X6_stone 44 [.iconst (-4), .ret 0] ls st g M Q := q_T_next rfl
theorem b_X6_stone_44 : q_T md d qP_X6_stone 44 [] ls st g M Q = q_T md d qP_X6_stone 127 [.aload 0, .getfield 601, .aload 0, .getfield 600, .iload 1, .iconst (10), .idiv, .iastore, .aload 0, .getfield 602, .aload 0, .getfield 600, .iload 1, .iconst (10), .irem, .iastore, .aload 0, .getfield 604, .iconst (3), .aload 0, .getfield 600, .imul, .iload 2, .iastore, .aload 0, .getfield 604, .iconst (3), .aload 0, .getfield 600, .imul, .iconst (1), .iadd, .iload 3, .iastore, .aload 0, .getfield 604, .iconst (3), .aload 0, .getfield 600, .imul, .iconst (2), .iadd, .iconst (-1), .iastore, .aload 0, .dup, .getfield 600, .iconst (1), .iadd, .putfield 600, .aload 0, .getfield 600, .iconst (1), .isub, .ret 0] ls st g M Q := q_T_next rfl
theorem s_X6_put {w : Nat} {x0 : Int} {x1 : Int} {x2 : Int} : q_S md d 140 [qR 6 w, qI x0, qI x1, qI x2] g M Q = q_T md d qP_X6_put 0 [] [qR 6 w, qI x0, qI x1, qI x2, qS 0] [] g M Q := rfl
theorem b_X6_put_0 : q_T md d qP_X6_put 0 [] ls st g M Q = q_T md d qP_X6_put 8 [.aload 0, .iload 1, .invokestatic 112, .ifCond .ne (11)] ls st g M Q := q_T_next rfl
theorem b_X6_put_8 : q_T md d qP_X6_put 8 [] ls st g M Q = q_T md d qP_X6_put 11 [.iconst (-5), .ret 0] ls st g M Q := q_T_next rfl
theorem b_X6_put_11 : q_T md d qP_X6_put 11 [] ls st g M Q = q_T md d qP_X6_put 20 [.iload 2, .iconst (0), .iconst (1), .invokestatic 110, .ifCond .eq (30)] ls st g M Q := q_T_next rfl
theorem b_X6_put_20 : q_T md d qP_X6_put 20 [] ls st g M Q = q_T md d qP_X6_put 30 [.iload 3, .iconst (0), .iconst (99), .invokestatic 110, .ifCond .ne (33)] ls st g M Q := q_T_next rfl
theorem b_X6_put_30 : q_T md d qP_X6_put 30 [] ls st g M Q = q_T md d qP_X6_put 33 [.iconst (-7), .ret 0] ls st g M Q := q_T_next rfl
theorem b_X6_put_33 : q_T md d qP_X6_put 33 [] ls st g M Q = q_T md d qP_X6_put 69 [.aload 0, .getfield 604, .iconst (3), .iload 1, .imul, .iload 2, .iadd, .iaload, .istore 4, .aload 0, .getfield 604, .iconst (3), .iload 1, .imul, .iload 2, .iadd, .iload 3, .iastore, .aload 0, .getfield 604, .iconst (3), .iload 1, .imul, .iconst (2), .iadd, .iload 2, .ifCond .ne (73)] ls st g M Q := q_T_next rfl
theorem b_X6_put_69 : q_T md d qP_X6_put 69 [] ls st g M Q = q_T md d qP_X6_put 73 [.iconst (-1), .goto (83)] ls st g M Q := q_T_next rfl
theorem b_X6_put_73 : q_T md d qP_X6_put 73 [] ls st g M Q = q_T md d qP_X6_put 83 [.aload 0, .getfield 604, .iconst (3), .iload 1, .imul, .iconst (2), .iadd, .iaload] ls st g M Q := q_T_next rfl
theorem b_X6_put_83 : q_T md d qP_X6_put 83 [] ls st g M Q = q_T md d qP_X6_put 87 [.iastore, .iload 4, .ret 0] ls st g M Q := q_T_next rfl
theorem s_X6_likesOf {w : Nat} {x0 : Int} {x1 : Int} : q_S md d 141 [qR 6 w, qI x0, qI x1] g M Q = q_T md d qP_X6_likesOf 0 [] [qR 6 w, qI x0, qI x1, qS 0] [] g M Q := rfl
theorem b_X6_likesOf_0 : q_T md d qP_X6_likesOf 0 [] ls st g M Q = q_T md d qP_X6_likesOf 48 [.aload 0, .iconst (0), .iload 1, .iload 2, .invokestatic 137, .istore 3, .aload 0, .getfield 601, .iload 1, .iaload, .tableswitch (116) (1) (5) #[48, 116, 48, 69, 91]] ls st g M Q := q_T_next rfl
theorem b_X6_likesOf_48 : q_T md d qP_X6_likesOf 48 [] ls st g M Q = q_T md d qP_X6_likesOf 60 [.iload 2, .aload 0, .getfield 602, .iload 1, .iaload, .iconst (5), .irem, .if_icmp .ne (65)] ls st g M Q := q_T_next rfl
theorem b_X6_likesOf_60 : q_T md d qP_X6_likesOf 60 [] ls st g M Q = q_T md d qP_X6_likesOf 65 [.iconst (99), .goto (68)] ls st g M Q := q_T_next rfl
theorem b_X6_likesOf_65 : q_T md d qP_X6_likesOf 65 [] ls st g M Q = q_T md d qP_X6_likesOf 68 [.iload 3, .iconst (2), .idiv] ls st g M Q := q_T_next rfl
theorem b_X6_likesOf_68 : q_T md d qP_X6_likesOf 68 [] ls st g M Q = q_T md d qP_X6_likesOf 69 [.ret 0] ls st g M Q := q_T_next rfl
theorem b_X6_likesOf_69 : q_T md d qP_X6_likesOf 69 [] ls st g M Q = q_T md d qP_X6_likesOf 84 [.aload 0, .getfield 603, .iconst (4), .iload 2, .imul, .iconst (2), .iadd, .iaload, .iconst (50), .if_icmp .le (89)] ls st g M Q := q_T_next rfl
theorem b_X6_likesOf_84 : q_T md d qP_X6_likesOf 84 [] ls st g M Q = q_T md d qP_X6_likesOf 89 [.iload 3, .ineg, .goto (90)] ls st g M Q := q_T_next rfl
theorem b_X6_likesOf_89 : q_T md d qP_X6_likesOf 89 [] ls st g M Q = q_T md d qP_X6_likesOf 90 [.iload 3] ls st g M Q := q_T_next rfl
theorem b_X6_likesOf_90 : q_T md d qP_X6_likesOf 90 [] ls st g M Q = q_T md d qP_X6_likesOf 91 [.ret 0] ls st g M Q := q_T_next rfl
theorem b_X6_likesOf_91 : q_T md d qP_X6_likesOf 91 [] ls st g M Q = q_T md d qP_X6_likesOf 110 [.aload 0, .getfield 603, .iconst (4), .iload 2, .imul, .iconst (3), .iadd, .iaload, .aload 0, .getfield 602, .iload 1, .iaload, .if_icmp .le (114)] ls st g M Q := q_T_next rfl
theorem b_X6_likesOf_110 : q_T md d qP_X6_likesOf 110 [] ls st g M Q = q_T md d qP_X6_likesOf 114 [.iconst (-1), .goto (115)] ls st g M Q := q_T_next rfl
theorem b_X6_likesOf_114 : q_T md d qP_X6_likesOf 114 [] ls st g M Q = q_T md d qP_X6_likesOf 115 [.iload 3] ls st g M Q := q_T_next rfl
theorem b_X6_likesOf_115 : q_T md d qP_X6_likesOf 115 [] ls st g M Q = q_T md d qP_X6_likesOf 116 [.ret 0] ls st g M Q := q_T_next rfl
theorem b_X6_likesOf_116 : q_T md d qP_X6_likesOf 116 [] ls st g M Q = q_T md d qP_X6_likesOf 118 [.iload 3, .ret 0] ls st g M Q := q_T_next rfl
theorem s_X6_wantedOf {w : Nat} {x0 : Int} {x1 : Int} : q_S md d 142 [qR 6 w, qI x0, qI x1] g M Q = q_T md d qP_X6_wantedOf 0 [] [qR 6 w, qI x0, qI x1, qS 0] [] g M Q := rfl
theorem b_X6_wantedOf_0 : q_T md d qP_X6_wantedOf 0 [] ls st g M Q = q_T md d qP_X6_wantedOf 40 [.aload 0, .iconst (1), .iload 1, .iload 2, .invokestatic 137, .istore 3, .aload 0, .getfield 601, .iload 1, .iaload, .tableswitch (80) (2) (4) #[40, 52, 55]] ls st g M Q := q_T_next rfl
theorem b_X6_wantedOf_40 : q_T md d qP_X6_wantedOf 40 [] ls st g M Q = q_T md d qP_X6_wantedOf 52 [.iload 3, .iconst (10), .aload 0, .getfield 602, .iload 1, .iaload, .imul, .iadd, .ret 0] ls st g M Q := q_T_next rfl
theorem b_X6_wantedOf_52 : q_T md d qP_X6_wantedOf 52 [] ls st g M Q = q_T md d qP_X6_wantedOf 55 [.iload 3, .ineg, .ret 0] ls st g M Q := q_T_next rfl
theorem b_X6_wantedOf_55 : q_T md d qP_X6_wantedOf 55 [] ls st g M Q = q_T md d qP_X6_wantedOf 64 [.aload 0, .getfield 605, .iconst (2), .irem, .ifCond .ne (78)] ls st g M Q := q_T_next rfl
theorem b_X6_wantedOf_64 : q_T md d qP_X6_wantedOf 64 [] ls st g M Q = q_T md d qP_X6_wantedOf 78 [.iload 3, .iconst (10), .aload 0, .getfield 602, .iload 1, .iaload, .imul, .iadd, .goto (79)] ls st g M Q := q_T_next rfl
theorem b_X6_wantedOf_78 : q_T md d qP_X6_wantedOf 78 [] ls st g M Q = q_T md d qP_X6_wantedOf 79 [.iload 3] ls st g M Q := q_T_next rfl
theorem b_X6_wantedOf_79 : q_T md d qP_X6_wantedOf 79 [] ls st g M Q = q_T md d qP_X6_wantedOf 80 [.ret 0] ls st g M Q := q_T_next rfl
theorem b_X6_wantedOf_80 : q_T md d qP_X6_wantedOf 80 [] ls st g M Q = q_T md d qP_X6_wantedOf 82 [.iload 3, .ret 0] ls st g M Q := q_T_next rfl
theorem s_X6_goesOf {w : Nat} {x0 : Int} : q_S md d 143 [qR 6 w, qI x0] g M Q = q_T md d qP_X6_goesOf 0 [] [qR 6 w, qI x0, qS 0, qS 0] [] g M Q := rfl
theorem b_X6_goesOf_0 : q_T md d qP_X6_goesOf 0 [] ls st g M Q = q_T md d qP_X6_goesOf 17 [.aload 0, .iconst (2), .iload 1, .iconst (-1), .invokestatic 137, .istore 2, .aload 0, .getfield 605, .iconst (10), .if_icmp .ge (21)] ls st g M Q := q_T_next rfl
theorem b_X6_goesOf_17 : q_T md d qP_X6_goesOf 17 [] ls st g M Q = q_T md d qP_X6_goesOf 21 [.iconst (0), .goto (22)] ls st g M Q := q_T_next rfl
theorem b_X6_goesOf_21 : q_T md d qP_X6_goesOf 21 [] ls st g M Q = q_T md d qP_X6_goesOf 22 [.iload 2] ls st g M Q := q_T_next rfl
theorem b_X6_goesOf_22 : q_T md d qP_X6_goesOf 22 [] ls st g M Q = q_T md d qP_X6_goesOf 64 [.istore 3, .aload 0, .getfield 601, .iload 1, .iaload, .tableswitch (81) (1) (5) #[64, 66, 70, 66, 79]] ls st g M Q := q_T_next rfl
theorem b_X6_goesOf_64 : q_T md d qP_X6_goesOf 64 [] ls st g M Q = q_T md d qP_X6_goesOf 66 [.iload 3, .ret 0] ls st g M Q := q_T_next rfl
theorem b_X6_goesOf_66 : q_T md d qP_X6_goesOf 66 [] ls st g M Q = q_T md d qP_X6_goesOf 70 [.iload 2, .iconst (2), .idiv, .ret 0] ls st g M Q := q_T_next rfl
theorem b_X6_goesOf_70 : q_T md d qP_X6_goesOf 70 [] ls st g M Q = q_T md d qP_X6_goesOf 79 [.iload 3, .aload 0, .getfield 602, .iload 1, .iaload, .iadd, .ret 0] ls st g M Q := q_T_next rfl
theorem b_X6_goesOf_79 : q_T md d qP_X6_goesOf 79 [] ls st g M Q = q_T md d qP_X6_goesOf 81 [.iconst (1), .ret 0] ls st g M Q := q_T_next rfl
theorem b_X6_goesOf_81 : q_T md d qP_X6_goesOf 81 [] ls st g M Q = q_T md d qP_X6_goesOf 83 [.iload 2, .ret 0] ls st g M Q := q_T_next rfl
theorem s_X6_wishOf {w : Nat} {x0 : Int} : q_S md d 144 [qR 6 w, qI x0] g M Q = q_T md d qP_X6_wishOf 0 [] [qR 6 w, qI x0, qS 0, qS 0, qS 0, qS 0] [] g M Q := rfl
theorem b_X6_wishOf_0 : q_T md d qP_X6_wishOf 0 [] ls st g M Q = q_T md d qP_X6_wishOf 7 [.iconst (-1), .istore 2, .iconst (0), .istore 3, .iconst (0), .istore 4] ls st g M Q := q_T_next rfl
theorem b_X6_wishOf_7 : q_T md d qP_X6_wishOf 7 [] ls st g M Q = q_T md d qP_X6_wishOf 13 [.iload 4, .iconst (5), .if_icmp .ge (54)] ls st g M Q := q_T_next rfl
theorem b_X6_wishOf_13 : q_T md d qP_X6_wishOf 13 [] ls st g M Q = q_T md d qP_X6_wishOf 28 [.aload 0, .iload 1, .iload 4, .invokestatic 141, .istore 5, .iload 5, .iload 3, .if_icmp .le (33)] ls st g M Q := q_T_next rfl
theorem b_X6_wishOf_28 : q_T md d qP_X6_wishOf 28 [] ls st g M Q = q_T md d qP_X6_wishOf 33 [.iload 4, .goto (34)] ls st g M Q := q_T_next rfl
theorem b_X6_wishOf_33 : q_T md d qP_X6_wishOf 33 [] ls st g M Q = q_T md d qP_X6_wishOf 34 [.iload 2] ls st g M Q := q_T_next rfl
theorem b_X6_wishOf_34 : q_T md d qP_X6_wishOf 34 [] ls st g M Q = q_T md d qP_X6_wishOf 41 [.istore 2, .iload 5, .iload 3, .if_icmp .le (46)] ls st g M Q := q_T_next rfl
theorem b_X6_wishOf_41 : q_T md d qP_X6_wishOf 41 [] ls st g M Q = q_T md d qP_X6_wishOf 46 [.iload 5, .goto (47)] ls st g M Q := q_T_next rfl
theorem b_X6_wishOf_46 : q_T md d qP_X6_wishOf 46 [] ls st g M Q = q_T md d qP_X6_wishOf 47 [.iload 3] ls st g M Q := q_T_next rfl
theorem b_X6_wishOf_47 : q_T md d qP_X6_wishOf 47 [] ls st g M Q = q_T md d qP_X6_wishOf 54 [.istore 3, .iinc 4 (1), .goto (7)] ls st g M Q := q_T_next rfl
theorem b_X6_wishOf_54 : q_T md d qP_X6_wishOf 54 [] ls st g M Q = q_T md d qP_X6_wishOf 56 [.iload 2, .ret 0] ls st g M Q := q_T_next rfl
theorem s_X6_told {w : Nat} {x0 : Int} {x1 : Int} : q_S md d 145 [qR 6 w, qI x0, qI x1] g M Q = q_T md d qP_X6_told 0 [] [qR 6 w, qI x0, qI x1] [] g M Q := rfl
theorem b_X6_told_0 : q_T md d qP_X6_told 0 [] ls st g M Q = q_T md d qP_X6_told 8 [.aload 0, .iload 1, .invokestatic 112, .ifCond .ne (11)] ls st g M Q := q_T_next rfl
theorem b_X6_told_8 : q_T md d qP_X6_told 8 [] ls st g M Q = q_T md d qP_X6_told 11 [.iconst (-5), .ret 0] ls st g M Q := q_T_next rfl
theorem b_X6_told_11 : q_T md d qP_X6_told 11 [] ls st g M Q = q_T md d qP_X6_told 56 [.iload 2, .tableswitch (93) (0) (6) #[56, 56, 56, 67, 74, 81, 87]] ls st g M Q := q_T_next rfl
theorem b_X6_told_56 : q_T md d qP_X6_told 56 [] ls st g M Q = q_T md d qP_X6_told 67 [.aload 0, .getfield 604, .iconst (3), .iload 1, .imul, .iload 2, .iadd, .iaload, .ret 0] ls st g M Q := q_T_next rfl
theorem b_X6_told_67 : q_T md d qP_X6_told 67 [] ls st g M Q = q_T md d qP_X6_told 74 [.aload 0, .getfield 601, .iload 1, .iaload, .ret 0] ls st g M Q := q_T_next rfl
theorem b_X6_told_74 : q_T md d qP_X6_told 74 [] ls st g M Q = q_T md d qP_X6_told 81 [.aload 0, .getfield 602, .iload 1, .iaload, .ret 0] ls st g M Q := q_T_next rfl
theorem b_X6_told_81 : q_T md d qP_X6_told 81 [] ls st g M Q = q_T md d qP_X6_told 87 [.aload 0, .iload 1, .invokestatic 144, .ret 0] ls st g M Q := q_T_next rfl
theorem b_X6_told_87 : q_T md d qP_X6_told 87 [] ls st g M Q = q_T md d qP_X6_told 93 [.aload 0, .iload 1, .invokestatic 143, .ret 0] ls st g M Q := q_T_next rfl
theorem b_X6_told_93 : q_T md d qP_X6_told 93 [] ls st g M Q = q_T md d qP_X6_told 96 [.iconst (-7), .ret 0] ls st g M Q := q_T_next rfl
theorem s_X6_love {w : Nat} {x0 : Int} {x1 : Int} {x2 : Int} : q_S md d 146 [qR 6 w, qI x0, qI x1, qI x2] g M Q = q_T md d qP_X6_love 0 [] [qR 6 w, qI x0, qI x1, qI x2] [] g M Q := rfl
theorem b_X6_love_0 : q_T md d qP_X6_love 0 [] ls st g M Q = q_T md d qP_X6_love 8 [.aload 0, .iload 1, .invokestatic 112, .ifCond .eq (15)] ls st g M Q := q_T_next rfl
theorem b_X6_love_8 : q_T md d qP_X6_love 8 [] ls st g M Q = q_T md d qP_X6_love 15 [.iload 2, .invokestatic 113, .ifCond .ne (19)] ls st g M Q := q_T_next rfl
theorem b_X6_love_15 : q_T md d qP_X6_love 15 [] ls st g M Q = q_T md d qP_X6_love 19 [.iconst (-5000), .ret 0] ls st g M Q := q_T_next rfl
theorem b_X6_love_19 : q_T md d qP_X6_love 19 [] ls st g M Q = q_T md d qP_X6_love 23 [.iload 3, .ifCond .ne (32)] ls st g M Q := q_T_next rfl
theorem b_X6_love_23 : q_T md d qP_X6_love 23 [] ls st g M Q = q_T md d qP_X6_love 32 [.aload 0, .iload 1, .iload 2, .invokestatic 141, .goto (49)] ls st g M Q := q_T_next rfl
theorem b_X6_love_32 : q_T md d qP_X6_love 32 [] ls st g M Q = q_T md d qP_X6_love 37 [.iload 3, .iconst (1), .if_icmp .ne (46)] ls st g M Q := q_T_next rfl
theorem b_X6_love_37 : q_T md d qP_X6_love 37 [] ls st g M Q = q_T md d qP_X6_love 46 [.aload 0, .iload 1, .iload 2, .invokestatic 142, .goto (49)] ls st g M Q := q_T_next rfl
theorem b_X6_love_46 : q_T md d qP_X6_love 46 [] ls st g M Q = q_T md d qP_X6_love 49 [.iconst (-7000)] ls st g M Q := q_T_next rfl
theorem b_X6_love_49 : q_T md d qP_X6_love 49 [] ls st g M Q = q_T md d qP_X6_love 50 [.ret 0] ls st g M Q := q_T_next rfl
theorem s_X6_lastIn {w : Nat} {x0 : Int} : q_S md d 147 [qR 6 w, qI x0] g M Q = q_T md d qP_X6_lastIn 0 [] [qR 6 w, qI x0, qS 0, qS 0, qS 0, qS 0, qS 0] [] g M Q := rfl
theorem b_X6_lastIn_0 : q_T md d qP_X6_lastIn 0 [] ls st g M Q = q_T md d qP_X6_lastIn 7 [.iconst (-1), .istore 2, .iconst (0), .istore 3, .iconst (0), .istore 4] ls st g M Q := q_T_next rfl
theorem b_X6_lastIn_7 : q_T md d qP_X6_lastIn 7 [] ls st g M Q = q_T md d qP_X6_lastIn 16 [.iload 4, .aload 0, .getfield 600, .if_icmp .ge (88)] ls st g M Q := q_T_next rfl
theorem b_X6_lastIn_16 : q_T md d qP_X6_lastIn 16 [] ls st g M Q = q_T md d qP_X6_lastIn 31 [.aload 0, .getfield 604, .iconst (3), .iload 4, .imul, .iconst (2), .iadd, .iaload, .iload 1, .if_icmp .ne (82)] ls st g M Q := q_T_next rfl
theorem b_X6_lastIn_31 : q_T md d qP_X6_lastIn 31 [] ls st g M Q = q_T md d qP_X6_lastIn 45 [.aload 0, .iload 4, .iload 1, .invokestatic 142, .istore 5, .iload 2, .iconst (-1), .if_icmp .eq (51)] ls st g M Q := q_T_next rfl
theorem b_X6_lastIn_45 : q_T md d qP_X6_lastIn 45 [] ls st g M Q = q_T md d qP_X6_lastIn 51 [.iload 5, .iload 3, .if_icmp .gt (55)] ls st g M Q := q_T_next rfl
theorem b_X6_lastIn_51 : q_T md d qP_X6_lastIn 51 [] ls st g M Q = q_T md d qP_X6_lastIn 55 [.iconst (1), .goto (56)] ls st g M Q := q_T_next rfl
theorem b_X6_lastIn_55 : q_T md d qP_X6_lastIn 55 [] ls st g M Q = q_T md d qP_X6_lastIn 56 [.iconst (0)] ls st g M Q := q_T_next rfl
theorem b_X6_lastIn_56 : q_T md d qP_X6_lastIn 56 [] ls st g M Q = q_T md d qP_X6_lastIn 63 [.istore 6, .iload 6, .ifCond .eq (68)] ls st g M Q := q_T_next rfl
theorem b_X6_lastIn_63 : q_T md d qP_X6_lastIn 63 [] ls st g M Q = q_T md d qP_X6_lastIn 68 [.iload 4, .goto (69)] ls st g M Q := q_T_next rfl
theorem b_X6_lastIn_68 : q_T md d qP_X6_lastIn 68 [] ls st g M Q = q_T md d qP_X6_lastIn 69 [.iload 2] ls st g M Q := q_T_next rfl
theorem b_X6_lastIn_69 : q_T md d qP_X6_lastIn 69 [] ls st g M Q = q_T md d qP_X6_lastIn 75 [.istore 2, .iload 6, .ifCond .eq (80)] ls st g M Q := q_T_next rfl
theorem b_X6_lastIn_75 : q_T md d qP_X6_lastIn 75 [] ls st g M Q = q_T md d qP_X6_lastIn 80 [.iload 5, .goto (81)] ls st g M Q := q_T_next rfl
theorem b_X6_lastIn_80 : q_T md d qP_X6_lastIn 80 [] ls st g M Q = q_T md d qP_X6_lastIn 81 [.iload 3] ls st g M Q := q_T_next rfl
theorem b_X6_lastIn_81 : q_T md d qP_X6_lastIn 81 [] ls st g M Q = q_T md d qP_X6_lastIn 82 [.istore 3] ls st g M Q := q_T_next rfl
theorem b_X6_lastIn_82 : q_T md d qP_X6_lastIn 82 [] ls st g M Q = q_T md d qP_X6_lastIn 88 [.iinc 4 (1), .goto (7)] ls st g M Q := q_T_next rfl
theorem b_X6_lastIn_88 : q_T md d qP_X6_lastIn 88 [] ls st g M Q = q_T md d qP_X6_lastIn 90 [.iload 2, .ret 0] ls st g M Q := q_T_next rfl
theorem s_X6_isFullSite {w : Nat} {x0 : Int} : q_S md d 148 [qR 6 w, qI x0] g M Q = q_T md d qP_X6_isFullSite 0 [] [qR 6 w, qI x0] [] g M Q := rfl
theorem b_X6_isFullSite_0 : q_T md d qP_X6_isFullSite 0 [] ls st g M Q = q_T md d qP_X6_isFullSite 21 [.aload 0, .iload 1, .invokestatic 115, .invokestatic 116, .aload 0, .getfield 603, .iconst (4), .iload 1, .imul, .iconst (1), .iadd, .iaload, .if_icmp .lt (25)] ls st g M Q := q_T_next rfl
theorem b_X6_isFullSite_21 : q_T md d qP_X6_isFullSite 21 [] ls st g M Q = q_T md d qP_X6_isFullSite 25 [.iconst (1), .goto (26)] ls st g M Q := q_T_next rfl
theorem b_X6_isFullSite_25 : q_T md d qP_X6_isFullSite 25 [] ls st g M Q = q_T md d qP_X6_isFullSite 26 [.iconst (0)] ls st g M Q := q_T_next rfl
theorem b_X6_isFullSite_26 : q_T md d qP_X6_isFullSite 26 [] ls st g M Q = q_T md d qP_X6_isFullSite 27 [.ret 1] ls st g M Q := q_T_next rfl
theorem s_X6_doesTake {w : Nat} {x0 : Int} {x1 : Int} : q_S md d 149 [qR 6 w, qI x0, qI x1] g M Q = q_T md d qP_X6_doesTake 0 [] [qR 6 w, qI x0, qI x1, qS 0, qS 0, qS 0] [] g M Q := rfl
theorem b_X6_doesTake_0 : q_T md d qP_X6_doesTake 0 [] ls st g M Q = q_T md d qP_X6_doesTake 8 [.aload 0, .iload 1, .invokestatic 148, .ifCond .ne (10)] ls st g M Q := q_T_next rfl
theorem b_X6_doesTake_8 : q_T md d qP_X6_doesTake 8 [] ls st g M Q = q_T md d qP_X6_doesTake 10 [.iconst (1), .ret 1] ls st g M Q := q_T_next rfl
theorem b_X6_doesTake_10 : q_T md d qP_X6_doesTake 10 [] ls st g M Q = q_T md d qP_X6_doesTake 21 [.aload 0, .iload 1, .invokestatic 147, .istore 3, .iload 3, .iconst (-1), .if_icmp .ne (23)] ls st g M Q := q_T_next rfl
theorem b_X6_doesTake_21 : q_T md d qP_X6_doesTake 21 [] ls st g M Q = q_T md d qP_X6_doesTake 23 [.iconst (0), .ret 1] ls st g M Q := q_T_next rfl
theorem b_X6_doesTake_23 : q_T md d qP_X6_doesTake 23 [] ls st g M Q = q_T md d qP_X6_doesTake 46 [.aload 0, .iload 2, .iload 1, .invokestatic 142, .istore 4, .aload 0, .iload 3, .iload 1, .invokestatic 142, .istore 5, .iload 4, .iload 5, .if_icmp .gt (58)] ls st g M Q := q_T_next rfl
theorem b_X6_doesTake_46 : q_T md d qP_X6_doesTake 46 [] ls st g M Q = q_T md d qP_X6_doesTake 53 [.iload 4, .iload 5, .if_icmp .ne (62)] ls st g M Q := q_T_next rfl
theorem b_X6_doesTake_53 : q_T md d qP_X6_doesTake 53 [] ls st g M Q = q_T md d qP_X6_doesTake 58 [.iload 2, .iload 3, .if_icmp .ge (62)] ls st g M Q := q_T_next rfl
theorem b_X6_doesTake_58 : q_T md d qP_X6_doesTake 58 [] ls st g M Q = q_T md d qP_X6_doesTake 62 [.iconst (1), .goto (63)] ls st g M Q := q_T_next rfl
theorem b_X6_doesTake_62 : q_T md d qP_X6_doesTake 62 [] ls st g M Q = q_T md d qP_X6_doesTake 63 [.iconst (0)] ls st g M Q := q_T_next rfl
theorem b_X6_doesTake_63 : q_T md d qP_X6_doesTake 63 [] ls st g M Q = q_T md d qP_X6_doesTake 64 [.ret 1] ls st g M Q := q_T_next rfl
theorem s_X6_turnOf {w : Nat} {x0 : Int} : q_S md d 150 [qR 6 w, qI x0] g M Q = q_T md d qP_X6_turnOf 0 [] [qR 6 w, qI x0, qS 0, qS 0, qS 0, qS 0] [] g M Q := rfl
theorem b_X6_turnOf_0 : q_T md d qP_X6_turnOf 0 [] ls st g M Q = q_T md d qP_X6_turnOf 11 [.aload 0, .iload 1, .invokestatic 144, .istore 2, .iload 2, .iconst (-1), .if_icmp .ne (13)] ls st g M Q := q_T_next rfl
theorem b_X6_turnOf_11 : q_T md d qP_X6_turnOf 11 [] ls st g M Q = q_T md d qP_X6_turnOf 13 [.iconst (0), .ret 1] ls st g M Q := q_T_next rfl
theorem b_X6_turnOf_13 : q_T md d qP_X6_turnOf 13 [] ls st g M Q = q_T md d qP_X6_turnOf 53 [.aload 0, .iload 1, .invokestatic 143, .istore 3, .aload 0, .getfield 603, .iconst (4), .iload 2, .imul, .iaload, .aload 0, .getfield 604, .iconst (3), .iload 1, .imul, .iaload, .isub, .istore 4, .aload 0, .getfield 604, .iconst (3), .iload 1, .imul, .dup2, .iaload, .iload 4, .iload 3, .if_icmp .le (57)] ls st g M Q := q_T_next rfl
theorem b_X6_turnOf_53 : q_T md d qP_X6_turnOf 53 [] ls st g M Q = q_T md d qP_X6_turnOf 57 [.iload 3, .goto (71)] ls st g M Q := q_T_next rfl
theorem b_X6_turnOf_57 : q_T md d qP_X6_turnOf 57 [] ls st g M Q = q_T md d qP_X6_turnOf 64 [.iload 4, .iload 3, .ineg, .if_icmp .ge (69)] ls st g M Q := q_T_next rfl
theorem b_X6_turnOf_64 : q_T md d qP_X6_turnOf 64 [] ls st g M Q = q_T md d qP_X6_turnOf 69 [.iload 3, .ineg, .goto (71)] ls st g M Q := q_T_next rfl
theorem b_X6_turnOf_69 : q_T md d qP_X6_turnOf 69 [] ls st g M Q = q_T md d qP_X6_turnOf 71 [.iload 4] ls st g M Q := q_T_next rfl
theorem b_X6_turnOf_71 : q_T md d qP_X6_turnOf 71 [] ls st g M Q = q_T md d qP_X6_turnOf 92 [.iadd, .iastore, .aload 0, .getfield 604, .iconst (3), .iload 1, .imul, .iaload, .aload 0, .getfield 603, .iconst (4), .iload 2, .imul, .iaload, .if_icmp .ne (101)] ls st g M Q := q_T_next rfl
theorem b_X6_turnOf_92 : q_T md d qP_X6_turnOf 92 [] ls st g M Q = q_T md d qP_X6_turnOf 101 [.aload 0, .iload 2, .iload 1, .invokestatic 149, .ifCond .ne (103)] ls st g M Q := q_T_next rfl
theorem b_X6_turnOf_101 : q_T md d qP_X6_turnOf 101 [] ls st g M Q = q_T md d qP_X6_turnOf 103 [.iconst (0), .ret 1] ls st g M Q := q_T_next rfl
theorem b_X6_turnOf_103 : q_T md d qP_X6_turnOf 103 [] ls st g M Q = q_T md d qP_X6_turnOf 111 [.aload 0, .iload 2, .invokestatic 148, .ifCond .eq (135)] ls st g M Q := q_T_next rfl
theorem b_X6_turnOf_111 : q_T md d qP_X6_turnOf 111 [] ls st g M Q = q_T md d qP_X6_turnOf 135 [.aload 0, .iload 2, .invokestatic 147, .iconst (0), .iconst (4), .invokestatic 111, .istore 5, .aload 0, .getfield 604, .iconst (3), .iload 5, .imul, .iconst (2), .iadd, .iconst (-1), .iastore] ls st g M Q := q_T_next rfl
theorem b_X6_turnOf_135 : q_T md d qP_X6_turnOf 135 [] ls st g M Q = q_T md d qP_X6_turnOf 176 [.aload 0, .getfield 604, .iconst (3), .iload 1, .imul, .iconst (2), .iadd, .iload 2, .iastore, .aload 0, .getfield 603, .iconst (4), .iload 2, .imul, .iconst (3), .iadd, .aload 0, .getfield 603, .iconst (4), .iload 2, .imul, .iconst (3), .iadd, .iaload, .iconst (1), .iadd, .iconst (0), .iconst (99), .invokestatic 111, .iastore, .iconst (1), .ret 1] ls st g M Q := q_T_next rfl
theorem s_X6_yearOf {w : Nat} : q_S md d 151 [qR 6 w] g M Q = q_T md d qP_X6_yearOf 0 [] [qR 6 w, qS 0, qS 0] [] g M Q := rfl
theorem b_X6_yearOf_0 : q_T md d qP_X6_yearOf 0 [] ls st g M Q = q_T md d qP_X6_yearOf 4 [.iconst (0), .istore 1, .iconst (0), .istore 2] ls st g M Q := q_T_next rfl
theorem b_X6_yearOf_4 : q_T md d qP_X6_yearOf 4 [] ls st g M Q = q_T md d qP_X6_yearOf 12 [.iload 2, .aload 0, .getfield 600, .if_icmp .ge (50)] ls st g M Q := q_T_next rfl
theorem b_X6_yearOf_12 : q_T md d qP_X6_yearOf 12 [] ls st g M Q = q_T md d qP_X6_yearOf 26 [.aload 0, .getfield 604, .iconst (3), .iload 2, .imul, .iconst (2), .iadd, .iaload, .iconst (-1), .if_icmp .ne (44)] ls st g M Q := q_T_next rfl
theorem b_X6_yearOf_26 : q_T md d qP_X6_yearOf 26 [] ls st g M Q = q_T md d qP_X6_yearOf 35 [.iload 1, .aload 0, .iload 2, .invokestatic 150, .ifCond .eq (41)] ls st g M Q := q_T_next rfl
theorem b_X6_yearOf_35 : q_T md d qP_X6_yearOf 35 [] ls st g M Q = q_T md d qP_X6_yearOf 41 [.iconst (1), .iload 2, .ishl, .goto (42)] ls st g M Q := q_T_next rfl
theorem b_X6_yearOf_41 : q_T md d qP_X6_yearOf 41 [] ls st g M Q = q_T md d qP_X6_yearOf 42 [.iconst (0)] ls st g M Q := q_T_next rfl
theorem b_X6_yearOf_42 : q_T md d qP_X6_yearOf 42 [] ls st g M Q = q_T md d qP_X6_yearOf 44 [.ior, .istore 1] ls st g M Q := q_T_next rfl
theorem b_X6_yearOf_44 : q_T md d qP_X6_yearOf 44 [] ls st g M Q = q_T md d qP_X6_yearOf 50 [.iinc 2 (1), .goto (4)] ls st g M Q := q_T_next rfl
theorem b_X6_yearOf_50 : q_T md d qP_X6_yearOf 50 [] ls st g M Q = q_T md d qP_X6_yearOf 62 [.aload 0, .dup, .getfield 605, .iconst (1), .iadd, .putfield 605, .iload 1, .ret 0] ls st g M Q := q_T_next rfl
theorem s_X6_year {w : Nat} : q_S md d 152 [qR 6 w] g M Q = q_T md d qP_X6_year 0 [] [qR 6 w] [] g M Q := rfl
theorem b_X6_year_0 : q_T md d qP_X6_year 0 [] ls st g M Q = q_T md d qP_X6_year 10 [.aload 0, .getfield 605, .iconst (999), .if_icmp .ne (15)] ls st g M Q := q_T_next rfl
theorem b_X6_year_10 : q_T md d qP_X6_year 10 [] ls st g M Q = q_T md d qP_X6_year 15 [.iconst (-3), .goto (19)] ls st g M Q := q_T_next rfl
theorem b_X6_year_15 : q_T md d qP_X6_year 15 [] ls st g M Q = q_T md d qP_X6_year 19 [.aload 0, .invokestatic 151] ls st g M Q := q_T_next rfl
theorem b_X6_year_19 : q_T md d qP_X6_year 19 [] ls st g M Q = q_T md d qP_X6_year 20 [.ret 0] ls st g M Q := q_T_next rfl
theorem s_X6_digitsNow {w : Nat} : q_S md d 153 [qR 6 w] g M Q = q_T md d qP_X6_digitsNow 0 [] [qR 6 w, qS 0, qS 0] [] g M Q := rfl
theorem b_X6_digitsNow_0 : q_T md d qP_X6_digitsNow 0 [] ls st g M Q = q_T md d qP_X6_digitsNow 4 [.iconst (0), .istore 1, .iconst (0), .istore 2] ls st g M Q := q_T_next rfl
theorem b_X6_digitsNow_4 : q_T md d qP_X6_digitsNow 4 [] ls st g M Q = q_T md d qP_X6_digitsNow 12 [.iload 2, .aload 0, .getfield 600, .if_icmp .ge (36)] ls st g M Q := q_T_next rfl
theorem b_X6_digitsNow_12 : q_T md d qP_X6_digitsNow 12 [] ls st g M Q = q_T md d qP_X6_digitsNow 36 [.iconst (10), .iload 1, .imul, .aload 0, .getfield 604, .iconst (3), .iload 2, .imul, .iconst (2), .iadd, .iaload, .iadd, .iconst (1), .iadd, .istore 1, .iinc 2 (1), .goto (4)] ls st g M Q := q_T_next rfl
theorem b_X6_digitsNow_36 : q_T md d qP_X6_digitsNow 36 [] ls st g M Q = q_T md d qP_X6_digitsNow 38 [.iload 1, .ret 0] ls st g M Q := q_T_next rfl
theorem s_X6_keeps {w : Nat} : q_S md d 154 [qR 6 w] g M Q = q_T md d qP_X6_keeps 0 [] [qR 6 w, qS 0] [] g M Q := rfl
theorem b_X6_keeps_0 : q_T md d qP_X6_keeps 0 [] ls st g M Q = q_T md d qP_X6_keeps 2 [.iconst (0), .istore 1] ls st g M Q := q_T_next rfl
theorem b_X6_keeps_2 : q_T md d qP_X6_keeps 2 [] ls st g M Q = q_T md d qP_X6_keeps 8 [.iload 1, .iconst (15), .if_icmp .ge (26)] ls st g M Q := q_T_next rfl
theorem b_X6_keeps_8 : q_T md d qP_X6_keeps 8 [] ls st g M Q = q_T md d qP_X6_keeps 26 [.aload 0, .getfield 630, .iload 1, .aload 0, .getfield 604, .iload 1, .iaload, .iastore, .iinc 1 (1), .goto (2)] ls st g M Q := q_T_next rfl
theorem b_X6_keeps_26 : q_T md d qP_X6_keeps 26 [] ls st g M Q = q_T md d qP_X6_keeps 28 [.iconst (0), .istore 1] ls st g M Q := q_T_next rfl
theorem b_X6_keeps_28 : q_T md d qP_X6_keeps 28 [] ls st g M Q = q_T md d qP_X6_keeps 34 [.iload 1, .iconst (20), .if_icmp .ge (55)] ls st g M Q := q_T_next rfl
theorem b_X6_keeps_34 : q_T md d qP_X6_keeps 34 [] ls st g M Q = q_T md d qP_X6_keeps 55 [.aload 0, .getfield 630, .iconst (15), .iload 1, .iadd, .aload 0, .getfield 603, .iload 1, .iaload, .iastore, .iinc 1 (1), .goto (28)] ls st g M Q := q_T_next rfl
theorem b_X6_keeps_55 : q_T md d qP_X6_keeps 55 [] ls st g M Q = q_T md d qP_X6_keeps 67 [.aload 0, .getfield 630, .iconst (35), .aload 0, .getfield 605, .iastore, .return_] ls st g M Q := q_T_next rfl
theorem s_X6_lays {w : Nat} : q_S md d 155 [qR 6 w] g M Q = q_T md d qP_X6_lays 0 [] [qR 6 w, qS 0] [] g M Q := rfl
theorem b_X6_lays_0 : q_T md d qP_X6_lays 0 [] ls st g M Q = q_T md d qP_X6_lays 2 [.iconst (0), .istore 1] ls st g M Q := q_T_next rfl
theorem b_X6_lays_2 : q_T md d qP_X6_lays 2 [] ls st g M Q = q_T md d qP_X6_lays 8 [.iload 1, .iconst (15), .if_icmp .ge (26)] ls st g M Q := q_T_next rfl
theorem b_X6_lays_8 : q_T md d qP_X6_lays 8 [] ls st g M Q = q_T md d qP_X6_lays 26 [.aload 0, .getfield 604, .iload 1, .aload 0, .getfield 630, .iload 1, .iaload, .iastore, .iinc 1 (1), .goto (2)] ls st g M Q := q_T_next rfl
theorem b_X6_lays_26 : q_T md d qP_X6_lays 26 [] ls st g M Q = q_T md d qP_X6_lays 28 [.iconst (0), .istore 1] ls st g M Q := q_T_next rfl
theorem b_X6_lays_28 : q_T md d qP_X6_lays 28 [] ls st g M Q = q_T md d qP_X6_lays 34 [.iload 1, .iconst (20), .if_icmp .ge (55)] ls st g M Q := q_T_next rfl
theorem b_X6_lays_34 : q_T md d qP_X6_lays 34 [] ls st g M Q = q_T md d qP_X6_lays 55 [.aload 0, .getfield 603, .iload 1, .aload 0, .getfield 630, .iconst (15), .iload 1, .iadd, .iaload, .iastore, .iinc 1 (1), .goto (28)] ls st g M Q := q_T_next rfl
theorem b_X6_lays_55 : q_T md d qP_X6_lays 55 [] ls st g M Q = q_T md d qP_X6_lays 67 [.aload 0, .aload 0, .getfield 630, .iconst (35), .iaload, .putfield 605, .return_] ls st g M Q := q_T_next rfl
theorem s_X6_run {w : Nat} {x0 : Int} {x1 : Int} : q_S md d 156 [qR 6 w, qI x0, qI x1] g M Q = q_T md d qP_X6_run 0 [] [qR 6 w, qI x0, qI x1, qS 0] [] g M Q := rfl
theorem b_X6_run_0 : q_T md d qP_X6_run 0 [] ls st g M Q = q_T md d qP_X6_run 10 [.iload 1, .iconst (0), .iconst (40), .invokestatic 110, .ifCond .eq (35)] ls st g M Q := q_T_next rfl
theorem b_X6_run_10 : q_T md d qP_X6_run 10 [] ls st g M Q = q_T md d qP_X6_run 19 [.iload 2, .iconst (0), .iconst (1), .invokestatic 110, .ifCond .ne (38)] ls st g M Q := q_T_next rfl
theorem b_X6_run_19 : q_T md d qP_X6_run 19 [] ls st g M Q = q_T md d qP_X6_run 35 [.iload 2, .iconst (10), .iconst (9), .aload 0, .getfield 600, .iadd, .invokestatic 110, .ifCond .ne (38)] ls st g M Q := q_T_next rfl
theorem b_X6_run_35 : q_T md d qP_X6_run 35 [] ls st g M Q = q_T md d qP_X6_run 38 [.iconst (-2), .ret 0] ls st g M Q := q_T_next rfl
theorem b_X6_run_38 : q_T md d qP_X6_run 38 [] ls st g M Q = q_T md d qP_X6_run 44 [.aload 0, .invokestatic 154, .iconst (0), .istore 3] ls st g M Q := q_T_next rfl
theorem b_X6_run_44 : q_T md d qP_X6_run 44 [] ls st g M Q = q_T md d qP_X6_run 49 [.iload 3, .iload 1, .if_icmp .ge (60)] ls st g M Q := q_T_next rfl
theorem b_X6_run_49 : q_T md d qP_X6_run 49 [] ls st g M Q = q_T md d qP_X6_run 60 [.aload 0, .invokestatic 151, .pop, .iinc 3 (1), .goto (44)] ls st g M Q := q_T_next rfl
theorem b_X6_run_60 : q_T md d qP_X6_run 60 [] ls st g M Q = q_T md d qP_X6_run 67 [.iconst (0), .istore 3, .iload 2, .iconst (2), .if_icmp .ge (86)] ls st g M Q := q_T_next rfl
theorem b_X6_run_67 : q_T md d qP_X6_run 67 [] ls st g M Q = q_T md d qP_X6_run 71 [.iload 2, .ifCond .ne (78)] ls st g M Q := q_T_next rfl
theorem b_X6_run_71 : q_T md d qP_X6_run 71 [] ls st g M Q = q_T md d qP_X6_run 78 [.aload 0, .invokestatic 153, .goto (82)] ls st g M Q := q_T_next rfl
theorem b_X6_run_78 : q_T md d qP_X6_run 78 [] ls st g M Q = q_T md d qP_X6_run 82 [.aload 0, .invokestatic 114] ls st g M Q := q_T_next rfl
theorem b_X6_run_82 : q_T md d qP_X6_run 82 [] ls st g M Q = q_T md d qP_X6_run 86 [.istore 3, .goto (98)] ls st g M Q := q_T_next rfl
theorem b_X6_run_86 : q_T md d qP_X6_run 86 [] ls st g M Q = q_T md d qP_X6_run 98 [.aload 0, .getfield 604, .iconst (3), .iload 2, .iconst (10), .isub, .imul, .iaload, .istore 3] ls st g M Q := q_T_next rfl
theorem b_X6_run_98 : q_T md d qP_X6_run 98 [] ls st g M Q = q_T md d qP_X6_run 104 [.aload 0, .invokestatic 155, .iload 3, .ret 0] ls st g M Q := q_T_next rfl
theorem s_X6_whenIn {w : Nat} {x0 : Int} {x1 : Int} : q_S md d 157 [qR 6 w, qI x0, qI x1] g M Q = q_T md d qP_X6_whenIn 0 [] [qR 6 w, qI x0, qI x1, qS 0, qS 0, qS 0] [] g M Q := rfl
theorem b_X6_whenIn_0 : q_T md d qP_X6_whenIn 0 [] ls st g M Q = q_T md d qP_X6_whenIn 5 [.iconst (-1), .istore 3, .iconst (0), .istore 4] ls st g M Q := q_T_next rfl
theorem b_X6_whenIn_5 : q_T md d qP_X6_whenIn 5 [] ls st g M Q = q_T md d qP_X6_whenIn 12 [.iload 4, .iconst (60), .if_icmp .gt (88)] ls st g M Q := q_T_next rfl
theorem b_X6_whenIn_12 : q_T md d qP_X6_whenIn 12 [] ls st g M Q = q_T md d qP_X6_whenIn 17 [.iload 3, .iconst (-1), .if_icmp .ne (88)] ls st g M Q := q_T_next rfl
theorem b_X6_whenIn_17 : q_T md d qP_X6_whenIn 17 [] ls st g M Q = q_T md d qP_X6_whenIn 22 [.iload 2, .iconst (-1), .if_icmp .ne (44)] ls st g M Q := q_T_next rfl
theorem b_X6_whenIn_22 : q_T md d qP_X6_whenIn 22 [] ls st g M Q = q_T md d qP_X6_whenIn 36 [.aload 0, .getfield 604, .iconst (3), .iload 1, .imul, .iconst (2), .iadd, .iaload, .iconst (-1), .if_icmp .eq (40)] ls st g M Q := q_T_next rfl
theorem b_X6_whenIn_36 : q_T md d qP_X6_whenIn 36 [] ls st g M Q = q_T md d qP_X6_whenIn 40 [.iconst (1), .goto (63)] ls st g M Q := q_T_next rfl
theorem b_X6_whenIn_40 : q_T md d qP_X6_whenIn 40 [] ls st g M Q = q_T md d qP_X6_whenIn 44 [.iconst (0), .goto (63)] ls st g M Q := q_T_next rfl
theorem b_X6_whenIn_44 : q_T md d qP_X6_whenIn 44 [] ls st g M Q = q_T md d qP_X6_whenIn 58 [.aload 0, .getfield 604, .iconst (3), .iload 1, .imul, .iconst (2), .iadd, .iaload, .iload 2, .if_icmp .ne (62)] ls st g M Q := q_T_next rfl
theorem b_X6_whenIn_58 : q_T md d qP_X6_whenIn 58 [] ls st g M Q = q_T md d qP_X6_whenIn 62 [.iconst (1), .goto (63)] ls st g M Q := q_T_next rfl
theorem b_X6_whenIn_62 : q_T md d qP_X6_whenIn 62 [] ls st g M Q = q_T md d qP_X6_whenIn 63 [.iconst (0)] ls st g M Q := q_T_next rfl
theorem b_X6_whenIn_63 : q_T md d qP_X6_whenIn 63 [] ls st g M Q = q_T md d qP_X6_whenIn 70 [.istore 5, .iload 5, .ifCond .eq (75)] ls st g M Q := q_T_next rfl
theorem b_X6_whenIn_70 : q_T md d qP_X6_whenIn 70 [] ls st g M Q = q_T md d qP_X6_whenIn 75 [.iload 4, .goto (76)] ls st g M Q := q_T_next rfl
theorem b_X6_whenIn_75 : q_T md d qP_X6_whenIn 75 [] ls st g M Q = q_T md d qP_X6_whenIn 76 [.iconst (-1)] ls st g M Q := q_T_next rfl
theorem b_X6_whenIn_76 : q_T md d qP_X6_whenIn 76 [] ls st g M Q = q_T md d qP_X6_whenIn 88 [.istore 3, .aload 0, .invokestatic 151, .pop, .iinc 4 (1), .goto (5)] ls st g M Q := q_T_next rfl
theorem b_X6_whenIn_88 : q_T md d qP_X6_whenIn 88 [] ls st g M Q = q_T md d qP_X6_whenIn 90 [.iload 3, .ret 0] ls st g M Q := q_T_next rfl
theorem s_X6_when {w : Nat} {x0 : Int} {x1 : Int} : q_S md d 158 [qR 6 w, qI x0, qI x1] g M Q = q_T md d qP_X6_when 0 [] [qR 6 w, qI x0, qI x1, qS 0] [] g M Q := rfl
theorem b_X6_when_0 : q_T md d qP_X6_when 0 [] ls st g M Q = q_T md d qP_X6_when 8 [.aload 0, .iload 1, .invokestatic 112, .ifCond .ne (11)] ls st g M Q := q_T_next rfl
theorem b_X6_when_8 : q_T md d qP_X6_when 8 [] ls st g M Q = q_T md d qP_X6_when 11 [.iconst (-5), .ret 0] ls st g M Q := q_T_next rfl
theorem b_X6_when_11 : q_T md d qP_X6_when 11 [] ls st g M Q = q_T md d qP_X6_when 20 [.iload 2, .iconst (-1), .iconst (4), .invokestatic 110, .ifCond .ne (23)] ls st g M Q := q_T_next rfl
theorem b_X6_when_20 : q_T md d qP_X6_when 20 [] ls st g M Q = q_T md d qP_X6_when 23 [.iconst (-7), .ret 0] ls st g M Q := q_T_next rfl
theorem b_X6_when_23 : q_T md d qP_X6_when 23 [] ls st g M Q = q_T md d qP_X6_when 40 [.aload 0, .invokestatic 154, .aload 0, .iload 1, .iload 2, .invokestatic 157, .istore 3, .aload 0, .invokestatic 155, .iload 3, .ret 0] ls st g M Q := q_T_next rfl
theorem s_X6_tellsAll {w : Nat} : q_S md d 159 [qR 6 w] g M Q = q_T md d qP_X6_tellsAll 0 [] [qR 6 w, qS 0, qS 0] [] g M Q := rfl
theorem b_X6_tellsAll_0 : q_T md d qP_X6_tellsAll 0 [] ls st g M Q = q_T md d qP_X6_tellsAll 2 [.iconst (0), .istore 1] ls st g M Q := q_T_next rfl
theorem b_X6_tellsAll_2 : q_T md d qP_X6_tellsAll 2 [] ls st g M Q = q_T md d qP_X6_tellsAll 10 [.iload 1, .aload 0, .getfield 600, .if_icmp .ge (77)] ls st g M Q := q_T_next rfl
theorem b_X6_tellsAll_10 : q_T md d qP_X6_tellsAll 10 [] ls st g M Q = q_T md d qP_X6_tellsAll 12 [.iconst (0), .istore 2] ls st g M Q := q_T_next rfl
theorem b_X6_tellsAll_12 : q_T md d qP_X6_tellsAll 12 [] ls st g M Q = q_T md d qP_X6_tellsAll 17 [.iload 2, .iconst (5), .if_icmp .ge (55)] ls st g M Q := q_T_next rfl
theorem b_X6_tellsAll_17 : q_T md d qP_X6_tellsAll 17 [] ls st g M Q = q_T md d qP_X6_tellsAll 55 [.aload 0, .getfield 631, .iconst (5), .iload 1, .imul, .iload 2, .iadd, .aload 0, .iload 1, .iload 2, .invokestatic 141, .iastore, .aload 0, .getfield 632, .iconst (5), .iload 1, .imul, .iload 2, .iadd, .aload 0, .iload 1, .iload 2, .invokestatic 142, .iastore, .iinc 2 (1), .goto (12)] ls st g M Q := q_T_next rfl
theorem b_X6_tellsAll_55 : q_T md d qP_X6_tellsAll 55 [] ls st g M Q = q_T md d qP_X6_tellsAll 77 [.aload 0, .getfield 633, .iload 1, .aload 0, .getfield 604, .iconst (3), .iload 1, .imul, .iconst (2), .iadd, .iaload, .iastore, .iinc 1 (1), .goto (2)] ls st g M Q := q_T_next rfl
theorem b_X6_tellsAll_77 : q_T md d qP_X6_tellsAll 77 [] ls st g M Q = q_T md d qP_X6_tellsAll 78 [.return_] ls st g M Q := q_T_next rfl
theorem s_X6_sitting {w : Nat} {x0 : Int} : q_S md d 160 [qR 6 w, qI x0] g M Q = q_T md d qP_X6_sitting 0 [] [qR 6 w, qI x0, qS 0, qS 0] [] g M Q := rfl
theorem b_X6_sitting_0 : q_T md d qP_X6_sitting 0 [] ls st g M Q = q_T md d qP_X6_sitting 4 [.iconst (0), .istore 2, .iconst (0), .istore 3] ls st g M Q := q_T_next rfl
theorem b_X6_sitting_4 : q_T md d qP_X6_sitting 4 [] ls st g M Q = q_T md d qP_X6_sitting 12 [.iload 3, .aload 0, .getfield 600, .if_icmp .ge (36)] ls st g M Q := q_T_next rfl
theorem b_X6_sitting_12 : q_T md d qP_X6_sitting 12 [] ls st g M Q = q_T md d qP_X6_sitting 23 [.iload 2, .aload 0, .getfield 633, .iload 3, .iaload, .iload 1, .if_icmp .ne (27)] ls st g M Q := q_T_next rfl
theorem b_X6_sitting_23 : q_T md d qP_X6_sitting 23 [] ls st g M Q = q_T md d qP_X6_sitting 27 [.iconst (1), .goto (28)] ls st g M Q := q_T_next rfl
theorem b_X6_sitting_27 : q_T md d qP_X6_sitting 27 [] ls st g M Q = q_T md d qP_X6_sitting 28 [.iconst (0)] ls st g M Q := q_T_next rfl
theorem b_X6_sitting_28 : q_T md d qP_X6_sitting 28 [] ls st g M Q = q_T md d qP_X6_sitting 36 [.iadd, .istore 2, .iinc 3 (1), .goto (4)] ls st g M Q := q_T_next rfl
theorem b_X6_sitting_36 : q_T md d qP_X6_sitting 36 [] ls st g M Q = q_T md d qP_X6_sitting 38 [.iload 2, .ret 0] ls st g M Q := q_T_next rfl
theorem s_X6_lastSitting {w : Nat} {x0 : Int} : q_S md d 161 [qR 6 w, qI x0] g M Q = q_T md d qP_X6_lastSitting 0 [] [qR 6 w, qI x0, qS 0, qS 0, qS 0] [] g M Q := rfl
theorem b_X6_lastSitting_0 : q_T md d qP_X6_lastSitting 0 [] ls st g M Q = q_T md d qP_X6_lastSitting 4 [.iconst (-1), .istore 2, .iconst (0), .istore 3] ls st g M Q := q_T_next rfl
theorem b_X6_lastSitting_4 : q_T md d qP_X6_lastSitting 4 [] ls st g M Q = q_T md d qP_X6_lastSitting 12 [.iload 3, .aload 0, .getfield 600, .if_icmp .ge (86)] ls st g M Q := q_T_next rfl
theorem b_X6_lastSitting_12 : q_T md d qP_X6_lastSitting 12 [] ls st g M Q = q_T md d qP_X6_lastSitting 22 [.aload 0, .getfield 633, .iload 3, .iaload, .iload 1, .if_icmp .ne (80)] ls st g M Q := q_T_next rfl
theorem b_X6_lastSitting_22 : q_T md d qP_X6_lastSitting 22 [] ls st g M Q = q_T md d qP_X6_lastSitting 27 [.iload 2, .iconst (-1), .if_icmp .ne (31)] ls st g M Q := q_T_next rfl
theorem b_X6_lastSitting_27 : q_T md d qP_X6_lastSitting 27 [] ls st g M Q = q_T md d qP_X6_lastSitting 31 [.iconst (1), .goto (32)] ls st g M Q := q_T_next rfl
theorem b_X6_lastSitting_31 : q_T md d qP_X6_lastSitting 31 [] ls st g M Q = q_T md d qP_X6_lastSitting 32 [.iconst (0)] ls st g M Q := q_T_next rfl
theorem b_X6_lastSitting_32 : q_T md d qP_X6_lastSitting 32 [] ls st g M Q = q_T md d qP_X6_lastSitting 39 [.istore 4, .iload 4, .ifCond .ne (69)] ls st g M Q := q_T_next rfl
theorem b_X6_lastSitting_39 : q_T md d qP_X6_lastSitting 39 [] ls st g M Q = q_T md d qP_X6_lastSitting 62 [.aload 0, .getfield 632, .iconst (5), .iload 3, .imul, .iload 1, .iadd, .iaload, .aload 0, .getfield 632, .iconst (5), .iload 2, .imul, .iload 1, .iadd, .iaload, .if_icmp .gt (66)] ls st g M Q := q_T_next rfl
theorem b_X6_lastSitting_62 : q_T md d qP_X6_lastSitting 62 [] ls st g M Q = q_T md d qP_X6_lastSitting 66 [.iconst (1), .goto (67)] ls st g M Q := q_T_next rfl
theorem b_X6_lastSitting_66 : q_T md d qP_X6_lastSitting 66 [] ls st g M Q = q_T md d qP_X6_lastSitting 67 [.iconst (0)] ls st g M Q := q_T_next rfl
theorem b_X6_lastSitting_67 : q_T md d qP_X6_lastSitting 67 [] ls st g M Q = q_T md d qP_X6_lastSitting 69 [.istore 4] ls st g M Q := q_T_next rfl
theorem b_X6_lastSitting_69 : q_T md d qP_X6_lastSitting 69 [] ls st g M Q = q_T md d qP_X6_lastSitting 74 [.iload 4, .ifCond .eq (78)] ls st g M Q := q_T_next rfl
theorem b_X6_lastSitting_74 : q_T md d qP_X6_lastSitting 74 [] ls st g M Q = q_T md d qP_X6_lastSitting 78 [.iload 3, .goto (79)] ls st g M Q := q_T_next rfl
theorem b_X6_lastSitting_78 : q_T md d qP_X6_lastSitting 78 [] ls st g M Q = q_T md d qP_X6_lastSitting 79 [.iload 2] ls st g M Q := q_T_next rfl
theorem b_X6_lastSitting_79 : q_T md d qP_X6_lastSitting 79 [] ls st g M Q = q_T md d qP_X6_lastSitting 80 [.istore 2] ls st g M Q := q_T_next rfl
theorem b_X6_lastSitting_80 : q_T md d qP_X6_lastSitting 80 [] ls st g M Q = q_T md d qP_X6_lastSitting 86 [.iinc 3 (1), .goto (4)] ls st g M Q := q_T_next rfl
theorem b_X6_lastSitting_86 : q_T md d qP_X6_lastSitting 86 [] ls st g M Q = q_T md d qP_X6_lastSitting 88 [.iload 2, .ret 0] ls st g M Q := q_T_next rfl
theorem s_X6_wouldTake {w : Nat} {x0 : Int} {x1 : Int} : q_S md d 162 [qR 6 w, qI x0, qI x1] g M Q = q_T md d qP_X6_wouldTake 0 [] [qR 6 w, qI x0, qI x1, qS 0, qS 0, qS 0] [] g M Q := rfl
theorem b_X6_wouldTake_0 : q_T md d qP_X6_wouldTake 0 [] ls st g M Q = q_T md d qP_X6_wouldTake 18 [.aload 0, .iload 1, .invokestatic 160, .aload 0, .getfield 603, .iconst (4), .iload 1, .imul, .iconst (1), .iadd, .iaload, .if_icmp .ge (20)] ls st g M Q := q_T_next rfl
theorem b_X6_wouldTake_18 : q_T md d qP_X6_wouldTake 18 [] ls st g M Q = q_T md d qP_X6_wouldTake 20 [.iconst (1), .ret 1] ls st g M Q := q_T_next rfl
theorem b_X6_wouldTake_20 : q_T md d qP_X6_wouldTake 20 [] ls st g M Q = q_T md d qP_X6_wouldTake 31 [.aload 0, .iload 1, .invokestatic 161, .istore 3, .iload 3, .iconst (-1), .if_icmp .ne (33)] ls st g M Q := q_T_next rfl
theorem b_X6_wouldTake_31 : q_T md d qP_X6_wouldTake 31 [] ls st g M Q = q_T md d qP_X6_wouldTake 33 [.iconst (0), .ret 1] ls st g M Q := q_T_next rfl
theorem b_X6_wouldTake_33 : q_T md d qP_X6_wouldTake 33 [] ls st g M Q = q_T md d qP_X6_wouldTake 64 [.aload 0, .getfield 632, .iconst (5), .iload 2, .imul, .iload 1, .iadd, .iaload, .istore 4, .aload 0, .getfield 632, .iconst (5), .iload 3, .imul, .iload 1, .iadd, .iaload, .istore 5, .iload 4, .iload 5, .if_icmp .gt (76)] ls st g M Q := q_T_next rfl
theorem b_X6_wouldTake_64 : q_T md d qP_X6_wouldTake 64 [] ls st g M Q = q_T md d qP_X6_wouldTake 71 [.iload 4, .iload 5, .if_icmp .ne (80)] ls st g M Q := q_T_next rfl
theorem b_X6_wouldTake_71 : q_T md d qP_X6_wouldTake 71 [] ls st g M Q = q_T md d qP_X6_wouldTake 76 [.iload 2, .iload 3, .if_icmp .ge (80)] ls st g M Q := q_T_next rfl
theorem b_X6_wouldTake_76 : q_T md d qP_X6_wouldTake 76 [] ls st g M Q = q_T md d qP_X6_wouldTake 80 [.iconst (1), .goto (81)] ls st g M Q := q_T_next rfl
theorem b_X6_wouldTake_80 : q_T md d qP_X6_wouldTake 80 [] ls st g M Q = q_T md d qP_X6_wouldTake 81 [.iconst (0)] ls st g M Q := q_T_next rfl
theorem b_X6_wouldTake_81 : q_T md d qP_X6_wouldTake 81 [] ls st g M Q = q_T md d qP_X6_wouldTake 82 [.ret 1] ls st g M Q := q_T_next rfl
theorem s_X6_wouldRather {w : Nat} {x0 : Int} {x1 : Int} : q_S md d 163 [qR 6 w, qI x0, qI x1] g M Q = q_T md d qP_X6_wouldRather 0 [] [qR 6 w, qI x0, qI x1, qS 0, qS 0, qS 0] [] g M Q := rfl
theorem b_X6_wouldRather_0 : q_T md d qP_X6_wouldRather 0 [] ls st g M Q = q_T md d qP_X6_wouldRather 23 [.aload 0, .getfield 631, .iconst (5), .iload 1, .imul, .iload 2, .iadd, .iaload, .istore 3, .aload 0, .getfield 633, .iload 1, .iaload, .istore 4, .iload 3, .ifCond .le (29)] ls st g M Q := q_T_next rfl
theorem b_X6_wouldRather_23 : q_T md d qP_X6_wouldRather 23 [] ls st g M Q = q_T md d qP_X6_wouldRather 29 [.iload 4, .iload 2, .if_icmp .ne (31)] ls st g M Q := q_T_next rfl
theorem b_X6_wouldRather_29 : q_T md d qP_X6_wouldRather 29 [] ls st g M Q = q_T md d qP_X6_wouldRather 31 [.iconst (0), .ret 1] ls st g M Q := q_T_next rfl
theorem b_X6_wouldRather_31 : q_T md d qP_X6_wouldRather 31 [] ls st g M Q = q_T md d qP_X6_wouldRather 37 [.iload 4, .iconst (-1), .if_icmp .ne (39)] ls st g M Q := q_T_next rfl
theorem b_X6_wouldRather_37 : q_T md d qP_X6_wouldRather 37 [] ls st g M Q = q_T md d qP_X6_wouldRather 39 [.iconst (1), .ret 1] ls st g M Q := q_T_next rfl
theorem b_X6_wouldRather_39 : q_T md d qP_X6_wouldRather 39 [] ls st g M Q = q_T md d qP_X6_wouldRather 58 [.aload 0, .getfield 631, .iconst (5), .iload 1, .imul, .iload 4, .iadd, .iaload, .istore 5, .iload 3, .iload 5, .if_icmp .gt (70)] ls st g M Q := q_T_next rfl
theorem b_X6_wouldRather_58 : q_T md d qP_X6_wouldRather 58 [] ls st g M Q = q_T md d qP_X6_wouldRather 64 [.iload 3, .iload 5, .if_icmp .ne (74)] ls st g M Q := q_T_next rfl
theorem b_X6_wouldRather_64 : q_T md d qP_X6_wouldRather 64 [] ls st g M Q = q_T md d qP_X6_wouldRather 70 [.iload 2, .iload 4, .if_icmp .ge (74)] ls st g M Q := q_T_next rfl
theorem b_X6_wouldRather_70 : q_T md d qP_X6_wouldRather 70 [] ls st g M Q = q_T md d qP_X6_wouldRather 74 [.iconst (1), .goto (75)] ls st g M Q := q_T_next rfl
theorem b_X6_wouldRather_74 : q_T md d qP_X6_wouldRather 74 [] ls st g M Q = q_T md d qP_X6_wouldRather 75 [.iconst (0)] ls st g M Q := q_T_next rfl
theorem b_X6_wouldRather_75 : q_T md d qP_X6_wouldRather 75 [] ls st g M Q = q_T md d qP_X6_wouldRather 76 [.ret 1] ls st g M Q := q_T_next rfl
theorem s_X6_against {w : Nat} : q_S md d 164 [qR 6 w] g M Q = q_T md d qP_X6_against 0 [] [qR 6 w, qS 0, qS 0] [] g M Q := rfl
theorem b_X6_against_0 : q_T md d qP_X6_against 0 [] ls st g M Q = q_T md d qP_X6_against 2 [.iconst (0), .istore 1] ls st g M Q := q_T_next rfl
theorem b_X6_against_2 : q_T md d qP_X6_against 2 [] ls st g M Q = q_T md d qP_X6_against 10 [.iload 1, .aload 0, .getfield 600, .if_icmp .ge (90)] ls st g M Q := q_T_next rfl
theorem b_X6_against_10 : q_T md d qP_X6_against 10 [] ls st g M Q = q_T md d qP_X6_against 20 [.aload 0, .getfield 633, .iload 1, .iaload, .iconst (-1), .if_icmp .eq (46)] ls st g M Q := q_T_next rfl
theorem b_X6_against_20 : q_T md d qP_X6_against 20 [] ls st g M Q = q_T md d qP_X6_against 38 [.aload 0, .getfield 631, .iconst (5), .iload 1, .imul, .aload 0, .getfield 633, .iload 1, .iaload, .iadd, .iaload, .ifCond .gt (46)] ls st g M Q := q_T_next rfl
theorem b_X6_against_38 : q_T md d qP_X6_against 38 [] ls st g M Q = q_T md d qP_X6_against 46 [.iconst (10), .iload 1, .imul, .iconst (9), .iadd, .ret 0] ls st g M Q := q_T_next rfl
theorem b_X6_against_46 : q_T md d qP_X6_against 46 [] ls st g M Q = q_T md d qP_X6_against 48 [.iconst (0), .istore 2] ls st g M Q := q_T_next rfl
theorem b_X6_against_48 : q_T md d qP_X6_against 48 [] ls st g M Q = q_T md d qP_X6_against 53 [.iload 2, .iconst (5), .if_icmp .ge (84)] ls st g M Q := q_T_next rfl
theorem b_X6_against_53 : q_T md d qP_X6_against 53 [] ls st g M Q = q_T md d qP_X6_against 62 [.aload 0, .iload 1, .iload 2, .invokestatic 163, .ifCond .eq (78)] ls st g M Q := q_T_next rfl
theorem b_X6_against_62 : q_T md d qP_X6_against 62 [] ls st g M Q = q_T md d qP_X6_against 71 [.aload 0, .iload 2, .iload 1, .invokestatic 162, .ifCond .eq (78)] ls st g M Q := q_T_next rfl
theorem b_X6_against_71 : q_T md d qP_X6_against 71 [] ls st g M Q = q_T md d qP_X6_against 78 [.iconst (10), .iload 1, .imul, .iload 2, .iadd, .ret 0] ls st g M Q := q_T_next rfl
theorem b_X6_against_78 : q_T md d qP_X6_against 78 [] ls st g M Q = q_T md d qP_X6_against 84 [.iinc 2 (1), .goto (48)] ls st g M Q := q_T_next rfl
theorem b_X6_against_84 : q_T md d qP_X6_against 84 [] ls st g M Q = q_T md d qP_X6_against 90 [.iinc 1 (1), .goto (2)] ls st g M Q := q_T_next rfl
theorem b_X6_against_90 : q_T md d qP_X6_against 90 [] ls st g M Q = q_T md d qP_X6_against 92 [.iconst (-1), .ret 0] ls st g M Q := q_T_next rfl
theorem s_X6_sumOf {w : Nat} {x0 : Int} : q_S md d 165 [qR 6 w, qI x0] g M Q = q_T md d qP_X6_sumOf 0 [] [qR 6 w, qI x0, qS 0, qS 0] [] g M Q := rfl
theorem b_X6_sumOf_0 : q_T md d qP_X6_sumOf 0 [] ls st g M Q = q_T md d qP_X6_sumOf 4 [.iconst (0), .istore 2, .iconst (0), .istore 3] ls st g M Q := q_T_next rfl
theorem b_X6_sumOf_4 : q_T md d qP_X6_sumOf 4 [] ls st g M Q = q_T md d qP_X6_sumOf 12 [.iload 3, .aload 0, .getfield 600, .if_icmp .ge (69)] ls st g M Q := q_T_next rfl
theorem b_X6_sumOf_12 : q_T md d qP_X6_sumOf 12 [] ls st g M Q = q_T md d qP_X6_sumOf 22 [.aload 0, .getfield 633, .iload 3, .iaload, .iconst (-1), .if_icmp .eq (63)] ls st g M Q := q_T_next rfl
theorem b_X6_sumOf_22 : q_T md d qP_X6_sumOf 22 [] ls st g M Q = q_T md d qP_X6_sumOf 28 [.iload 2, .iload 1, .iconst (1), .if_icmp .ne (46)] ls st g M Q := q_T_next rfl
theorem b_X6_sumOf_28 : q_T md d qP_X6_sumOf 28 [] ls st g M Q = q_T md d qP_X6_sumOf 46 [.aload 0, .getfield 631, .iconst (5), .iload 3, .imul, .aload 0, .getfield 633, .iload 3, .iaload, .iadd, .iaload, .goto (61)] ls st g M Q := q_T_next rfl
theorem b_X6_sumOf_46 : q_T md d qP_X6_sumOf 46 [] ls st g M Q = q_T md d qP_X6_sumOf 61 [.aload 0, .getfield 632, .iconst (5), .iload 3, .imul, .aload 0, .getfield 633, .iload 3, .iaload, .iadd, .iaload] ls st g M Q := q_T_next rfl
theorem b_X6_sumOf_61 : q_T md d qP_X6_sumOf 61 [] ls st g M Q = q_T md d qP_X6_sumOf 63 [.iadd, .istore 2] ls st g M Q := q_T_next rfl
theorem b_X6_sumOf_63 : q_T md d qP_X6_sumOf 63 [] ls st g M Q = q_T md d qP_X6_sumOf 69 [.iinc 3 (1), .goto (4)] ls st g M Q := q_T_next rfl
theorem b_X6_sumOf_69 : q_T md d qP_X6_sumOf 69 [] ls st g M Q = q_T md d qP_X6_sumOf 71 [.iload 2, .ret 0] ls st g M Q := q_T_next rfl
theorem s_X6_sittingDigits {w : Nat} : q_S md d 166 [qR 6 w] g M Q = q_T md d qP_X6_sittingDigits 0 [] [qR 6 w, qS 0, qS 0] [] g M Q := rfl
theorem b_X6_sittingDigits_0 : q_T md d qP_X6_sittingDigits 0 [] ls st g M Q = q_T md d qP_X6_sittingDigits 4 [.iconst (0), .istore 1, .iconst (0), .istore 2] ls st g M Q := q_T_next rfl
theorem b_X6_sittingDigits_4 : q_T md d qP_X6_sittingDigits 4 [] ls st g M Q = q_T md d qP_X6_sittingDigits 12 [.iload 2, .aload 0, .getfield 600, .if_icmp .ge (32)] ls st g M Q := q_T_next rfl
theorem b_X6_sittingDigits_12 : q_T md d qP_X6_sittingDigits 12 [] ls st g M Q = q_T md d qP_X6_sittingDigits 32 [.iconst (10), .iload 1, .imul, .aload 0, .getfield 633, .iload 2, .iaload, .iadd, .iconst (1), .iadd, .istore 1, .iinc 2 (1), .goto (4)] ls st g M Q := q_T_next rfl
theorem b_X6_sittingDigits_32 : q_T md d qP_X6_sittingDigits 32 [] ls st g M Q = q_T md d qP_X6_sittingDigits 34 [.iload 1, .ret 0] ls st g M Q := q_T_next rfl
theorem s_X6_peace {w : Nat} {x0 : Int} : q_S md d 167 [qR 6 w, qI x0] g M Q = q_T md d qP_X6_peace 0 [] [qR 6 w, qI x0] [] g M Q := rfl
theorem b_X6_peace_0 : q_T md d qP_X6_peace 0 [] ls st g M Q = q_T md d qP_X6_peace 9 [.iload 1, .iconst (0), .iconst (2), .invokestatic 110, .ifCond .ne (12)] ls st g M Q := q_T_next rfl
theorem b_X6_peace_9 : q_T md d qP_X6_peace 9 [] ls st g M Q = q_T md d qP_X6_peace 12 [.iconst (-100000), .ret 0] ls st g M Q := q_T_next rfl
theorem b_X6_peace_12 : q_T md d qP_X6_peace 12 [] ls st g M Q = q_T md d qP_X6_peace 20 [.aload 0, .invokestatic 159, .iload 1, .ifCond .ne (27)] ls st g M Q := q_T_next rfl
theorem b_X6_peace_20 : q_T md d qP_X6_peace 20 [] ls st g M Q = q_T md d qP_X6_peace 27 [.aload 0, .invokestatic 164, .goto (32)] ls st g M Q := q_T_next rfl
theorem b_X6_peace_27 : q_T md d qP_X6_peace 27 [] ls st g M Q = q_T md d qP_X6_peace 32 [.aload 0, .iload 1, .invokestatic 165] ls st g M Q := q_T_next rfl
theorem b_X6_peace_32 : q_T md d qP_X6_peace 32 [] ls st g M Q = q_T md d qP_X6_peace 33 [.ret 0] ls st g M Q := q_T_next rfl
theorem s_X6_nextAsked {w : Nat} {x0 : Int} : q_S md d 168 [qR 6 w, qI x0] g M Q = q_T md d qP_X6_nextAsked 0 [] [qR 6 w, qI x0, qS 0, qS 0, qS 0] [] g M Q := rfl
theorem b_X6_nextAsked_0 : q_T md d qP_X6_nextAsked 0 [] ls st g M Q = q_T md d qP_X6_nextAsked 7 [.iconst (-1), .istore 2, .iconst (0), .istore 3, .iconst (0), .istore 4] ls st g M Q := q_T_next rfl
theorem b_X6_nextAsked_7 : q_T md d qP_X6_nextAsked 7 [] ls st g M Q = q_T md d qP_X6_nextAsked 13 [.iload 4, .iconst (5), .if_icmp .ge (63)] ls st g M Q := q_T_next rfl
theorem b_X6_nextAsked_13 : q_T md d qP_X6_nextAsked 13 [] ls st g M Q = q_T md d qP_X6_nextAsked 27 [.aload 0, .getfield 634, .iload 1, .iaload, .iload 4, .ishr, .iconst (1), .iand, .ifCond .ne (57)] ls st g M Q := q_T_next rfl
theorem b_X6_nextAsked_27 : q_T md d qP_X6_nextAsked 27 [] ls st g M Q = q_T md d qP_X6_nextAsked 42 [.aload 0, .getfield 631, .iconst (5), .iload 1, .imul, .iload 4, .iadd, .iaload, .iload 3, .if_icmp .le (57)] ls st g M Q := q_T_next rfl
theorem b_X6_nextAsked_42 : q_T md d qP_X6_nextAsked 42 [] ls st g M Q = q_T md d qP_X6_nextAsked 57 [.iload 4, .istore 2, .aload 0, .getfield 631, .iconst (5), .iload 1, .imul, .iload 4, .iadd, .iaload, .istore 3] ls st g M Q := q_T_next rfl
theorem b_X6_nextAsked_57 : q_T md d qP_X6_nextAsked 57 [] ls st g M Q = q_T md d qP_X6_nextAsked 63 [.iinc 4 (1), .goto (7)] ls st g M Q := q_T_next rfl
theorem b_X6_nextAsked_63 : q_T md d qP_X6_nextAsked 63 [] ls st g M Q = q_T md d qP_X6_nextAsked 65 [.iload 2, .ret 0] ls st g M Q := q_T_next rfl
theorem s_X6_asksOne {w : Nat} {x0 : Int} : q_S md d 169 [qR 6 w, qI x0] g M Q = q_T md d qP_X6_asksOne 0 [] [qR 6 w, qI x0, qS 0, qS 0] [] g M Q := rfl
theorem b_X6_asksOne_0 : q_T md d qP_X6_asksOne 0 [] ls st g M Q = q_T md d qP_X6_asksOne 11 [.aload 0, .iload 1, .invokestatic 168, .istore 2, .iload 2, .iconst (-1), .if_icmp .ne (13)] ls st g M Q := q_T_next rfl
theorem b_X6_asksOne_11 : q_T md d qP_X6_asksOne 11 [] ls st g M Q = q_T md d qP_X6_asksOne 13 [.iconst (0), .ret 1] ls st g M Q := q_T_next rfl
theorem b_X6_asksOne_13 : q_T md d qP_X6_asksOne 13 [] ls st g M Q = q_T md d qP_X6_asksOne 22 [.aload 0, .iload 2, .iload 1, .invokestatic 162, .ifCond .ne (36)] ls st g M Q := q_T_next rfl
theorem b_X6_asksOne_22 : q_T md d qP_X6_asksOne 22 [] ls st g M Q = q_T md d qP_X6_asksOne 36 [.aload 0, .getfield 634, .iload 1, .dup2, .iaload, .iconst (1), .iload 2, .ishl, .ior, .iastore, .iconst (1), .ret 1] ls st g M Q := q_T_next rfl
theorem b_X6_asksOne_36 : q_T md d qP_X6_asksOne 36 [] ls st g M Q = q_T md d qP_X6_asksOne 54 [.aload 0, .iload 2, .invokestatic 160, .aload 0, .getfield 603, .iconst (4), .iload 2, .imul, .iconst (1), .iadd, .iaload, .if_icmp .lt (84)] ls st g M Q := q_T_next rfl
theorem b_X6_asksOne_54 : q_T md d qP_X6_asksOne 54 [] ls st g M Q = q_T md d qP_X6_asksOne 84 [.aload 0, .iload 2, .invokestatic 161, .iconst (0), .iconst (4), .invokestatic 111, .istore 3, .aload 0, .getfield 633, .iload 3, .iconst (-1), .iastore, .aload 0, .getfield 634, .iload 3, .dup2, .iaload, .iconst (1), .iload 2, .ishl, .ior, .iastore] ls st g M Q := q_T_next rfl
theorem b_X6_asksOne_84 : q_T md d qP_X6_asksOne 84 [] ls st g M Q = q_T md d qP_X6_asksOne 93 [.aload 0, .getfield 633, .iload 1, .iload 2, .iastore, .iconst (1), .ret 1] ls st g M Q := q_T_next rfl
theorem s_X6_courts {w : Nat} : q_S md d 170 [qR 6 w] g M Q = q_T md d qP_X6_courts 0 [] [qR 6 w, qS 0, qS 0] [] g M Q := rfl
theorem b_X6_courts_0 : q_T md d qP_X6_courts 0 [] ls st g M Q = q_T md d qP_X6_courts 6 [.aload 0, .invokestatic 159, .iconst (0), .istore 1] ls st g M Q := q_T_next rfl
theorem b_X6_courts_6 : q_T md d qP_X6_courts 6 [] ls st g M Q = q_T md d qP_X6_courts 11 [.iload 1, .iconst (5), .if_icmp .ge (31)] ls st g M Q := q_T_next rfl
theorem b_X6_courts_11 : q_T md d qP_X6_courts 11 [] ls st g M Q = q_T md d qP_X6_courts 31 [.aload 0, .getfield 633, .iload 1, .iconst (-1), .iastore, .aload 0, .getfield 634, .iload 1, .iconst (0), .iastore, .iinc 1 (1), .goto (6)] ls st g M Q := q_T_next rfl
theorem b_X6_courts_31 : q_T md d qP_X6_courts 31 [] ls st g M Q = q_T md d qP_X6_courts 33 [.iconst (1), .istore 1] ls st g M Q := q_T_next rfl
theorem b_X6_courts_33 : q_T md d qP_X6_courts 33 [] ls st g M Q = q_T md d qP_X6_courts 37 [.iload 1, .ifCond .eq (76)] ls st g M Q := q_T_next rfl
theorem b_X6_courts_37 : q_T md d qP_X6_courts 37 [] ls st g M Q = q_T md d qP_X6_courts 41 [.iconst (0), .istore 1, .iconst (0), .istore 2] ls st g M Q := q_T_next rfl
theorem b_X6_courts_41 : q_T md d qP_X6_courts 41 [] ls st g M Q = q_T md d qP_X6_courts 49 [.iload 2, .aload 0, .getfield 600, .if_icmp .ge (73)] ls st g M Q := q_T_next rfl
theorem b_X6_courts_49 : q_T md d qP_X6_courts 49 [] ls st g M Q = q_T md d qP_X6_courts 59 [.aload 0, .getfield 633, .iload 2, .iaload, .iconst (-1), .if_icmp .ne (67)] ls st g M Q := q_T_next rfl
theorem b_X6_courts_59 : q_T md d qP_X6_courts 59 [] ls st g M Q = q_T md d qP_X6_courts 67 [.iload 1, .aload 0, .iload 2, .invokestatic 169, .ior, .istore 1] ls st g M Q := q_T_next rfl
theorem b_X6_courts_67 : q_T md d qP_X6_courts 67 [] ls st g M Q = q_T md d qP_X6_courts 73 [.iinc 2 (1), .goto (41)] ls st g M Q := q_T_next rfl
theorem b_X6_courts_73 : q_T md d qP_X6_courts 73 [] ls st g M Q = q_T md d qP_X6_courts 76 [.goto (33)] ls st g M Q := q_T_next rfl
theorem b_X6_courts_76 : q_T md d qP_X6_courts 76 [] ls st g M Q = q_T md d qP_X6_courts 77 [.return_] ls st g M Q := q_T_next rfl
theorem s_X6_court {w : Nat} {x0 : Int} : q_S md d 171 [qR 6 w, qI x0] g M Q = q_T md d qP_X6_court 0 [] [qR 6 w, qI x0] [] g M Q := rfl
theorem b_X6_court_0 : q_T md d qP_X6_court 0 [] ls st g M Q = q_T md d qP_X6_court 9 [.iload 1, .iconst (0), .iconst (2), .invokestatic 110, .ifCond .ne (12)] ls st g M Q := q_T_next rfl
theorem b_X6_court_9 : q_T md d qP_X6_court 9 [] ls st g M Q = q_T md d qP_X6_court 12 [.iconst (-100000), .ret 0] ls st g M Q := q_T_next rfl
theorem b_X6_court_12 : q_T md d qP_X6_court 12 [] ls st g M Q = q_T md d qP_X6_court 20 [.aload 0, .invokestatic 170, .iload 1, .ifCond .ne (27)] ls st g M Q := q_T_next rfl
theorem b_X6_court_20 : q_T md d qP_X6_court 20 [] ls st g M Q = q_T md d qP_X6_court 27 [.aload 0, .invokestatic 166, .goto (32)] ls st g M Q := q_T_next rfl
theorem b_X6_court_27 : q_T md d qP_X6_court 27 [] ls st g M Q = q_T md d qP_X6_court 32 [.aload 0, .iload 1, .invokestatic 165] ls st g M Q := q_T_next rfl
theorem b_X6_court_32 : q_T md d qP_X6_court 32 [] ls st g M Q = q_T md d qP_X6_court 33 [.ret 0] ls st g M Q := q_T_next rfl
theorem s_X6_sitsBy {w : Nat} {x0 : Int} : q_S md d 172 [qR 6 w, qI x0] g M Q = q_T md d qP_X6_sitsBy 0 [] [qR 6 w, qI x0, qS 0, qS 0] [] g M Q := rfl
theorem b_X6_sitsBy_0 : q_T md d qP_X6_sitsBy 0 [] ls st g M Q = q_T md d qP_X6_sitsBy 9 [.iload 1, .istore 2, .aload 0, .getfield 600, .iconst (1), .isub, .istore 3] ls st g M Q := q_T_next rfl
theorem b_X6_sitsBy_9 : q_T md d qP_X6_sitsBy 9 [] ls st g M Q = q_T md d qP_X6_sitsBy 13 [.iload 3, .ifCond .lt (36)] ls st g M Q := q_T_next rfl
theorem b_X6_sitsBy_13 : q_T md d qP_X6_sitsBy 13 [] ls st g M Q = q_T md d qP_X6_sitsBy 36 [.aload 0, .getfield 633, .iload 3, .iload 2, .iconst (6), .irem, .iconst (1), .isub, .iastore, .iload 2, .iconst (6), .idiv, .istore 2, .iinc 3 (-1), .goto (9)] ls st g M Q := q_T_next rfl
theorem b_X6_sitsBy_36 : q_T md d qP_X6_sitsBy 36 [] ls st g M Q = q_T md d qP_X6_sitsBy 38 [.iconst (0), .istore 3] ls st g M Q := q_T_next rfl
theorem b_X6_sitsBy_38 : q_T md d qP_X6_sitsBy 38 [] ls st g M Q = q_T md d qP_X6_sitsBy 43 [.iload 3, .iconst (5), .if_icmp .ge (69)] ls st g M Q := q_T_next rfl
theorem b_X6_sitsBy_43 : q_T md d qP_X6_sitsBy 43 [] ls st g M Q = q_T md d qP_X6_sitsBy 61 [.aload 0, .iload 3, .invokestatic 160, .aload 0, .getfield 603, .iconst (4), .iload 3, .imul, .iconst (1), .iadd, .iaload, .if_icmp .le (63)] ls st g M Q := q_T_next rfl
theorem b_X6_sitsBy_61 : q_T md d qP_X6_sitsBy 61 [] ls st g M Q = q_T md d qP_X6_sitsBy 63 [.iconst (0), .ret 1] ls st g M Q := q_T_next rfl
theorem b_X6_sitsBy_63 : q_T md d qP_X6_sitsBy 63 [] ls st g M Q = q_T md d qP_X6_sitsBy 69 [.iinc 3 (1), .goto (38)] ls st g M Q := q_T_next rfl
theorem b_X6_sitsBy_69 : q_T md d qP_X6_sitsBy 69 [] ls st g M Q = q_T md d qP_X6_sitsBy 71 [.iconst (1), .ret 1] ls st g M Q := q_T_next rfl
theorem s_X6_tellsWays {w : Nat} : q_S md d 173 [qR 6 w] g M Q = q_T md d qP_X6_tellsWays 0 [] [qR 6 w, qS 0, qS 0, qS 0, qS 0] [] g M Q := rfl
theorem b_X6_tellsWays_0 : q_T md d qP_X6_tellsWays 0 [] ls st g M Q = q_T md d qP_X6_tellsWays 8 [.aload 0, .invokestatic 159, .iconst (1), .istore 1, .iconst (0), .istore 2] ls st g M Q := q_T_next rfl
theorem b_X6_tellsWays_8 : q_T md d qP_X6_tellsWays 8 [] ls st g M Q = q_T md d qP_X6_tellsWays 16 [.iload 2, .aload 0, .getfield 600, .if_icmp .ge (27)] ls st g M Q := q_T_next rfl
theorem b_X6_tellsWays_16 : q_T md d qP_X6_tellsWays 16 [] ls st g M Q = q_T md d qP_X6_tellsWays 27 [.iload 1, .iconst (6), .imul, .istore 1, .iinc 2 (1), .goto (8)] ls st g M Q := q_T_next rfl
theorem b_X6_tellsWays_27 : q_T md d qP_X6_tellsWays 27 [] ls st g M Q = q_T md d qP_X6_tellsWays 64 [.aload 0, .getfield 635, .iconst (0), .iconst (0), .iastore, .aload 0, .getfield 635, .iconst (1), .iconst (-1), .iastore, .aload 0, .getfield 635, .iconst (2), .iconst (0), .iastore, .aload 0, .getfield 635, .iconst (3), .iconst (-1), .iastore, .aload 0, .getfield 635, .iconst (4), .iconst (0), .iastore, .iconst (0), .istore 2] ls st g M Q := q_T_next rfl
theorem b_X6_tellsWays_64 : q_T md d qP_X6_tellsWays 64 [] ls st g M Q = q_T md d qP_X6_tellsWays 69 [.iload 2, .iload 1, .if_icmp .ge (216)] ls st g M Q := q_T_next rfl
theorem b_X6_tellsWays_69 : q_T md d qP_X6_tellsWays 69 [] ls st g M Q = q_T md d qP_X6_tellsWays 77 [.aload 0, .iload 2, .invokestatic 172, .ifCond .eq (210)] ls st g M Q := q_T_next rfl
theorem b_X6_tellsWays_77 : q_T md d qP_X6_tellsWays 77 [] ls st g M Q = q_T md d qP_X6_tellsWays 93 [.aload 0, .iconst (1), .invokestatic 165, .istore 3, .aload 0, .getfield 635, .iconst (3), .iaload, .iconst (-1), .if_icmp .eq (103)] ls st g M Q := q_T_next rfl
theorem b_X6_tellsWays_93 : q_T md d qP_X6_tellsWays 93 [] ls st g M Q = q_T md d qP_X6_tellsWays 103 [.iload 3, .aload 0, .getfield 635, .iconst (4), .iaload, .if_icmp .le (120)] ls st g M Q := q_T_next rfl
theorem b_X6_tellsWays_103 : q_T md d qP_X6_tellsWays 103 [] ls st g M Q = q_T md d qP_X6_tellsWays 120 [.aload 0, .getfield 635, .iconst (3), .aload 0, .invokestatic 166, .iastore, .aload 0, .getfield 635, .iconst (4), .iload 3, .iastore] ls st g M Q := q_T_next rfl
theorem b_X6_tellsWays_120 : q_T md d qP_X6_tellsWays 120 [] ls st g M Q = q_T md d qP_X6_tellsWays 128 [.aload 0, .invokestatic 164, .iconst (-1), .if_icmp .ne (210)] ls st g M Q := q_T_next rfl
theorem b_X6_tellsWays_128 : q_T md d qP_X6_tellsWays 128 [] ls st g M Q = q_T md d qP_X6_tellsWays 148 [.aload 0, .getfield 635, .iconst (0), .dup2, .iaload, .iconst (1), .iadd, .iastore, .aload 0, .getfield 635, .iconst (1), .iaload, .iconst (-1), .if_icmp .eq (158)] ls st g M Q := q_T_next rfl
theorem b_X6_tellsWays_148 : q_T md d qP_X6_tellsWays 148 [] ls st g M Q = q_T md d qP_X6_tellsWays 158 [.iload 3, .aload 0, .getfield 635, .iconst (2), .iaload, .if_icmp .le (162)] ls st g M Q := q_T_next rfl
theorem b_X6_tellsWays_158 : q_T md d qP_X6_tellsWays 158 [] ls st g M Q = q_T md d qP_X6_tellsWays 162 [.iconst (1), .goto (163)] ls st g M Q := q_T_next rfl
theorem b_X6_tellsWays_162 : q_T md d qP_X6_tellsWays 162 [] ls st g M Q = q_T md d qP_X6_tellsWays 163 [.iconst (0)] ls st g M Q := q_T_next rfl
theorem b_X6_tellsWays_163 : q_T md d qP_X6_tellsWays 163 [] ls st g M Q = q_T md d qP_X6_tellsWays 175 [.istore 4, .aload 0, .getfield 635, .iconst (1), .iload 4, .ifCond .eq (182)] ls st g M Q := q_T_next rfl
theorem b_X6_tellsWays_175 : q_T md d qP_X6_tellsWays 175 [] ls st g M Q = q_T md d qP_X6_tellsWays 182 [.aload 0, .invokestatic 166, .goto (188)] ls st g M Q := q_T_next rfl
theorem b_X6_tellsWays_182 : q_T md d qP_X6_tellsWays 182 [] ls st g M Q = q_T md d qP_X6_tellsWays 188 [.aload 0, .getfield 635, .iconst (1), .iaload] ls st g M Q := q_T_next rfl
theorem b_X6_tellsWays_188 : q_T md d qP_X6_tellsWays 188 [] ls st g M Q = q_T md d qP_X6_tellsWays 199 [.iastore, .aload 0, .getfield 635, .iconst (2), .iload 4, .ifCond .eq (203)] ls st g M Q := q_T_next rfl
theorem b_X6_tellsWays_199 : q_T md d qP_X6_tellsWays 199 [] ls st g M Q = q_T md d qP_X6_tellsWays 203 [.iload 3, .goto (209)] ls st g M Q := q_T_next rfl
theorem b_X6_tellsWays_203 : q_T md d qP_X6_tellsWays 203 [] ls st g M Q = q_T md d qP_X6_tellsWays 209 [.aload 0, .getfield 635, .iconst (2), .iaload] ls st g M Q := q_T_next rfl
theorem b_X6_tellsWays_209 : q_T md d qP_X6_tellsWays 209 [] ls st g M Q = q_T md d qP_X6_tellsWays 210 [.iastore] ls st g M Q := q_T_next rfl
theorem b_X6_tellsWays_210 : q_T md d qP_X6_tellsWays 210 [] ls st g M Q = q_T md d qP_X6_tellsWays 216 [.iinc 2 (1), .goto (64)] ls st g M Q := q_T_next rfl
theorem b_X6_tellsWays_216 : q_T md d qP_X6_tellsWays 216 [] ls st g M Q = q_T md d qP_X6_tellsWays 217 [.return_] ls st g M Q := q_T_next rfl
theorem s_X6_all {w : Nat} {x0 : Int} : q_S md d 174 [qR 6 w, qI x0] g M Q = q_T md d qP_X6_all 0 [] [qR 6 w, qI x0] [] g M Q := rfl
theorem b_X6_all_0 : q_T md d qP_X6_all 0 [] ls st g M Q = q_T md d qP_X6_all 9 [.iload 1, .iconst (0), .iconst (4), .invokestatic 110, .ifCond .ne (12)] ls st g M Q := q_T_next rfl
theorem b_X6_all_9 : q_T md d qP_X6_all 9 [] ls st g M Q = q_T md d qP_X6_all 12 [.iconst (-100000), .ret 0] ls st g M Q := q_T_next rfl
theorem b_X6_all_12 : q_T md d qP_X6_all 12 [] ls st g M Q = q_T md d qP_X6_all 23 [.aload 0, .invokestatic 173, .aload 0, .getfield 635, .iload 1, .iaload, .ret 0] ls st g M Q := q_T_next rfl
theorem s_X6_annex {w : Nat} {x0 : Int} : q_S md d 175 [qR 6 w, qI x0] g M Q = q_T md d qP_X6_annex 0 [] [qR 6 w, qI x0, qS 0, qS 0, qS 0, qS 0, qS 0] [] g M Q := rfl
theorem b_X6_annex_0 : q_T md d qP_X6_annex 0 [] ls st g M Q = q_T md d qP_X6_annex 9 [.iload 1, .iconst (0), .iconst (1), .invokestatic 110, .ifCond .ne (12)] ls st g M Q := q_T_next rfl
theorem b_X6_annex_9 : q_T md d qP_X6_annex 9 [] ls st g M Q = q_T md d qP_X6_annex 12 [.iconst (-100000), .ret 0] ls st g M Q := q_T_next rfl
theorem b_X6_annex_12 : q_T md d qP_X6_annex 12 [] ls st g M Q = q_T md d qP_X6_annex 19 [.iconst (-1), .istore 2, .iconst (0), .istore 3, .iconst (0), .istore 4] ls st g M Q := q_T_next rfl
theorem b_X6_annex_19 : q_T md d qP_X6_annex 19 [] ls st g M Q = q_T md d qP_X6_annex 25 [.iload 4, .iconst (5), .if_icmp .ge (114)] ls st g M Q := q_T_next rfl
theorem b_X6_annex_25 : q_T md d qP_X6_annex 25 [] ls st g M Q = q_T md d qP_X6_annex 71 [.aload 0, .getfield 603, .iconst (4), .iload 4, .imul, .iconst (1), .iadd, .dup2, .iaload, .iconst (1), .iadd, .iastore, .aload 0, .invokestatic 170, .aload 0, .iconst (1), .invokestatic 165, .istore 5, .aload 0, .getfield 603, .iconst (4), .iload 4, .imul, .iconst (1), .iadd, .dup2, .iaload, .iconst (1), .isub, .iastore, .iload 2, .iconst (-1), .if_icmp .eq (77)] ls st g M Q := q_T_next rfl
theorem b_X6_annex_71 : q_T md d qP_X6_annex 71 [] ls st g M Q = q_T md d qP_X6_annex 77 [.iload 5, .iload 3, .if_icmp .le (81)] ls st g M Q := q_T_next rfl
theorem b_X6_annex_77 : q_T md d qP_X6_annex 77 [] ls st g M Q = q_T md d qP_X6_annex 81 [.iconst (1), .goto (82)] ls st g M Q := q_T_next rfl
theorem b_X6_annex_81 : q_T md d qP_X6_annex 81 [] ls st g M Q = q_T md d qP_X6_annex 82 [.iconst (0)] ls st g M Q := q_T_next rfl
theorem b_X6_annex_82 : q_T md d qP_X6_annex 82 [] ls st g M Q = q_T md d qP_X6_annex 89 [.istore 6, .iload 6, .ifCond .eq (94)] ls st g M Q := q_T_next rfl
theorem b_X6_annex_89 : q_T md d qP_X6_annex 89 [] ls st g M Q = q_T md d qP_X6_annex 94 [.iload 4, .goto (95)] ls st g M Q := q_T_next rfl
theorem b_X6_annex_94 : q_T md d qP_X6_annex 94 [] ls st g M Q = q_T md d qP_X6_annex 95 [.iload 2] ls st g M Q := q_T_next rfl
theorem b_X6_annex_95 : q_T md d qP_X6_annex 95 [] ls st g M Q = q_T md d qP_X6_annex 101 [.istore 2, .iload 6, .ifCond .eq (106)] ls st g M Q := q_T_next rfl
theorem b_X6_annex_101 : q_T md d qP_X6_annex 101 [] ls st g M Q = q_T md d qP_X6_annex 106 [.iload 5, .goto (107)] ls st g M Q := q_T_next rfl
theorem b_X6_annex_106 : q_T md d qP_X6_annex 106 [] ls st g M Q = q_T md d qP_X6_annex 107 [.iload 3] ls st g M Q := q_T_next rfl
theorem b_X6_annex_107 : q_T md d qP_X6_annex 107 [] ls st g M Q = q_T md d qP_X6_annex 114 [.istore 3, .iinc 4 (1), .goto (19)] ls st g M Q := q_T_next rfl
theorem b_X6_annex_114 : q_T md d qP_X6_annex 114 [] ls st g M Q = q_T md d qP_X6_annex 118 [.iload 1, .ifCond .ne (122)] ls st g M Q := q_T_next rfl
theorem b_X6_annex_118 : q_T md d qP_X6_annex 118 [] ls st g M Q = q_T md d qP_X6_annex 122 [.iload 2, .goto (123)] ls st g M Q := q_T_next rfl
theorem b_X6_annex_122 : q_T md d qP_X6_annex 122 [] ls st g M Q = q_T md d qP_X6_annex 123 [.iload 3] ls st g M Q := q_T_next rfl
theorem b_X6_annex_123 : q_T md d qP_X6_annex 123 [] ls st g M Q = q_T md d qP_X6_annex 124 [.ret 0] ls st g M Q := q_T_next rfl
theorem s_X6_cart {w : Nat} {x0 : Int} {x1 : Int} : q_S md d 176 [qR 6 w, qI x0, qI x1] g M Q = q_T md d qP_X6_cart 0 [] [qR 6 w, qI x0, qI x1, qS 0, qS 0, qS 0, qS 0, qS 0] [] g M Q := rfl
theorem b_X6_cart_0 : q_T md d qP_X6_cart 0 [] ls st g M Q = q_T md d qP_X6_cart 8 [.aload 0, .iload 1, .invokestatic 112, .ifCond .ne (11)] ls st g M Q := q_T_next rfl
theorem b_X6_cart_8 : q_T md d qP_X6_cart 8 [] ls st g M Q = q_T md d qP_X6_cart 11 [.iconst (-5), .ret 0] ls st g M Q := q_T_next rfl
theorem b_X6_cart_11 : q_T md d qP_X6_cart 11 [] ls st g M Q = q_T md d qP_X6_cart 20 [.iload 2, .iconst (0), .iconst (1), .invokestatic 110, .ifCond .ne (23)] ls st g M Q := q_T_next rfl
theorem b_X6_cart_20 : q_T md d qP_X6_cart 20 [] ls st g M Q = q_T md d qP_X6_cart 23 [.iconst (-7), .ret 0] ls st g M Q := q_T_next rfl
theorem b_X6_cart_23 : q_T md d qP_X6_cart 23 [] ls st g M Q = q_T md d qP_X6_cart 35 [.iconst (-1), .istore 3, .iconst (-1), .istore 4, .aload 0, .invokestatic 154, .iconst (0), .istore 5] ls st g M Q := q_T_next rfl
theorem b_X6_cart_35 : q_T md d qP_X6_cart 35 [] ls st g M Q = q_T md d qP_X6_cart 42 [.iload 5, .iconst (100), .if_icmp .ge (132)] ls st g M Q := q_T_next rfl
theorem b_X6_cart_42 : q_T md d qP_X6_cart 42 [] ls st g M Q = q_T md d qP_X6_cart 81 [.aload 0, .getfield 604, .iconst (3), .iload 1, .imul, .iload 5, .iastore, .aload 0, .getfield 604, .iconst (3), .iload 1, .imul, .iconst (2), .iadd, .iconst (-1), .iastore, .aload 0, .iload 1, .iconst (-1), .invokestatic 157, .istore 6, .aload 0, .invokestatic 155, .iload 6, .iconst (-1), .if_icmp .eq (97)] ls st g M Q := q_T_next rfl
theorem b_X6_cart_81 : q_T md d qP_X6_cart 81 [] ls st g M Q = q_T md d qP_X6_cart 86 [.iload 3, .iconst (-1), .if_icmp .eq (93)] ls st g M Q := q_T_next rfl
theorem b_X6_cart_86 : q_T md d qP_X6_cart 86 [] ls st g M Q = q_T md d qP_X6_cart 93 [.iload 6, .iload 4, .if_icmp .ge (97)] ls st g M Q := q_T_next rfl
theorem b_X6_cart_93 : q_T md d qP_X6_cart 93 [] ls st g M Q = q_T md d qP_X6_cart 97 [.iconst (1), .goto (98)] ls st g M Q := q_T_next rfl
theorem b_X6_cart_97 : q_T md d qP_X6_cart 97 [] ls st g M Q = q_T md d qP_X6_cart 98 [.iconst (0)] ls st g M Q := q_T_next rfl
theorem b_X6_cart_98 : q_T md d qP_X6_cart 98 [] ls st g M Q = q_T md d qP_X6_cart 105 [.istore 7, .iload 7, .ifCond .eq (110)] ls st g M Q := q_T_next rfl
theorem b_X6_cart_105 : q_T md d qP_X6_cart 105 [] ls st g M Q = q_T md d qP_X6_cart 110 [.iload 5, .goto (111)] ls st g M Q := q_T_next rfl
theorem b_X6_cart_110 : q_T md d qP_X6_cart 110 [] ls st g M Q = q_T md d qP_X6_cart 111 [.iload 3] ls st g M Q := q_T_next rfl
theorem b_X6_cart_111 : q_T md d qP_X6_cart 111 [] ls st g M Q = q_T md d qP_X6_cart 117 [.istore 3, .iload 7, .ifCond .eq (122)] ls st g M Q := q_T_next rfl
theorem b_X6_cart_117 : q_T md d qP_X6_cart 117 [] ls st g M Q = q_T md d qP_X6_cart 122 [.iload 6, .goto (124)] ls st g M Q := q_T_next rfl
theorem b_X6_cart_122 : q_T md d qP_X6_cart 122 [] ls st g M Q = q_T md d qP_X6_cart 124 [.iload 4] ls st g M Q := q_T_next rfl
theorem b_X6_cart_124 : q_T md d qP_X6_cart 124 [] ls st g M Q = q_T md d qP_X6_cart 132 [.istore 4, .iinc 5 (1), .goto (35)] ls st g M Q := q_T_next rfl
theorem b_X6_cart_132 : q_T md d qP_X6_cart 132 [] ls st g M Q = q_T md d qP_X6_cart 136 [.iload 2, .ifCond .ne (140)] ls st g M Q := q_T_next rfl
theorem b_X6_cart_136 : q_T md d qP_X6_cart 136 [] ls st g M Q = q_T md d qP_X6_cart 140 [.iload 3, .goto (142)] ls st g M Q := q_T_next rfl
theorem b_X6_cart_140 : q_T md d qP_X6_cart 140 [] ls st g M Q = q_T md d qP_X6_cart 142 [.iload 4] ls st g M Q := q_T_next rfl
theorem b_X6_cart_142 : q_T md d qP_X6_cart 142 [] ls st g M Q = q_T md d qP_X6_cart 143 [.ret 0] ls st g M Q := q_T_next rfl
theorem s_X6_lowest {x0 : Int} {x1 : Int} {x2 : Int} : q_S md d 177 [qL x0, qL x1, qI x2] g M Q = q_T md d qP_X6_lowest 0 [] [qL x0, qS 0, qL x1, qS 0, qI x2, qS 0, qS 0, qS 0, qS 0, qS 0, qS 0] [] g M Q := rfl
theorem b_X6_lowest_0 : q_T md d qP_X6_lowest 0 [] ls st g M Q = q_T md d qP_X6_lowest 6 [.lload 0, .jsr (0), .lcmp, .ifCond .ne (10)] ls st g M Q := q_T_next rfl
theorem b_X6_lowest_6 : q_T md d qP_X6_lowest 6 [] ls st g M Q = q_T md d qP_X6_lowest 10 [.iload 4, .i2l, .lreturn] ls st g M Q := q_T_next rfl
theorem b_X6_lowest_10 : q_T md d qP_X6_lowest 10 [] ls st g M Q = q_T md d qP_X6_lowest 16 [.lload 0, .lstore 5, .lload 2, .lstore 7] ls st g M Q := q_T_next rfl
theorem b_X6_lowest_16 : q_T md d qP_X6_lowest 16 [] ls st g M Q = q_T md d qP_X6_lowest 23 [.lload 7, .jsr (0), .lcmp, .ifCond .eq (41)] ls st g M Q := q_T_next rfl
theorem b_X6_lowest_23 : q_T md d qP_X6_lowest 23 [] ls st g M Q = q_T md d qP_X6_lowest 41 [.lload 5, .lload 7, .lrem, .lstore 9, .lload 7, .lstore 5, .lload 9, .lstore 7, .goto (16)] ls st g M Q := q_T_next rfl
theorem b_X6_lowest_41 : q_T md d qP_X6_lowest 41 [] ls st g M Q = q_T md d qP_X6_lowest 46 [.iload 4, .ifCond .ne (50)] ls st g M Q := q_T_next rfl
theorem b_X6_lowest_46 : q_T md d qP_X6_lowest 46 [] ls st g M Q = q_T md d qP_X6_lowest 50 [.lload 0, .goto (51)] ls st g M Q := q_T_next rfl
theorem b_X6_lowest_50 : q_T md d qP_X6_lowest 50 [] ls st g M Q = q_T md d qP_X6_lowest 51 [.lload 2] ls st g M Q := q_T_next rfl
theorem b_X6_lowest_51 : q_T md d qP_X6_lowest 51 [] ls st g M Q = q_T md d qP_X6_lowest 55 [.lload 5, .ldiv, .lreturn] ls st g M Q := q_T_next rfl
theorem s_X6_share {w : Nat} {x0 : Int} : q_S md d 178 [qR 6 w, qI x0] g M Q = q_T md d qP_X6_share 0 [] [qR 6 w, qI x0, qS 0, qS 0, qS 0] [] g M Q := rfl
theorem b_X6_share_0 : q_T md d qP_X6_share 0 [] ls st g M Q = q_T md d qP_X6_share 7 [.iconst (0), .istore 2, .iconst (0), .istore 3, .iconst (0), .istore 4] ls st g M Q := q_T_next rfl
theorem b_X6_share_7 : q_T md d qP_X6_share 7 [] ls st g M Q = q_T md d qP_X6_share 16 [.iload 4, .aload 0, .getfield 600, .if_icmp .ge (69)] ls st g M Q := q_T_next rfl
theorem b_X6_share_16 : q_T md d qP_X6_share 16 [] ls st g M Q = q_T md d qP_X6_share 46 [.iload 3, .aload 0, .getfield 604, .iconst (3), .iload 4, .imul, .iconst (1), .iadd, .iaload, .iadd, .istore 3, .iload 2, .aload 0, .getfield 604, .iconst (3), .iload 4, .imul, .iconst (2), .iadd, .iaload, .iconst (-1), .if_icmp .ne (50)] ls st g M Q := q_T_next rfl
theorem b_X6_share_46 : q_T md d qP_X6_share 46 [] ls st g M Q = q_T md d qP_X6_share 50 [.iconst (0), .goto (61)] ls st g M Q := q_T_next rfl
theorem b_X6_share_50 : q_T md d qP_X6_share 50 [] ls st g M Q = q_T md d qP_X6_share 61 [.aload 0, .getfield 604, .iconst (3), .iload 4, .imul, .iconst (1), .iadd, .iaload] ls st g M Q := q_T_next rfl
theorem b_X6_share_61 : q_T md d qP_X6_share 61 [] ls st g M Q = q_T md d qP_X6_share 69 [.iadd, .istore 2, .iinc 4 (1), .goto (7)] ls st g M Q := q_T_next rfl
theorem b_X6_share_69 : q_T md d qP_X6_share 69 [] ls st g M Q = q_T md d qP_X6_share 78 [.iload 1, .iconst (0), .iconst (1), .invokestatic 110, .ifCond .eq (93)] ls st g M Q := q_T_next rfl
theorem b_X6_share_78 : q_T md d qP_X6_share 78 [] ls st g M Q = q_T md d qP_X6_share 82 [.iload 3, .ifCond .le (93)] ls st g M Q := q_T_next rfl
theorem b_X6_share_82 : q_T md d qP_X6_share 82 [] ls st g M Q = q_T md d qP_X6_share 93 [.iload 2, .i2l, .iload 3, .i2l, .iload 1, .invokestatic 177, .goto (96)] ls st g M Q := q_T_next rfl
theorem b_X6_share_93 : q_T md d qP_X6_share 93 [] ls st g M Q = q_T md d qP_X6_share 96 [.jsr (-4611686018427387904)] ls st g M Q := q_T_next rfl
theorem b_X6_share_96 : q_T md d qP_X6_share 96 [] ls st g M Q = q_T md d qP_X6_share 97 [.lreturn] ls st g M Q := q_T_next rfl
theorem s_X6_sheetWrong {w : Nat} {x0 : Int} : q_S md d 179 [qR 6 w, qI x0] g M Q = q_T md d qP_X6_sheetWrong 0 [] [qR 6 w, qI x0] [] g M Q := rfl
theorem b_X6_sheetWrong_0 : q_T md d qP_X6_sheetWrong 0 [] ls st g M Q = q_T md d qP_X6_sheetWrong 9 [.iload 1, .iconst (0), .iconst (3), .invokestatic 110, .ifCond .ne (12)] ls st g M Q := q_T_next rfl
theorem b_X6_sheetWrong_9 : q_T md d qP_X6_sheetWrong 9 [] ls st g M Q = q_T md d qP_X6_sheetWrong 12 [.iconst (-2), .ret 0] ls st g M Q := q_T_next rfl
theorem b_X6_sheetWrong_12 : q_T md d qP_X6_sheetWrong 12 [] ls st g M Q = q_T md d qP_X6_sheetWrong 22 [.aload 0, .getfield 615, .iload 1, .iaload, .iconst (-1), .if_icmp .ne (25)] ls st g M Q := q_T_next rfl
theorem b_X6_sheetWrong_22 : q_T md d qP_X6_sheetWrong 22 [] ls st g M Q = q_T md d qP_X6_sheetWrong 25 [.iconst (-11), .ret 0] ls st g M Q := q_T_next rfl
theorem b_X6_sheetWrong_25 : q_T md d qP_X6_sheetWrong 25 [] ls st g M Q = q_T md d qP_X6_sheetWrong 36 [.aload 0, .getfield 616, .iload 1, .iaload, .iconst (20), .if_icmp .le (41)] ls st g M Q := q_T_next rfl
theorem b_X6_sheetWrong_36 : q_T md d qP_X6_sheetWrong 36 [] ls st g M Q = q_T md d qP_X6_sheetWrong 41 [.iconst (-2), .goto (42)] ls st g M Q := q_T_next rfl
theorem b_X6_sheetWrong_41 : q_T md d qP_X6_sheetWrong 41 [] ls st g M Q = q_T md d qP_X6_sheetWrong 42 [.iconst (0)] ls st g M Q := q_T_next rfl
theorem b_X6_sheetWrong_42 : q_T md d qP_X6_sheetWrong 42 [] ls st g M Q = q_T md d qP_X6_sheetWrong 43 [.ret 0] ls st g M Q := q_T_next rfl
theorem s_X6_toldWrong {w : Nat} {x0 : Int} {x1 : Int} : q_S md d 180 [qR 6 w, qI x0, qI x1] g M Q = q_T md d qP_X6_toldWrong 0 [] [qR 6 w, qI x0, qI x1, qS 0] [] g M Q := rfl
theorem b_X6_toldWrong_0 : q_T md d qP_X6_toldWrong 0 [] ls st g M Q = q_T md d qP_X6_toldWrong 10 [.aload 0, .iload 1, .invokestatic 179, .istore 3, .iload 3, .ifCond .eq (14)] ls st g M Q := q_T_next rfl
theorem b_X6_toldWrong_10 : q_T md d qP_X6_toldWrong 10 [] ls st g M Q = q_T md d qP_X6_toldWrong 14 [.iload 3, .goto (28)] ls st g M Q := q_T_next rfl
theorem b_X6_toldWrong_14 : q_T md d qP_X6_toldWrong 14 [] ls st g M Q = q_T md d qP_X6_toldWrong 22 [.aload 0, .iload 2, .invokestatic 112, .ifCond .eq (26)] ls st g M Q := q_T_next rfl
theorem b_X6_toldWrong_22 : q_T md d qP_X6_toldWrong 22 [] ls st g M Q = q_T md d qP_X6_toldWrong 26 [.iconst (0), .goto (28)] ls st g M Q := q_T_next rfl
theorem b_X6_toldWrong_26 : q_T md d qP_X6_toldWrong 26 [] ls st g M Q = q_T md d qP_X6_toldWrong 28 [.iconst (-5)] ls st g M Q := q_T_next rfl
theorem b_X6_toldWrong_28 : q_T md d qP_X6_toldWrong 28 [] ls st g M Q = q_T md d qP_X6_toldWrong 29 [.ret 0] ls st g M Q := q_T_next rfl
theorem s_X6_unlike {w : Nat} {x0 : Int} {x1 : Int} : q_S md d 181 [qR 6 w, qI x0, qI x1] g M Q = q_T md d qP_X6_unlike 0 [] [qR 6 w, qI x0, qI x1, qS 0, qS 0] [] g M Q := rfl
theorem b_X6_unlike_0 : q_T md d qP_X6_unlike 0 [] ls st g M Q = q_T md d qP_X6_unlike 9 [.iconst (-1), .istore 3, .aload 0, .invokestatic 154, .iconst (0), .istore 4] ls st g M Q := q_T_next rfl
theorem b_X6_unlike_9 : q_T md d qP_X6_unlike 9 [] ls st g M Q = q_T md d qP_X6_unlike 20 [.iload 4, .aload 0, .getfield 616, .iload 1, .iaload, .if_icmp .ge (66)] ls st g M Q := q_T_next rfl
theorem b_X6_unlike_20 : q_T md d qP_X6_unlike 20 [] ls st g M Q = q_T md d qP_X6_unlike 25 [.iload 3, .iconst (-1), .if_icmp .ne (66)] ls st g M Q := q_T_next rfl
theorem b_X6_unlike_25 : q_T md d qP_X6_unlike 25 [] ls st g M Q = q_T md d qP_X6_unlike 53 [.aload 0, .invokestatic 151, .pop, .aload 0, .getfield 617, .iconst (40), .iload 1, .imul, .iload 4, .iadd, .iaload, .aload 0, .getfield 604, .iconst (3), .iload 2, .imul, .iaload, .if_icmp .ne (57)] ls st g M Q := q_T_next rfl
theorem b_X6_unlike_53 : q_T md d qP_X6_unlike 53 [] ls st g M Q = q_T md d qP_X6_unlike 57 [.iconst (-1), .goto (59)] ls st g M Q := q_T_next rfl
theorem b_X6_unlike_57 : q_T md d qP_X6_unlike 57 [] ls st g M Q = q_T md d qP_X6_unlike 59 [.iload 4] ls st g M Q := q_T_next rfl
theorem b_X6_unlike_59 : q_T md d qP_X6_unlike 59 [] ls st g M Q = q_T md d qP_X6_unlike 66 [.istore 3, .iinc 4 (1), .goto (9)] ls st g M Q := q_T_next rfl
theorem b_X6_unlike_66 : q_T md d qP_X6_unlike 66 [] ls st g M Q = q_T md d qP_X6_unlike 72 [.aload 0, .invokestatic 155, .iload 3, .ret 0] ls st g M Q := q_T_next rfl
theorem s_X6_judge {w : Nat} {x0 : Int} {x1 : Int} : q_S md d 182 [qR 6 w, qI x0, qI x1] g M Q = q_T md d qP_X6_judge 0 [] [qR 6 w, qI x0, qI x1, qS 0] [] g M Q := rfl
theorem b_X6_judge_0 : q_T md d qP_X6_judge 0 [] ls st g M Q = q_T md d qP_X6_judge 11 [.aload 0, .iload 1, .iload 2, .invokestatic 180, .istore 3, .iload 3, .ifCond .ne (20)] ls st g M Q := q_T_next rfl
theorem b_X6_judge_11 : q_T md d qP_X6_judge 11 [] ls st g M Q = q_T md d qP_X6_judge 20 [.aload 0, .iload 1, .iload 2, .invokestatic 181, .goto (21)] ls st g M Q := q_T_next rfl
theorem b_X6_judge_20 : q_T md d qP_X6_judge 20 [] ls st g M Q = q_T md d qP_X6_judge 21 [.iload 3] ls st g M Q := q_T_next rfl
theorem b_X6_judge_21 : q_T md d qP_X6_judge 21 [] ls st g M Q = q_T md d qP_X6_judge 22 [.ret 0] ls st g M Q := q_T_next rfl
theorem s_X6_kinds {w : Nat} {x0 : Int} {x1 : Int} {x2 : Int} : q_S md d 183 [qR 6 w, qI x0, qI x1, qI x2] g M Q = q_T md d qP_X6_kinds 0 [] [qR 6 w, qI x0, qI x1, qI x2, qS 0, qS 0, qS 0, qS 0, qS 0] [] g M Q := rfl
theorem b_X6_kinds_0 : q_T md d qP_X6_kinds 0 [] ls st g M Q = q_T md d qP_X6_kinds 13 [.aload 0, .iload 1, .iload 2, .invokestatic 180, .istore 4, .iload 4, .ifCond .eq (16)] ls st g M Q := q_T_next rfl
theorem b_X6_kinds_13 : q_T md d qP_X6_kinds 13 [] ls st g M Q = q_T md d qP_X6_kinds 16 [.iload 4, .ret 0] ls st g M Q := q_T_next rfl
theorem b_X6_kinds_16 : q_T md d qP_X6_kinds 16 [] ls st g M Q = q_T md d qP_X6_kinds 25 [.iload 3, .iconst (0), .iconst (1), .invokestatic 110, .ifCond .ne (28)] ls st g M Q := q_T_next rfl
theorem b_X6_kinds_25 : q_T md d qP_X6_kinds 25 [] ls st g M Q = q_T md d qP_X6_kinds 28 [.iconst (-7), .ret 0] ls st g M Q := q_T_next rfl
theorem b_X6_kinds_28 : q_T md d qP_X6_kinds 28 [] ls st g M Q = q_T md d qP_X6_kinds 50 [.aload 0, .getfield 601, .iload 2, .iaload, .istore 5, .aload 0, .getfield 602, .iload 2, .iaload, .istore 6, .iconst (0), .istore 7, .iconst (0), .istore 8] ls st g M Q := q_T_next rfl
theorem b_X6_kinds_50 : q_T md d qP_X6_kinds 50 [] ls st g M Q = q_T md d qP_X6_kinds 56 [.iload 8, .iload 3, .ifCond .ne (61)] ls st g M Q := q_T_next rfl
theorem b_X6_kinds_56 : q_T md d qP_X6_kinds 56 [] ls st g M Q = q_T md d qP_X6_kinds 61 [.iconst (6), .goto (63)] ls st g M Q := q_T_next rfl
theorem b_X6_kinds_61 : q_T md d qP_X6_kinds 61 [] ls st g M Q = q_T md d qP_X6_kinds 63 [.iconst (10)] ls st g M Q := q_T_next rfl
theorem b_X6_kinds_63 : q_T md d qP_X6_kinds 63 [] ls st g M Q = q_T md d qP_X6_kinds 66 [.if_icmp .ge (130)] ls st g M Q := q_T_next rfl
theorem b_X6_kinds_66 : q_T md d qP_X6_kinds 66 [] ls st g M Q = q_T md d qP_X6_kinds 75 [.aload 0, .getfield 601, .iload 2, .iload 3, .ifCond .ne (80)] ls st g M Q := q_T_next rfl
theorem b_X6_kinds_75 : q_T md d qP_X6_kinds 75 [] ls st g M Q = q_T md d qP_X6_kinds 80 [.iload 8, .goto (82)] ls st g M Q := q_T_next rfl
theorem b_X6_kinds_80 : q_T md d qP_X6_kinds 80 [] ls st g M Q = q_T md d qP_X6_kinds 82 [.iload 5] ls st g M Q := q_T_next rfl
theorem b_X6_kinds_82 : q_T md d qP_X6_kinds 82 [] ls st g M Q = q_T md d qP_X6_kinds 93 [.iastore, .aload 0, .getfield 602, .iload 2, .iload 3, .iconst (1), .if_icmp .ne (98)] ls st g M Q := q_T_next rfl
theorem b_X6_kinds_93 : q_T md d qP_X6_kinds 93 [] ls st g M Q = q_T md d qP_X6_kinds 98 [.iload 8, .goto (100)] ls st g M Q := q_T_next rfl
theorem b_X6_kinds_98 : q_T md d qP_X6_kinds 98 [] ls st g M Q = q_T md d qP_X6_kinds 100 [.iload 6] ls st g M Q := q_T_next rfl
theorem b_X6_kinds_100 : q_T md d qP_X6_kinds 100 [] ls st g M Q = q_T md d qP_X6_kinds 113 [.iastore, .iload 7, .aload 0, .iload 1, .iload 2, .invokestatic 181, .iconst (-1), .if_icmp .ne (120)] ls st g M Q := q_T_next rfl
theorem b_X6_kinds_113 : q_T md d qP_X6_kinds 113 [] ls st g M Q = q_T md d qP_X6_kinds 120 [.iconst (1), .iload 8, .ishl, .goto (121)] ls st g M Q := q_T_next rfl
theorem b_X6_kinds_120 : q_T md d qP_X6_kinds 120 [] ls st g M Q = q_T md d qP_X6_kinds 121 [.iconst (0)] ls st g M Q := q_T_next rfl
theorem b_X6_kinds_121 : q_T md d qP_X6_kinds 121 [] ls st g M Q = q_T md d qP_X6_kinds 130 [.ior, .istore 7, .iinc 8 (1), .goto (50)] ls st g M Q := q_T_next rfl
theorem b_X6_kinds_130 : q_T md d qP_X6_kinds 130 [] ls st g M Q = q_T md d qP_X6_kinds 149 [.aload 0, .getfield 601, .iload 2, .iload 5, .iastore, .aload 0, .getfield 602, .iload 2, .iload 6, .iastore, .iload 7, .ret 0] ls st g M Q := q_T_next rfl
theorem s_X6_states {w : Nat} {x0 : Int} {x1 : Int} {x2 : Int} {x3 : Int} : q_S md d 184 [qR 6 w, qI x0, qI x1, qI x2, qI x3] g M Q = q_T md d qP_X6_states 0 [] [qR 6 w, qI x0, qI x1, qI x2, qI x3, qS 0, qS 0, qS 0, qS 0, qS 0, qS 0] [] g M Q := rfl
theorem b_X6_states_0 : q_T md d qP_X6_states 0 [] ls st g M Q = q_T md d qP_X6_states 13 [.aload 0, .iload 1, .iload 2, .invokestatic 180, .istore 5, .iload 5, .ifCond .eq (16)] ls st g M Q := q_T_next rfl
theorem b_X6_states_13 : q_T md d qP_X6_states 13 [] ls st g M Q = q_T md d qP_X6_states 16 [.iload 5, .ret 0] ls st g M Q := q_T_next rfl
theorem b_X6_states_16 : q_T md d qP_X6_states 16 [] ls st g M Q = q_T md d qP_X6_states 25 [.iload 3, .iconst (0), .iconst (1), .invokestatic 110, .ifCond .eq (35)] ls st g M Q := q_T_next rfl
theorem b_X6_states_25 : q_T md d qP_X6_states 25 [] ls st g M Q = q_T md d qP_X6_states 35 [.iload 4, .iconst (0), .iconst (1), .invokestatic 110, .ifCond .ne (38)] ls st g M Q := q_T_next rfl
theorem b_X6_states_35 : q_T md d qP_X6_states 35 [] ls st g M Q = q_T md d qP_X6_states 38 [.iconst (-7), .ret 0] ls st g M Q := q_T_next rfl
theorem b_X6_states_38 : q_T md d qP_X6_states 38 [] ls st g M Q = q_T md d qP_X6_states 59 [.aload 0, .getfield 604, .iconst (3), .iload 2, .imul, .iload 3, .iadd, .iaload, .istore 6, .iconst (0), .istore 7, .iconst (-1), .istore 8, .iconst (0), .istore 9] ls st g M Q := q_T_next rfl
theorem b_X6_states_59 : q_T md d qP_X6_states 59 [] ls st g M Q = q_T md d qP_X6_states 66 [.iload 9, .iconst (99), .if_icmp .gt (136)] ls st g M Q := q_T_next rfl
theorem b_X6_states_66 : q_T md d qP_X6_states 66 [] ls st g M Q = q_T md d qP_X6_states 88 [.aload 0, .getfield 604, .iconst (3), .iload 2, .imul, .iload 3, .iadd, .iload 9, .iastore, .aload 0, .iload 1, .iload 2, .invokestatic 181, .iconst (-1), .if_icmp .ne (92)] ls st g M Q := q_T_next rfl
theorem b_X6_states_88 : q_T md d qP_X6_states 88 [] ls st g M Q = q_T md d qP_X6_states 92 [.iconst (1), .goto (93)] ls st g M Q := q_T_next rfl
theorem b_X6_states_92 : q_T md d qP_X6_states 92 [] ls st g M Q = q_T md d qP_X6_states 93 [.iconst (0)] ls st g M Q := q_T_next rfl
theorem b_X6_states_93 : q_T md d qP_X6_states 93 [] ls st g M Q = q_T md d qP_X6_states 102 [.istore 10, .iload 7, .iload 10, .ifCond .eq (106)] ls st g M Q := q_T_next rfl
theorem b_X6_states_102 : q_T md d qP_X6_states 102 [] ls st g M Q = q_T md d qP_X6_states 106 [.iconst (1), .goto (107)] ls st g M Q := q_T_next rfl
theorem b_X6_states_106 : q_T md d qP_X6_states 106 [] ls st g M Q = q_T md d qP_X6_states 107 [.iconst (0)] ls st g M Q := q_T_next rfl
theorem b_X6_states_107 : q_T md d qP_X6_states 107 [] ls st g M Q = q_T md d qP_X6_states 115 [.iadd, .istore 7, .iload 10, .ifCond .eq (126)] ls st g M Q := q_T_next rfl
theorem b_X6_states_115 : q_T md d qP_X6_states 115 [] ls st g M Q = q_T md d qP_X6_states 121 [.iload 8, .iconst (-1), .if_icmp .ne (126)] ls st g M Q := q_T_next rfl
theorem b_X6_states_121 : q_T md d qP_X6_states 121 [] ls st g M Q = q_T md d qP_X6_states 126 [.iload 9, .goto (128)] ls st g M Q := q_T_next rfl
theorem b_X6_states_126 : q_T md d qP_X6_states 126 [] ls st g M Q = q_T md d qP_X6_states 128 [.iload 8] ls st g M Q := q_T_next rfl
theorem b_X6_states_128 : q_T md d qP_X6_states 128 [] ls st g M Q = q_T md d qP_X6_states 136 [.istore 8, .iinc 9 (1), .goto (59)] ls st g M Q := q_T_next rfl
theorem b_X6_states_136 : q_T md d qP_X6_states 136 [] ls st g M Q = q_T md d qP_X6_states 153 [.aload 0, .getfield 604, .iconst (3), .iload 2, .imul, .iload 3, .iadd, .iload 6, .iastore, .iload 4, .ifCond .ne (158)] ls st g M Q := q_T_next rfl
theorem b_X6_states_153 : q_T md d qP_X6_states 153 [] ls st g M Q = q_T md d qP_X6_states 158 [.iload 7, .goto (160)] ls st g M Q := q_T_next rfl
theorem b_X6_states_158 : q_T md d qP_X6_states 158 [] ls st g M Q = q_T md d qP_X6_states 160 [.iload 8] ls st g M Q := q_T_next rfl
theorem b_X6_states_160 : q_T md d qP_X6_states 160 [] ls st g M Q = q_T md d qP_X6_states 161 [.ret 0] ls st g M Q := q_T_next rfl
theorem s_X6_whose {w : Nat} {x0 : Int} : q_S md d 185 [qR 6 w, qI x0] g M Q = q_T md d qP_X6_whose 0 [] [qR 6 w, qI x0, qS 0, qS 0, qS 0] [] g M Q := rfl
theorem b_X6_whose_0 : q_T md d qP_X6_whose 0 [] ls st g M Q = q_T md d qP_X6_whose 10 [.aload 0, .iload 1, .invokestatic 179, .istore 2, .iload 2, .ifCond .eq (12)] ls st g M Q := q_T_next rfl
theorem b_X6_whose_10 : q_T md d qP_X6_whose 10 [] ls st g M Q = q_T md d qP_X6_whose 12 [.iload 2, .ret 0] ls st g M Q := q_T_next rfl
theorem b_X6_whose_12 : q_T md d qP_X6_whose 12 [] ls st g M Q = q_T md d qP_X6_whose 17 [.iconst (0), .istore 3, .iconst (0), .istore 4] ls st g M Q := q_T_next rfl
theorem b_X6_whose_17 : q_T md d qP_X6_whose 17 [] ls st g M Q = q_T md d qP_X6_whose 26 [.iload 4, .aload 0, .getfield 600, .if_icmp .ge (54)] ls st g M Q := q_T_next rfl
theorem b_X6_whose_26 : q_T md d qP_X6_whose 26 [] ls st g M Q = q_T md d qP_X6_whose 38 [.iload 3, .aload 0, .iload 1, .iload 4, .invokestatic 181, .iconst (-1), .if_icmp .ne (45)] ls st g M Q := q_T_next rfl
theorem b_X6_whose_38 : q_T md d qP_X6_whose 38 [] ls st g M Q = q_T md d qP_X6_whose 45 [.iconst (1), .iload 4, .ishl, .goto (46)] ls st g M Q := q_T_next rfl
theorem b_X6_whose_45 : q_T md d qP_X6_whose 45 [] ls st g M Q = q_T md d qP_X6_whose 46 [.iconst (0)] ls st g M Q := q_T_next rfl
theorem b_X6_whose_46 : q_T md d qP_X6_whose 46 [] ls st g M Q = q_T md d qP_X6_whose 54 [.ior, .istore 3, .iinc 4 (1), .goto (17)] ls st g M Q := q_T_next rfl
theorem b_X6_whose_54 : q_T md d qP_X6_whose 54 [] ls st g M Q = q_T md d qP_X6_whose 56 [.iload 3, .ret 0] ls st g M Q := q_T_next rfl
theorem s_X6_laws {w : Nat} {x0 : Int} {x1 : Int} : q_S md d 186 [qR 6 w, qI x0, qI x1] g M Q = q_T md d qP_X6_laws 0 [] [qR 6 w, qI x0, qI x1, qS 0, qS 0, qS 0, qS 0] [] g M Q := rfl
theorem b_X6_laws_0 : q_T md d qP_X6_laws 0 [] ls st g M Q = q_T md d qP_X6_laws 11 [.aload 0, .iload 1, .iload 2, .invokestatic 180, .istore 3, .iload 3, .ifCond .eq (13)] ls st g M Q := q_T_next rfl
theorem b_X6_laws_11 : q_T md d qP_X6_laws 11 [] ls st g M Q = q_T md d qP_X6_laws 13 [.iload 3, .ret 0] ls st g M Q := q_T_next rfl
theorem b_X6_laws_13 : q_T md d qP_X6_laws 13 [] ls st g M Q = q_T md d qP_X6_laws 25 [.aload 0, .getfield 611, .istore 4, .iconst (0), .istore 5, .iconst (0), .istore 6] ls st g M Q := q_T_next rfl
theorem b_X6_laws_25 : q_T md d qP_X6_laws 25 [] ls st g M Q = q_T md d qP_X6_laws 34 [.iload 6, .aload 0, .getfield 610, .if_icmp .ge (69)] ls st g M Q := q_T_next rfl
theorem b_X6_laws_34 : q_T md d qP_X6_laws 34 [] ls st g M Q = q_T md d qP_X6_laws 52 [.aload 0, .iload 6, .putfield 611, .iload 5, .aload 0, .iload 1, .iload 2, .invokestatic 181, .iconst (-1), .if_icmp .ne (59)] ls st g M Q := q_T_next rfl
theorem b_X6_laws_52 : q_T md d qP_X6_laws 52 [] ls st g M Q = q_T md d qP_X6_laws 59 [.iconst (1), .iload 6, .ishl, .goto (60)] ls st g M Q := q_T_next rfl
theorem b_X6_laws_59 : q_T md d qP_X6_laws 59 [] ls st g M Q = q_T md d qP_X6_laws 60 [.iconst (0)] ls st g M Q := q_T_next rfl
theorem b_X6_laws_60 : q_T md d qP_X6_laws 60 [] ls st g M Q = q_T md d qP_X6_laws 69 [.ior, .istore 5, .iinc 6 (1), .goto (25)] ls st g M Q := q_T_next rfl
theorem b_X6_laws_69 : q_T md d qP_X6_laws 69 [] ls st g M Q = q_T md d qP_X6_laws 78 [.aload 0, .iload 4, .putfield 611, .iload 5, .ret 0] ls st g M Q := q_T_next rfl
theorem s_X6_film {w : Nat} {x0 : Int} {x1 : Int} {x2 : Int} : q_S md d 187 [qR 6 w, qI x0, qI x1, qI x2] g M Q = q_T md d qP_X6_film 0 [] [qR 6 w, qI x0, qI x1, qI x2, qS 0] [] g M Q := rfl
theorem b_X6_film_0 : q_T md d qP_X6_film 0 [] ls st g M Q = q_T md d qP_X6_film 9 [.iload 1, .iconst (0), .iconst (3), .invokestatic 110, .ifCond .ne (12)] ls st g M Q := q_T_next rfl
theorem b_X6_film_9 : q_T md d qP_X6_film 9 [] ls st g M Q = q_T md d qP_X6_film 12 [.iconst (-2), .ret 0] ls st g M Q := q_T_next rfl
theorem b_X6_film_12 : q_T md d qP_X6_film 12 [] ls st g M Q = q_T md d qP_X6_film 20 [.aload 0, .iload 2, .invokestatic 112, .ifCond .ne (23)] ls st g M Q := q_T_next rfl
theorem b_X6_film_20 : q_T md d qP_X6_film 20 [] ls st g M Q = q_T md d qP_X6_film 23 [.iconst (-5), .ret 0] ls st g M Q := q_T_next rfl
theorem b_X6_film_23 : q_T md d qP_X6_film 23 [] ls st g M Q = q_T md d qP_X6_film 33 [.iload 3, .iconst (0), .iconst (20), .invokestatic 110, .ifCond .ne (36)] ls st g M Q := q_T_next rfl
theorem b_X6_film_33 : q_T md d qP_X6_film 33 [] ls st g M Q = q_T md d qP_X6_film 36 [.iconst (-7), .ret 0] ls st g M Q := q_T_next rfl
theorem b_X6_film_36 : q_T md d qP_X6_film 36 [] ls st g M Q = q_T md d qP_X6_film 57 [.aload 0, .getfield 615, .iload 1, .iconst (0), .iastore, .aload 0, .getfield 616, .iload 1, .iload 3, .iastore, .aload 0, .invokestatic 154, .iconst (0), .istore 4] ls st g M Q := q_T_next rfl
theorem b_X6_film_57 : q_T md d qP_X6_film 57 [] ls st g M Q = q_T md d qP_X6_film 64 [.iload 4, .iconst (40), .if_icmp .ge (114)] ls st g M Q := q_T_next rfl
theorem b_X6_film_64 : q_T md d qP_X6_film 64 [] ls st g M Q = q_T md d qP_X6_film 83 [.aload 0, .getfield 617, .iconst (40), .iload 1, .imul, .iload 4, .iadd, .iconst (0), .iastore, .iload 4, .iload 3, .if_icmp .ge (108)] ls st g M Q := q_T_next rfl
theorem b_X6_film_83 : q_T md d qP_X6_film 83 [] ls st g M Q = q_T md d qP_X6_film 108 [.aload 0, .invokestatic 151, .pop, .aload 0, .getfield 617, .iconst (40), .iload 1, .imul, .iload 4, .iadd, .aload 0, .getfield 604, .iconst (3), .iload 2, .imul, .iaload, .iastore] ls st g M Q := q_T_next rfl
theorem b_X6_film_108 : q_T md d qP_X6_film 108 [] ls st g M Q = q_T md d qP_X6_film 114 [.iinc 4 (1), .goto (57)] ls st g M Q := q_T_next rfl
theorem b_X6_film_114 : q_T md d qP_X6_film 114 [] ls st g M Q = q_T md d qP_X6_film 120 [.aload 0, .invokestatic 155, .iload 3, .ret 0] ls st g M Q := q_T_next rfl
theorem s_X6_weather {w : Nat} {x0 : Int} : q_S md d 188 [qR 6 w, qI x0] g M Q = q_T md d qP_X6_weather 0 [] [qR 6 w, qI x0, qS 0, qS 0, qS 0, qS 0] [] g M Q := rfl
theorem b_X6_weather_0 : q_T md d qP_X6_weather 0 [] ls st g M Q = q_T md d qP_X6_weather 12 [.iload 1, .i2l, .jsr (1), .ladd, .lstore 2, .aload 0, .invokestatic 154, .iconst (0), .istore 4] ls st g M Q := q_T_next rfl
theorem b_X6_weather_12 : q_T md d qP_X6_weather 12 [] ls st g M Q = q_T md d qP_X6_weather 19 [.iload 4, .iconst (8), .if_icmp .ge (94)] ls st g M Q := q_T_next rfl
theorem b_X6_weather_19 : q_T md d qP_X6_weather 19 [] ls st g M Q = q_T md d qP_X6_weather 56 [.lload 2, .jsr (48271), .lmul, .jsr (2147483647), .lrem, .lstore 2, .lload 2, .jsr (5), .lrem, .l2i, .istore 5, .lload 2, .jsr (48271), .lmul, .jsr (2147483647), .lrem, .lstore 2, .iload 5, .aload 0, .getfield 600, .if_icmp .ge (83)] ls st g M Q := q_T_next rfl
theorem b_X6_weather_56 : q_T md d qP_X6_weather 56 [] ls st g M Q = q_T md d qP_X6_weather 83 [.aload 0, .getfield 604, .iconst (3), .iload 5, .imul, .lload 2, .jsr (100), .lrem, .l2i, .iastore, .aload 0, .getfield 604, .iconst (3), .iload 5, .imul, .iconst (2), .iadd, .iconst (-1), .iastore] ls st g M Q := q_T_next rfl
theorem b_X6_weather_83 : q_T md d qP_X6_weather 83 [] ls st g M Q = q_T md d qP_X6_weather 94 [.aload 0, .invokestatic 151, .pop, .iinc 4 (1), .goto (12)] ls st g M Q := q_T_next rfl
theorem b_X6_weather_94 : q_T md d qP_X6_weather 94 [] ls st g M Q = q_T md d qP_X6_weather 115 [.aload 0, .invokestatic 153, .istore 4, .aload 0, .aload 0, .invokestatic 114, .putfield 636, .aload 0, .invokestatic 155, .iload 4, .ret 0] ls st g M Q := q_T_next rfl
theorem s_X6_drawn {w : Nat} {x0 : Int} {x1 : Int} : q_S md d 189 [qR 6 w, qI x0, qI x1] g M Q = q_T md d qP_X6_drawn 0 [] [qR 6 w, qI x0, qI x1, qS 0] [] g M Q := rfl
theorem b_X6_drawn_0 : q_T md d qP_X6_drawn 0 [] ls st g M Q = q_T md d qP_X6_drawn 11 [.iload 1, .iconst (0), .iconst (99999), .invokestatic 110, .ifCond .eq (20)] ls st g M Q := q_T_next rfl
theorem b_X6_drawn_11 : q_T md d qP_X6_drawn 11 [] ls st g M Q = q_T md d qP_X6_drawn 20 [.iload 2, .iconst (0), .iconst (1), .invokestatic 110, .ifCond .ne (23)] ls st g M Q := q_T_next rfl
theorem b_X6_drawn_20 : q_T md d qP_X6_drawn 20 [] ls st g M Q = q_T md d qP_X6_drawn 23 [.iconst (-2), .ret 0] ls st g M Q := q_T_next rfl
theorem b_X6_drawn_23 : q_T md d qP_X6_drawn 23 [] ls st g M Q = q_T md d qP_X6_drawn 33 [.aload 0, .iload 1, .invokestatic 188, .istore 3, .iload 2, .ifCond .ne (37)] ls st g M Q := q_T_next rfl
theorem b_X6_drawn_33 : q_T md d qP_X6_drawn 33 [] ls st g M Q = q_T md d qP_X6_drawn 37 [.iload 3, .goto (41)] ls st g M Q := q_T_next rfl
theorem b_X6_drawn_37 : q_T md d qP_X6_drawn 37 [] ls st g M Q = q_T md d qP_X6_drawn 41 [.aload 0, .getfield 636] ls st g M Q := q_T_next rfl
theorem b_X6_drawn_41 : q_T md d qP_X6_drawn 41 [] ls st g M Q = q_T md d qP_X6_drawn 42 [.ret 0] ls st g M Q := q_T_next rfl
theorem s_X6_odds {w : Nat} {x0 : Int} {x1 : Int} {x2 : Int} {x3 : Int} : q_S md d 190 [qR 6 w, qI x0, qI x1, qI x2, qI x3] g M Q = q_T md d qP_X6_odds 0 [] [qR 6 w, qI x0, qI x1, qI x2, qI x3, qS 0, qS 0, qS 0] [] g M Q := rfl
theorem b_X6_odds_0 : q_T md d qP_X6_odds 0 [] ls st g M Q = q_T md d qP_X6_odds 11 [.iload 1, .iconst (0), .iconst (99999), .invokestatic 110, .ifCond .eq (40)] ls st g M Q := q_T_next rfl
theorem b_X6_odds_11 : q_T md d qP_X6_odds 11 [] ls st g M Q = q_T md d qP_X6_odds 21 [.iload 2, .iconst (1), .iconst (40), .invokestatic 110, .ifCond .eq (40)] ls st g M Q := q_T_next rfl
theorem b_X6_odds_21 : q_T md d qP_X6_odds 21 [] ls st g M Q = q_T md d qP_X6_odds 30 [.iload 3, .iconst (0), .iconst (5), .invokestatic 110, .ifCond .eq (40)] ls st g M Q := q_T_next rfl
theorem b_X6_odds_30 : q_T md d qP_X6_odds 30 [] ls st g M Q = q_T md d qP_X6_odds 40 [.iload 4, .iconst (0), .iconst (1), .invokestatic 110, .ifCond .ne (44)] ls st g M Q := q_T_next rfl
theorem b_X6_odds_40 : q_T md d qP_X6_odds 40 [] ls st g M Q = q_T md d qP_X6_odds 44 [.jsr (-4611686018427387904), .lreturn] ls st g M Q := q_T_next rfl
theorem b_X6_odds_44 : q_T md d qP_X6_odds 44 [] ls st g M Q = q_T md d qP_X6_odds 50 [.jsr (0), .lstore 5, .iconst (0), .istore 7] ls st g M Q := q_T_next rfl
theorem b_X6_odds_50 : q_T md d qP_X6_odds 50 [] ls st g M Q = q_T md d qP_X6_odds 56 [.iload 7, .iload 2, .if_icmp .ge (89)] ls st g M Q := q_T_next rfl
theorem b_X6_odds_56 : q_T md d qP_X6_odds 56 [] ls st g M Q = q_T md d qP_X6_odds 75 [.aload 0, .iload 1, .iload 7, .iadd, .invokestatic 188, .pop, .lload 5, .aload 0, .getfield 636, .iload 3, .if_icmp .gt (79)] ls st g M Q := q_T_next rfl
theorem b_X6_odds_75 : q_T md d qP_X6_odds 75 [] ls st g M Q = q_T md d qP_X6_odds 79 [.jsr (1), .goto (80)] ls st g M Q := q_T_next rfl
theorem b_X6_odds_79 : q_T md d qP_X6_odds 79 [] ls st g M Q = q_T md d qP_X6_odds 80 [.jsr (0)] ls st g M Q := q_T_next rfl
theorem b_X6_odds_80 : q_T md d qP_X6_odds 80 [] ls st g M Q = q_T md d qP_X6_odds 89 [.ladd, .lstore 5, .iinc 7 (1), .goto (50)] ls st g M Q := q_T_next rfl
theorem b_X6_odds_89 : q_T md d qP_X6_odds 89 [] ls st g M Q = q_T md d qP_X6_odds 99 [.lload 5, .iload 2, .i2l, .iload 4, .invokestatic 177, .lreturn] ls st g M Q := q_T_next rfl
theorem s_X6_image {w : Nat} : q_S md d 191 [qR 6 w] g M Q = q_T md d qP_X6_image 0 [] [qR 6 w, qS 0] [] g M Q := rfl
theorem b_X6_image_0 : q_T md d qP_X6_image 0 [] ls st g M Q = q_T md d qP_X6_image 7 [.aload 0, .iconst (1), .putfield 612, .iconst (0), .istore 1] ls st g M Q := q_T_next rfl
theorem b_X6_image_7 : q_T md d qP_X6_image 7 [] ls st g M Q = q_T md d qP_X6_image 13 [.iload 1, .iconst (15), .if_icmp .ge (31)] ls st g M Q := q_T_next rfl
theorem b_X6_image_13 : q_T md d qP_X6_image 13 [] ls st g M Q = q_T md d qP_X6_image 31 [.aload 0, .getfield 613, .iload 1, .aload 0, .getfield 604, .iload 1, .iaload, .iastore, .iinc 1 (1), .goto (7)] ls st g M Q := q_T_next rfl
theorem b_X6_image_31 : q_T md d qP_X6_image 31 [] ls st g M Q = q_T md d qP_X6_image 33 [.iconst (0), .istore 1] ls st g M Q := q_T_next rfl
theorem b_X6_image_33 : q_T md d qP_X6_image 33 [] ls st g M Q = q_T md d qP_X6_image 39 [.iload 1, .iconst (20), .if_icmp .ge (60)] ls st g M Q := q_T_next rfl
theorem b_X6_image_39 : q_T md d qP_X6_image 39 [] ls st g M Q = q_T md d qP_X6_image 60 [.aload 0, .getfield 613, .iconst (15), .iload 1, .iadd, .aload 0, .getfield 603, .iload 1, .iaload, .iastore, .iinc 1 (1), .goto (33)] ls st g M Q := q_T_next rfl
theorem b_X6_image_60 : q_T md d qP_X6_image 60 [] ls st g M Q = q_T md d qP_X6_image 95 [.aload 0, .getfield 614, .iconst (0), .aload 0, .getfield 600, .iastore, .aload 0, .getfield 614, .iconst (1), .aload 0, .getfield 605, .iastore, .aload 0, .getfield 614, .iconst (2), .aload 0, .getfield 611, .iastore, .aload 0, .getfield 600, .ret 0] ls st g M Q := q_T_next rfl
theorem s_X6_back {w : Nat} : q_S md d 192 [qR 6 w] g M Q = q_T md d qP_X6_back 0 [] [qR 6 w, qS 0] [] g M Q := rfl
theorem b_X6_back_0 : q_T md d qP_X6_back 0 [] ls st g M Q = q_T md d qP_X6_back 7 [.aload 0, .getfield 612, .ifCond .ne (10)] ls st g M Q := q_T_next rfl
theorem b_X6_back_7 : q_T md d qP_X6_back 7 [] ls st g M Q = q_T md d qP_X6_back 10 [.iconst (-3), .ret 0] ls st g M Q := q_T_next rfl
theorem b_X6_back_10 : q_T md d qP_X6_back 10 [] ls st g M Q = q_T md d qP_X6_back 12 [.iconst (0), .istore 1] ls st g M Q := q_T_next rfl
theorem b_X6_back_12 : q_T md d qP_X6_back 12 [] ls st g M Q = q_T md d qP_X6_back 18 [.iload 1, .iconst (15), .if_icmp .ge (36)] ls st g M Q := q_T_next rfl
theorem b_X6_back_18 : q_T md d qP_X6_back 18 [] ls st g M Q = q_T md d qP_X6_back 36 [.aload 0, .getfield 604, .iload 1, .aload 0, .getfield 613, .iload 1, .iaload, .iastore, .iinc 1 (1), .goto (12)] ls st g M Q := q_T_next rfl
theorem b_X6_back_36 : q_T md d qP_X6_back 36 [] ls st g M Q = q_T md d qP_X6_back 38 [.iconst (0), .istore 1] ls st g M Q := q_T_next rfl
theorem b_X6_back_38 : q_T md d qP_X6_back 38 [] ls st g M Q = q_T md d qP_X6_back 44 [.iload 1, .iconst (20), .if_icmp .ge (65)] ls st g M Q := q_T_next rfl
theorem b_X6_back_44 : q_T md d qP_X6_back 44 [] ls st g M Q = q_T md d qP_X6_back 65 [.aload 0, .getfield 603, .iload 1, .aload 0, .getfield 613, .iconst (15), .iload 1, .iadd, .iaload, .iastore, .iinc 1 (1), .goto (38)] ls st g M Q := q_T_next rfl
theorem b_X6_back_65 : q_T md d qP_X6_back 65 [] ls st g M Q = q_T md d qP_X6_back 100 [.aload 0, .aload 0, .getfield 614, .iconst (0), .iaload, .putfield 600, .aload 0, .aload 0, .getfield 614, .iconst (1), .iaload, .putfield 605, .aload 0, .aload 0, .getfield 614, .iconst (2), .iaload, .putfield 611, .aload 0, .getfield 600, .ret 0] ls st g M Q := q_T_next rfl
theorem s_X6_sheet {w : Nat} {x0 : Int} {x1 : Int} {x2 : Int} : q_S md d 193 [qR 6 w, qI x0, qI x1, qI x2] g M Q = q_T md d qP_X6_sheet 0 [] [qR 6 w, qI x0, qI x1, qI x2, qS 0] [] g M Q := rfl
theorem b_X6_sheet_0 : q_T md d qP_X6_sheet 0 [] ls st g M Q = q_T md d qP_X6_sheet 9 [.iload 1, .iconst (0), .iconst (3), .invokestatic 110, .ifCond .eq (29)] ls st g M Q := q_T_next rfl
theorem b_X6_sheet_9 : q_T md d qP_X6_sheet 9 [] ls st g M Q = q_T md d qP_X6_sheet 18 [.iload 2, .iconst (-1), .iconst (2), .invokestatic 110, .ifCond .eq (29)] ls st g M Q := q_T_next rfl
theorem b_X6_sheet_18 : q_T md d qP_X6_sheet 18 [] ls st g M Q = q_T md d qP_X6_sheet 23 [.iload 2, .iconst (-1), .if_icmp .eq (32)] ls st g M Q := q_T_next rfl
theorem b_X6_sheet_23 : q_T md d qP_X6_sheet 23 [] ls st g M Q = q_T md d qP_X6_sheet 29 [.iload 3, .iconst (40), .if_icmp .le (32)] ls st g M Q := q_T_next rfl
theorem b_X6_sheet_29 : q_T md d qP_X6_sheet 29 [] ls st g M Q = q_T md d qP_X6_sheet 32 [.iconst (-2), .ret 0] ls st g M Q := q_T_next rfl
theorem b_X6_sheet_32 : q_T md d qP_X6_sheet 32 [] ls st g M Q = q_T md d qP_X6_sheet 37 [.iload 2, .iconst (-1), .if_icmp .eq (44)] ls st g M Q := q_T_next rfl
theorem b_X6_sheet_37 : q_T md d qP_X6_sheet 37 [] ls st g M Q = q_T md d qP_X6_sheet 41 [.iload 3, .ifCond .ge (44)] ls st g M Q := q_T_next rfl
theorem b_X6_sheet_41 : q_T md d qP_X6_sheet 41 [] ls st g M Q = q_T md d qP_X6_sheet 44 [.iconst (-14), .ret 0] ls st g M Q := q_T_next rfl
theorem b_X6_sheet_44 : q_T md d qP_X6_sheet 44 [] ls st g M Q = q_T md d qP_X6_sheet 61 [.aload 0, .getfield 615, .iload 1, .iload 2, .iastore, .aload 0, .getfield 616, .iload 1, .iload 2, .iconst (-1), .if_icmp .ne (65)] ls st g M Q := q_T_next rfl
theorem b_X6_sheet_61 : q_T md d qP_X6_sheet 61 [] ls st g M Q = q_T md d qP_X6_sheet 65 [.iconst (0), .goto (66)] ls st g M Q := q_T_next rfl
theorem b_X6_sheet_65 : q_T md d qP_X6_sheet 65 [] ls st g M Q = q_T md d qP_X6_sheet 66 [.iload 3] ls st g M Q := q_T_next rfl
theorem b_X6_sheet_66 : q_T md d qP_X6_sheet 66 [] ls st g M Q = q_T md d qP_X6_sheet 70 [.iastore, .iconst (0), .istore 4] ls st g M Q := q_T_next rfl
theorem b_X6_sheet_70 : q_T md d qP_X6_sheet 70 [] ls st g M Q = q_T md d qP_X6_sheet 77 [.iload 4, .iconst (40), .if_icmp .ge (96)] ls st g M Q := q_T_next rfl
theorem b_X6_sheet_77 : q_T md d qP_X6_sheet 77 [] ls st g M Q = q_T md d qP_X6_sheet 96 [.aload 0, .getfield 617, .iconst (40), .iload 1, .imul, .iload 4, .iadd, .iconst (0), .iastore, .iinc 4 (1), .goto (70)] ls st g M Q := q_T_next rfl
theorem b_X6_sheet_96 : q_T md d qP_X6_sheet 96 [] ls st g M Q = q_T md d qP_X6_sheet 98 [.iconst (1), .ret 0] ls st g M Q := q_T_next rfl
theorem s_X6_cell {w : Nat} {x0 : Int} {x1 : Int} {x2 : Int} : q_S md d 194 [qR 6 w, qI x0, qI x1, qI x2] g M Q = q_T md d qP_X6_cell 0 [] [qR 6 w, qI x0, qI x1, qI x2] [] g M Q := rfl
theorem b_X6_cell_0 : q_T md d qP_X6_cell 0 [] ls st g M Q = q_T md d qP_X6_cell 9 [.iload 1, .iconst (0), .iconst (3), .invokestatic 110, .ifCond .ne (12)] ls st g M Q := q_T_next rfl
theorem b_X6_cell_9 : q_T md d qP_X6_cell 9 [] ls st g M Q = q_T md d qP_X6_cell 12 [.iconst (-2), .ret 0] ls st g M Q := q_T_next rfl
theorem b_X6_cell_12 : q_T md d qP_X6_cell 12 [] ls st g M Q = q_T md d qP_X6_cell 22 [.aload 0, .getfield 615, .iload 1, .iaload, .iconst (-1), .if_icmp .ne (25)] ls st g M Q := q_T_next rfl
theorem b_X6_cell_22 : q_T md d qP_X6_cell 22 [] ls st g M Q = q_T md d qP_X6_cell 25 [.iconst (-11), .ret 0] ls st g M Q := q_T_next rfl
theorem b_X6_cell_25 : q_T md d qP_X6_cell 25 [] ls st g M Q = q_T md d qP_X6_cell 41 [.iload 2, .iconst (0), .aload 0, .getfield 616, .iload 1, .iaload, .iconst (1), .isub, .invokestatic 110, .ifCond .ne (44)] ls st g M Q := q_T_next rfl
theorem b_X6_cell_41 : q_T md d qP_X6_cell 41 [] ls st g M Q = q_T md d qP_X6_cell 44 [.iconst (-12), .ret 0] ls st g M Q := q_T_next rfl
theorem b_X6_cell_44 : q_T md d qP_X6_cell 44 [] ls st g M Q = q_T md d qP_X6_cell 63 [.aload 0, .getfield 617, .iconst (40), .iload 1, .imul, .iload 2, .iadd, .aload 0, .getfield 615, .iload 1, .iaload, .ifCond .ne (68)] ls st g M Q := q_T_next rfl
theorem b_X6_cell_63 : q_T md d qP_X6_cell 63 [] ls st g M Q = q_T md d qP_X6_cell 68 [.iload 3, .i2b, .goto (84)] ls st g M Q := q_T_next rfl
theorem b_X6_cell_68 : q_T md d qP_X6_cell 68 [] ls st g M Q = q_T md d qP_X6_cell 78 [.aload 0, .getfield 615, .iload 1, .iaload, .iconst (1), .if_icmp .ne (83)] ls st g M Q := q_T_next rfl
theorem b_X6_cell_78 : q_T md d qP_X6_cell 78 [] ls st g M Q = q_T md d qP_X6_cell 83 [.iload 3, .i2s, .goto (84)] ls st g M Q := q_T_next rfl
theorem b_X6_cell_83 : q_T md d qP_X6_cell 83 [] ls st g M Q = q_T md d qP_X6_cell 84 [.iload 3] ls st g M Q := q_T_next rfl
theorem b_X6_cell_84 : q_T md d qP_X6_cell 84 [] ls st g M Q = q_T md d qP_X6_cell 87 [.iastore, .iconst (1), .ret 0] ls st g M Q := q_T_next rfl
theorem s_X6_copy {w : Nat} {x0 : Int} {x1 : Int} {x2 : Int} {x3 : Int} {x4 : Int} : q_S md d 195 [qR 6 w, qI x0, qI x1, qI x2, qI x3, qI x4] g M Q = q_T md d qP_X6_copy 0 [] [qR 6 w, qI x0, qI x1, qI x2, qI x3, qI x4, qS 0, qS 0, qS 0, qS 0] [] g M Q := rfl
theorem b_X6_copy_0 : q_T md d qP_X6_copy 0 [] ls st g M Q = q_T md d qP_X6_copy 9 [.iload 1, .iconst (0), .iconst (3), .invokestatic 110, .ifCond .eq (18)] ls st g M Q := q_T_next rfl
theorem b_X6_copy_9 : q_T md d qP_X6_copy 9 [] ls st g M Q = q_T md d qP_X6_copy 18 [.iload 3, .iconst (0), .iconst (3), .invokestatic 110, .ifCond .ne (21)] ls st g M Q := q_T_next rfl
theorem b_X6_copy_18 : q_T md d qP_X6_copy 18 [] ls st g M Q = q_T md d qP_X6_copy 21 [.iconst (-2), .ret 0] ls st g M Q := q_T_next rfl
theorem b_X6_copy_21 : q_T md d qP_X6_copy 21 [] ls st g M Q = q_T md d qP_X6_copy 31 [.aload 0, .getfield 615, .iload 1, .iaload, .iconst (-1), .if_icmp .eq (41)] ls st g M Q := q_T_next rfl
theorem b_X6_copy_31 : q_T md d qP_X6_copy 31 [] ls st g M Q = q_T md d qP_X6_copy 41 [.aload 0, .getfield 615, .iload 3, .iaload, .iconst (-1), .if_icmp .ne (44)] ls st g M Q := q_T_next rfl
theorem b_X6_copy_41 : q_T md d qP_X6_copy 41 [] ls st g M Q = q_T md d qP_X6_copy 44 [.iconst (-11), .ret 0] ls st g M Q := q_T_next rfl
theorem b_X6_copy_44 : q_T md d qP_X6_copy 44 [] ls st g M Q = q_T md d qP_X6_copy 59 [.aload 0, .getfield 615, .iload 1, .iaload, .aload 0, .getfield 615, .iload 3, .iaload, .if_icmp .eq (62)] ls st g M Q := q_T_next rfl
theorem b_X6_copy_59 : q_T md d qP_X6_copy 59 [] ls st g M Q = q_T md d qP_X6_copy 62 [.iconst (-13), .ret 0] ls st g M Q := q_T_next rfl
theorem b_X6_copy_62 : q_T md d qP_X6_copy 62 [] ls st g M Q = q_T md d qP_X6_copy 67 [.iload 5, .ifCond .lt (124)] ls st g M Q := q_T_next rfl
theorem b_X6_copy_67 : q_T md d qP_X6_copy 67 [] ls st g M Q = q_T md d qP_X6_copy 71 [.iload 2, .ifCond .lt (124)] ls st g M Q := q_T_next rfl
theorem b_X6_copy_71 : q_T md d qP_X6_copy 71 [] ls st g M Q = q_T md d qP_X6_copy 76 [.iload 4, .ifCond .lt (124)] ls st g M Q := q_T_next rfl
theorem b_X6_copy_76 : q_T md d qP_X6_copy 76 [] ls st g M Q = q_T md d qP_X6_copy 86 [.iload 2, .aload 0, .getfield 616, .iload 1, .iaload, .if_icmp .gt (124)] ls st g M Q := q_T_next rfl
theorem b_X6_copy_86 : q_T md d qP_X6_copy 86 [] ls st g M Q = q_T md d qP_X6_copy 97 [.iload 4, .aload 0, .getfield 616, .iload 3, .iaload, .if_icmp .gt (124)] ls st g M Q := q_T_next rfl
theorem b_X6_copy_97 : q_T md d qP_X6_copy 97 [] ls st g M Q = q_T md d qP_X6_copy 110 [.iload 5, .aload 0, .getfield 616, .iload 1, .iaload, .iload 2, .isub, .if_icmp .gt (124)] ls st g M Q := q_T_next rfl
theorem b_X6_copy_110 : q_T md d qP_X6_copy 110 [] ls st g M Q = q_T md d qP_X6_copy 124 [.iload 5, .aload 0, .getfield 616, .iload 3, .iaload, .iload 4, .isub, .if_icmp .le (127)] ls st g M Q := q_T_next rfl
theorem b_X6_copy_124 : q_T md d qP_X6_copy 124 [] ls st g M Q = q_T md d qP_X6_copy 127 [.iconst (-12), .ret 0] ls st g M Q := q_T_next rfl
theorem b_X6_copy_127 : q_T md d qP_X6_copy 127 [] ls st g M Q = q_T md d qP_X6_copy 147 [.iconst (40), .iload 1, .imul, .iload 2, .iadd, .istore 6, .iconst (40), .iload 3, .imul, .iload 4, .iadd, .istore 7, .iconst (0), .istore 8] ls st g M Q := q_T_next rfl
theorem b_X6_copy_147 : q_T md d qP_X6_copy 147 [] ls st g M Q = q_T md d qP_X6_copy 154 [.iload 8, .iload 5, .if_icmp .ge (201)] ls st g M Q := q_T_next rfl
theorem b_X6_copy_154 : q_T md d qP_X6_copy 154 [] ls st g M Q = q_T md d qP_X6_copy 161 [.iload 6, .iload 7, .if_icmp .ge (171)] ls st g M Q := q_T_next rfl
theorem b_X6_copy_161 : q_T md d qP_X6_copy 161 [] ls st g M Q = q_T md d qP_X6_copy 171 [.iload 5, .iconst (1), .isub, .iload 8, .isub, .goto (173)] ls st g M Q := q_T_next rfl
theorem b_X6_copy_171 : q_T md d qP_X6_copy 171 [] ls st g M Q = q_T md d qP_X6_copy 173 [.iload 8] ls st g M Q := q_T_next rfl
theorem b_X6_copy_173 : q_T md d qP_X6_copy 173 [] ls st g M Q = q_T md d qP_X6_copy 201 [.istore 9, .aload 0, .getfield 617, .iload 7, .iload 9, .iadd, .aload 0, .getfield 617, .iload 6, .iload 9, .iadd, .iaload, .iastore, .iinc 8 (1), .goto (147)] ls st g M Q := q_T_next rfl
theorem b_X6_copy_201 : q_T md d qP_X6_copy 201 [] ls st g M Q = q_T md d qP_X6_copy 204 [.iload 5, .ret 0] ls st g M Q := q_T_next rfl
theorem s_X6_stonesBy {w : Nat} {x0 : Int} {x1 : Int} {x2 : Int} {x3 : Int} : q_S md d 196 [qR 6 w, qI x0, qI x1, qI x2, qI x3] g M Q = q_T md d qP_X6_stonesBy 0 [] [qR 6 w, qI x0, qI x1, qI x2, qI x3, qS 0, qS 0, qS 0, qS 0] [] g M Q := rfl
theorem b_X6_stonesBy_0 : q_T md d qP_X6_stonesBy 0 [] ls st g M Q = q_T md d qP_X6_stonesBy 9 [.iload 1, .iconst (0), .iconst (3), .invokestatic 110, .ifCond .eq (28)] ls st g M Q := q_T_next rfl
theorem b_X6_stonesBy_9 : q_T md d qP_X6_stonesBy 9 [] ls st g M Q = q_T md d qP_X6_stonesBy 18 [.iload 2, .iconst (0), .iconst (2), .invokestatic 110, .ifCond .eq (28)] ls st g M Q := q_T_next rfl
theorem b_X6_stonesBy_18 : q_T md d qP_X6_stonesBy 18 [] ls st g M Q = q_T md d qP_X6_stonesBy 28 [.iload 4, .iconst (0), .iconst (5), .invokestatic 110, .ifCond .ne (31)] ls st g M Q := q_T_next rfl
theorem b_X6_stonesBy_28 : q_T md d qP_X6_stonesBy 28 [] ls st g M Q = q_T md d qP_X6_stonesBy 31 [.iconst (-2), .ret 0] ls st g M Q := q_T_next rfl
theorem b_X6_stonesBy_31 : q_T md d qP_X6_stonesBy 31 [] ls st g M Q = q_T md d qP_X6_stonesBy 41 [.aload 0, .getfield 615, .iload 1, .iaload, .iconst (-1), .if_icmp .ne (44)] ls st g M Q := q_T_next rfl
theorem b_X6_stonesBy_41 : q_T md d qP_X6_stonesBy 41 [] ls st g M Q = q_T md d qP_X6_stonesBy 44 [.iconst (-11), .ret 0] ls st g M Q := q_T_next rfl
theorem b_X6_stonesBy_44 : q_T md d qP_X6_stonesBy 44 [] ls st g M Q = q_T md d qP_X6_stonesBy 54 [.aload 0, .getfield 615, .iload 1, .iaload, .iload 2, .if_icmp .eq (57)] ls st g M Q := q_T_next rfl
theorem b_X6_stonesBy_54 : q_T md d qP_X6_stonesBy 54 [] ls st g M Q = q_T md d qP_X6_stonesBy 57 [.iconst (-13), .ret 0] ls st g M Q := q_T_next rfl
theorem b_X6_stonesBy_57 : q_T md d qP_X6_stonesBy 57 [] ls st g M Q = q_T md d qP_X6_stonesBy 63 [.iconst (0), .istore 5, .iconst (0), .istore 6] ls st g M Q := q_T_next rfl
theorem b_X6_stonesBy_63 : q_T md d qP_X6_stonesBy 63 [] ls st g M Q = q_T md d qP_X6_stonesBy 70 [.iload 6, .iload 4, .if_icmp .ge (161)] ls st g M Q := q_T_next rfl
theorem b_X6_stonesBy_70 : q_T md d qP_X6_stonesBy 70 [] ls st g M Q = q_T md d qP_X6_stonesBy 82 [.iload 3, .iconst (3), .iload 6, .imul, .iadd, .istore 7, .iload 3, .ifCond .lt (101)] ls st g M Q := q_T_next rfl
theorem b_X6_stonesBy_82 : q_T md d qP_X6_stonesBy 82 [] ls st g M Q = q_T md d qP_X6_stonesBy 88 [.iload 7, .iload 3, .if_icmp .lt (101)] ls st g M Q := q_T_next rfl
theorem b_X6_stonesBy_88 : q_T md d qP_X6_stonesBy 88 [] ls st g M Q = q_T md d qP_X6_stonesBy 101 [.iload 7, .aload 0, .getfield 616, .iload 1, .iaload, .iconst (3), .isub, .if_icmp .le (104)] ls st g M Q := q_T_next rfl
theorem b_X6_stonesBy_101 : q_T md d qP_X6_stonesBy 101 [] ls st g M Q = q_T md d qP_X6_stonesBy 104 [.iconst (-12), .ret 0] ls st g M Q := q_T_next rfl
theorem b_X6_stonesBy_104 : q_T md d qP_X6_stonesBy 104 [] ls st g M Q = q_T md d qP_X6_stonesBy 147 [.iconst (40), .iload 1, .imul, .iload 7, .iadd, .istore 8, .iload 5, .aload 0, .aload 0, .getfield 617, .iload 8, .iaload, .aload 0, .getfield 617, .iload 8, .iconst (1), .iadd, .iaload, .aload 0, .getfield 617, .iload 8, .iconst (2), .iadd, .iaload, .invokestatic 139, .ifCond .lt (151)] ls st g M Q := q_T_next rfl
theorem b_X6_stonesBy_147 : q_T md d qP_X6_stonesBy 147 [] ls st g M Q = q_T md d qP_X6_stonesBy 151 [.iconst (1), .goto (152)] ls st g M Q := q_T_next rfl
theorem b_X6_stonesBy_151 : q_T md d qP_X6_stonesBy 151 [] ls st g M Q = q_T md d qP_X6_stonesBy 152 [.iconst (0)] ls st g M Q := q_T_next rfl
theorem b_X6_stonesBy_152 : q_T md d qP_X6_stonesBy 152 [] ls st g M Q = q_T md d qP_X6_stonesBy 161 [.iadd, .istore 5, .iinc 6 (1), .goto (63)] ls st g M Q := q_T_next rfl
theorem b_X6_stonesBy_161 : q_T md d qP_X6_stonesBy 161 [] ls st g M Q = q_T md d qP_X6_stonesBy 164 [.iload 5, .ret 0] ls st g M Q := q_T_next rfl
theorem s_X6_isUnder {x0 : Int} {x1 : Int} : q_S md d 197 [qI x0, qI x1] g M Q = q_T md d qP_X6_isUnder 0 [] [qI x0, qI x1] [] g M Q := rfl
theorem b_X6_isUnder_0 : q_T md d qP_X6_isUnder 0 [] ls st g M Q = q_T md d qP_X6_isUnder 4 [.iload 1, .ifCond .eq (29)] ls st g M Q := q_T_next rfl
theorem b_X6_isUnder_4 : q_T md d qP_X6_isUnder 4 [] ls st g M Q = q_T md d qP_X6_isUnder 9 [.iload 0, .iload 1, .if_icmp .eq (29)] ls st g M Q := q_T_next rfl
theorem b_X6_isUnder_9 : q_T md d qP_X6_isUnder 9 [] ls st g M Q = q_T md d qP_X6_isUnder 14 [.iload 1, .iconst (1), .if_icmp .ne (19)] ls st g M Q := q_T_next rfl
theorem b_X6_isUnder_14 : q_T md d qP_X6_isUnder 14 [] ls st g M Q = q_T md d qP_X6_isUnder 19 [.iload 0, .iconst (3), .if_icmp .eq (29)] ls st g M Q := q_T_next rfl
theorem b_X6_isUnder_19 : q_T md d qP_X6_isUnder 19 [] ls st g M Q = q_T md d qP_X6_isUnder 24 [.iload 1, .iconst (2), .if_icmp .ne (33)] ls st g M Q := q_T_next rfl
theorem b_X6_isUnder_24 : q_T md d qP_X6_isUnder 24 [] ls st g M Q = q_T md d qP_X6_isUnder 29 [.iload 0, .iconst (4), .if_icmp .ne (33)] ls st g M Q := q_T_next rfl
theorem b_X6_isUnder_29 : q_T md d qP_X6_isUnder 29 [] ls st g M Q = q_T md d qP_X6_isUnder 33 [.iconst (1), .goto (34)] ls st g M Q := q_T_next rfl
theorem b_X6_isUnder_33 : q_T md d qP_X6_isUnder 33 [] ls st g M Q = q_T md d qP_X6_isUnder 34 [.iconst (0)] ls st g M Q := q_T_next rfl
theorem b_X6_isUnder_34 : q_T md d qP_X6_isUnder 34 [] ls st g M Q = q_T md d qP_X6_isUnder 35 [.ret 1] ls st g M Q := q_T_next rfl
theorem s_X6_taken {w : Nat} {x0 : Int} {x1 : Int} : q_S md d 198 [qR 6 w, qI x0, qI x1] g M Q = q_T md d qP_X6_taken 0 [] [qR 6 w, qI x0, qI x1] [] g M Q := rfl
theorem b_X6_taken_0 : q_T md d qP_X6_taken 0 [] ls st g M Q = q_T md d qP_X6_taken 10 [.iload 2, .iconst (0), .iconst (6), .invokestatic 110, .ifCond .ne (13)] ls st g M Q := q_T_next rfl
theorem b_X6_taken_10 : q_T md d qP_X6_taken 10 [] ls st g M Q = q_T md d qP_X6_taken 13 [.iconst (-2), .ret 0] ls st g M Q := q_T_next rfl
theorem b_X6_taken_13 : q_T md d qP_X6_taken 13 [] ls st g M Q = q_T md d qP_X6_taken 23 [.iload 1, .iconst (0), .iconst (9), .invokestatic 110, .ifCond .ne (26)] ls st g M Q := q_T_next rfl
theorem b_X6_taken_23 : q_T md d qP_X6_taken 23 [] ls st g M Q = q_T md d qP_X6_taken 26 [.iconst (-12), .ret 0] ls st g M Q := q_T_next rfl
theorem b_X6_taken_26 : q_T md d qP_X6_taken 26 [] ls st g M Q = q_T md d qP_X6_taken 31 [.iload 1, .iconst (5), .if_icmp .lt (55)] ls st g M Q := q_T_next rfl
theorem b_X6_taken_31 : q_T md d qP_X6_taken 31 [] ls st g M Q = q_T md d qP_X6_taken 37 [.iload 2, .iconst (6), .if_icmp .ne (52)] ls st g M Q := q_T_next rfl
theorem b_X6_taken_37 : q_T md d qP_X6_taken 37 [] ls st g M Q = q_T md d qP_X6_taken 52 [.aload 0, .getfield 603, .iconst (4), .iload 1, .iconst (5), .isub, .imul, .iconst (3), .iadd, .iaload, .goto (54)] ls st g M Q := q_T_next rfl
theorem b_X6_taken_52 : q_T md d qP_X6_taken 52 [] ls st g M Q = q_T md d qP_X6_taken 54 [.iconst (-13)] ls st g M Q := q_T_next rfl
theorem b_X6_taken_54 : q_T md d qP_X6_taken 54 [] ls st g M Q = q_T md d qP_X6_taken 55 [.ret 0] ls st g M Q := q_T_next rfl
theorem b_X6_taken_55 : q_T md d qP_X6_taken 55 [] ls st g M Q = q_T md d qP_X6_taken 63 [.iload 1, .aload 0, .getfield 600, .if_icmp .lt (68)] ls st g M Q := q_T_next rfl
theorem b_X6_taken_63 : q_T md d qP_X6_taken 63 [] ls st g M Q = q_T md d qP_X6_taken 68 [.iconst (-11), .goto (93)] ls st g M Q := q_T_next rfl
theorem b_X6_taken_68 : q_T md d qP_X6_taken 68 [] ls st g M Q = q_T md d qP_X6_taken 74 [.iload 2, .iconst (6), .if_icmp .ge (91)] ls st g M Q := q_T_next rfl
theorem b_X6_taken_74 : q_T md d qP_X6_taken 74 [] ls st g M Q = q_T md d qP_X6_taken 87 [.aload 0, .getfield 601, .iload 1, .iaload, .iload 2, .invokestatic 197, .ifCond .eq (91)] ls st g M Q := q_T_next rfl
theorem b_X6_taken_87 : q_T md d qP_X6_taken 87 [] ls st g M Q = q_T md d qP_X6_taken 91 [.iload 1, .goto (93)] ls st g M Q := q_T_next rfl
theorem b_X6_taken_91 : q_T md d qP_X6_taken 91 [] ls st g M Q = q_T md d qP_X6_taken 93 [.iconst (-13)] ls st g M Q := q_T_next rfl
theorem b_X6_taken_93 : q_T md d qP_X6_taken 93 [] ls st g M Q = q_T md d qP_X6_taken 94 [.ret 0] ls st g M Q := q_T_next rfl
end BLK
end
section
/-! INTS IN RANGE -/
theorem q_norm (x : Int) : (Int32.ofInt x).toInt = x.bmod 4294967296 := by
  first
    | exact Int32.toInt_ofInt ..
    | simp [Int32.toInt_ofInt]
theorem q_bmod {x : Int} (h1 : -2147483648 ≤ x) (h2 : x ≤ 2147483647) : x.bmod 4294967296 = x := by
  rw [Int.bmod_def]
  split <;> omega
theorem q_of {x : Int} (h1 : -2147483648 ≤ x) (h2 : x ≤ 2147483647) : (Int32.ofInt x).toInt = x := by rw [q_norm, q_bmod h1 h2]
theorem q_add_b (x y : Int) : q_add x y = (x + y).bmod 4294967296 := by
  rw [q_add, Int32.toInt_add, q_norm, q_norm]
  simp [Int.bmod_add_bmod, Int.add_bmod_bmod]
theorem q_sub_b (x y : Int) : q_sub x y = (x - y).bmod 4294967296 := by
  rw [q_sub, Int32.toInt_sub, q_norm, q_norm]
  simp [Int.bmod_sub_bmod, Int.sub_bmod_bmod]
theorem q_mul_b (x y : Int) : q_mul x y = (x * y).bmod 4294967296 := by
  rw [q_mul, Int32.toInt_mul, q_norm, q_norm]
  simp [Int.bmod_mul_bmod, Int.mul_bmod_bmod]
theorem q_neg_b (x : Int) : q_neg x = (-x).bmod 4294967296 := by
  rw [q_neg, Int32.toInt_neg, q_norm]
  simp
theorem q_add_e {x y : Int} (h1 : -2147483648 ≤ x + y) (h2 : x + y ≤ 2147483647) : q_add x y = x + y := by rw [q_add_b, q_bmod h1 h2]
theorem q_sub_e {x y : Int} (h1 : -2147483648 ≤ x - y) (h2 : x - y ≤ 2147483647) : q_sub x y = x - y := by rw [q_sub_b, q_bmod h1 h2]
theorem q_mul_e {x y : Int} (h1 : -2147483648 ≤ x * y) (h2 : x * y ≤ 2147483647) : q_mul x y = x * y := by rw [q_mul_b, q_bmod h1 h2]
theorem q_neg_e {x : Int} (h1 : -2147483648 ≤ -x) (h2 : -x ≤ 2147483647) : q_neg x = -x := by rw [q_neg_b, q_bmod h1 h2]
end
