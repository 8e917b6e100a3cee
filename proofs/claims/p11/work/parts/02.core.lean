/-! THE PURE MACHINE: values, a memory of ints by (address, slot), opcodes as Instr with their indices resolved -/
abbrev q_V : Type := Int ⊕ Int ⊕ (Nat × Nat) ⊕ Nat
def qI (x : Int) : q_V := Sum.inl x
def qL (x : Int) : q_V := Sum.inr (Sum.inl x)
def qR (k a : Nat) : q_V := Sum.inr (Sum.inr (Sum.inl (k, a)))
/-- 0 unset, 1 null, 2 the script, 3 a value that is only carried, 16 + j the j-th literal, 64 + j its bytes -/
def qS (t : Nat) : q_V := Sum.inr (Sum.inr (Sum.inr t))
abbrev q_M : Type := Nat → Nat → Int
abbrev q_G : Type := Nat × Nat
abbrev q_P : Type := List (Nat × List Instr × Nat)
abbrev q_C : Type := Nat × List Instr × List q_V × List q_V × q_G × q_M
abbrev q_R : Type := Option (q_C ⊕ (Option q_V) ⊕ (Nat × List q_V × q_C))
def q_upd (M : q_M) (a i : Nat) (x : Int) : q_M := fun b j => if b = a ∧ j = i then x else M b j
def q_cpy (M : q_M) (s sp d dp n : Nat) : q_M := fun b i => if b = d ∧ dp ≤ i ∧ i < dp + n then M s (sp + (i - dp)) else M b i
/-- ints by way of Int32, longs by way of Int64 -/
def q_add (x y : Int) : Int := (Int32.ofInt x + Int32.ofInt y).toInt
def q_sub (x y : Int) : Int := (Int32.ofInt x - Int32.ofInt y).toInt
def q_mul (x y : Int) : Int := (Int32.ofInt x * Int32.ofInt y).toInt
def q_div (x y : Int) : Int := (Int32.ofInt x / Int32.ofInt y).toInt
def q_rem (x y : Int) : Int := (Int32.ofInt x - Int32.ofInt x / Int32.ofInt y * Int32.ofInt y).toInt
def q_neg (x : Int) : Int := (-Int32.ofInt x).toInt
def q_and (x y : Int) : Int := (Int32.ofInt x &&& Int32.ofInt y).toInt
def q_or (x y : Int) : Int := (Int32.ofInt x ||| Int32.ofInt y).toInt
def q_shl (x y : Int) : Int := (Int32.ofInt x <<< (Int32.ofInt y &&& 31)).toInt
def q_shr (x y : Int) : Int := (Int32.ofInt x >>> (Int32.ofInt y &&& 31)).toInt
def q_i2b (x : Int) : Int := (Int32.ofInt x).toInt8.toInt32.toInt
def q_i2s (x : Int) : Int := (Int32.ofInt x).toInt16.toInt32.toInt
def q_i2c (x : Int) : Int := ((Int32.ofInt x).toUInt32 % 65536).toInt32.toInt
def q_i2l (x : Int) : Int := (Int32.ofInt x).toInt64.toInt
def q_l2i (x : Int) : Int := (Int64.ofInt x).toInt32.toInt
def q_ladd (x y : Int) : Int := (Int64.ofInt x + Int64.ofInt y).toInt
def q_lmul (x y : Int) : Int := (Int64.ofInt x * Int64.ofInt y).toInt
def q_ldiv (x y : Int) : Int := (Int64.ofInt x / Int64.ofInt y).toInt
def q_lrem (x y : Int) : Int := (Int64.ofInt x - Int64.ofInt x / Int64.ofInt y * Int64.ofInt y).toInt
def q_lcmp (x y : Int) : Int := if x < y then -1 else if x = y then 0 else 1
def q_cmp (c : Jvm.ClassFile.Cond) (x y : Int) : Bool := match c with
  | .eq => decide (x = y)
  | .ne => decide (¬ x = y)
  | .lt => decide (x < y)
  | .ge => decide (y ≤ x)
  | .gt => decide (y < x)
  | .le => decide (x ≤ y)
def q_sw (ps : List (Int × Int)) (d x : Int) : Int := match ps with
  | [] => d
  | p :: r => if x = p.1 then p.2 else q_sw r d x
def q_c1 (v : q_V) : Bool := match v with
  | .inl _ => true
  | .inr (.inl _) => false
  | .inr (.inr (.inl _)) => true
  | .inr (.inr (.inr t)) => decide (t ≠ 0)
def q_set (v : q_V) : Bool := match v with
  | .inr (.inr (.inr t)) => decide (t ≠ 0)
  | _ => true
def q_isRf (v : q_V) : Bool := match v with
  | .inr (.inr (.inl _)) => true
  | .inr (.inr (.inr t)) => decide (t ≠ 0)
  | _ => false
def q_isL (v : q_V) : Bool := match v with
  | .inr (.inl _) => true
  | _ => false
def q_entL (as : List q_V) : List q_V := match as with
  | [] => []
  | v :: r => if q_isL v = true then v :: qS 0 :: q_entL r else v :: q_entL r
def q_isA (k : Nat) : Bool := k == 10 || decide (20 ≤ k)
def q_len (k a : Nat) (M : q_M) : Int := if k = 10 then M a 1000 else if k = 7 then 6 else if k = 8 then 6 else if k = 9 then 4 else (k : Int) - 20
/-- what a slot of a type (tag, kind, offset) gives: 0 an int, 1 a boolean, 2 a reference that is laid, 3 one that is known -/
def q_gv (t : Nat × Nat × Nat) (a : Nat) (x : Int) : q_V := if t.1 = 2 then (if x < 0 then qS 1 else qR t.2.1 x.toNat) else if t.1 = 3 then qR t.2.1 (a + t.2.2) else qI x
def q_ii {α : Type} (st : List q_V) (k : Int → List q_V → Option α) : Option α := match st with
  | .inl x :: r => k x r
  | _ => none
def q_ll {α : Type} (st : List q_V) (k : Int → List q_V → Option α) : Option α := match st with
  | .inr (.inl x) :: r => k x r
  | _ => none
def q_rr {α : Type} (st : List q_V) (k : Nat → Nat → List q_V → Option α) : Option α := match st with
  | .inr (.inr (.inl (c, a))) :: r => k c a r
  | _ => none
def q_vv {α : Type} (st : List q_V) (k : q_V → List q_V → Option α) : Option α := match st with
  | v :: r => k v r
  | _ => none
def q_blk (P : q_P) (pc : Nat) : Option (List Instr × Nat) := match P with
  | [] => none
  | b :: r => if b.1 = pc then some b.2 else q_blk r pc

/-! THE LAYOUT: the kind of each address: 0 .. 6 objects of the classes, 7 rows of rows, 8 Text[6], 9 Sheet[4], 10 ints of any length, 20 + n: n ints -/
def q_kds : List Nat := [5, 1, 180, 180, 23, 8, 9, 10, 3, 23, 60, 4, 0, 26, 26, 7, 26, 26, 26, 26, 26, 26, 7, 26, 26, 26, 26, 26, 26, 26, 26, 26, 26, 26, 26, 26, 26, 26, 4, 0, 26, 26, 7, 26, 26, 26, 26, 26, 26, 7, 26, 26, 26, 26, 26, 26, 26, 26, 26, 26, 26, 26, 26, 26, 26, 4, 0, 26, 26, 7, 26, 26, 26, 26, 26, 26, 7, 26, 26, 26, 26, 26, 26, 26, 26, 26, 26, 26, 26, 26, 26, 26, 2, 60, 2, 60, 2, 60, 2, 60, 6, 25, 25, 40, 35, 180, 1220, 44, 55, 23, 24, 24, 180, 60, 116, 220, 220, 26, 56, 45, 45, 25, 25, 25]
def q_kd (a : Nat) : Nat := if a < 124 then q_kds.getD a 0 else if (a - 124) % 4 = 0 then 10 else if (a - 124) % 4 = 1 then 3 else if (a - 124) % 4 = 2 then 23 else 60
def q_nf (k : Nat) : Nat := match k with
  | 0 => 6
  | 1 => 10
  | 2 => 3
  | 3 => 4
  | 4 => 11
  | 5 => 8
  | 6 => 37
  | _ => 0
def q_ty0 (k i : Nat) : Nat × Nat × Nat := match k with
  | 0 => match i with
    | 0 => (2, 26, 0)
    | 1 => (2, 26, 0)
    | 2 => (2, 7, 0)
    | 3 => (2, 7, 0)
    | 4 => (2, 26, 0)
    | _ => (0, 0, 0)
  | 1 => match i with
    | 0 => (2, 180, 0)
    | 2 => (2, 180, 0)
    | 4 => (2, 23, 0)
    | _ => (0, 0, 0)
  | 2 => match i with
    | 0 => (2, 60, 0)
    | _ => (0, 0, 0)
  | 3 => match i with
    | 1 => (2, 10, 0)
    | 2 => (2, 23, 0)
    | 3 => (2, 60, 0)
    | _ => (0, 0, 0)
  | 4 => match i with
    | 0 => (2, 0, 0)
    | 1 => (2, 26, 0)
    | 2 => (2, 26, 0)
    | 3 => (2, 26, 0)
    | 4 => (2, 26, 0)
    | 5 => (2, 26, 0)
    | 6 => (2, 26, 0)
    | 7 => (2, 26, 0)
    | 8 => (2, 26, 0)
    | 10 => (2, 3, 0)
    | _ => (0, 0, 0)
  | 5 => match i with
    | 0 => (2, 1, 0)
    | 1 => (2, 8, 0)
    | 3 => (2, 4, 0)
    | 4 => (2, 4, 0)
    | 5 => (2, 4, 0)
    | 6 => (1, 0, 0)
    | 7 => (2, 9, 0)
    | _ => (0, 0, 0)
  | 6 => match i with
    | 1 => (2, 25, 0)
    | 2 => (2, 25, 0)
    | 3 => (2, 40, 0)
    | 4 => (2, 35, 0)
    | 6 => (2, 180, 0)
    | 8 => (2, 1220, 0)
    | 9 => (2, 44, 0)
    | 12 => (1, 0, 0)
    | 13 => (2, 55, 0)
    | 14 => (2, 23, 0)
    | 15 => (2, 24, 0)
    | 16 => (2, 24, 0)
    | 17 => (2, 180, 0)
    | 18 => (2, 60, 0)
    | 23 => (2, 116, 0)
    | 24 => (2, 220, 0)
    | 28 => (2, 220, 0)
    | 29 => (2, 26, 0)
    | 30 => (2, 56, 0)
    | 31 => (2, 45, 0)
    | 32 => (2, 45, 0)
    | 33 => (2, 25, 0)
    | 34 => (2, 25, 0)
    | 35 => (2, 25, 0)
    | _ => (0, 0, 0)
  | 7 => (2, 26, 0)
  | 8 => (2, 3, 0)
  | 9 => (2, 2, 0)
  | _ => (0, 0, 0)
def q_ty1 (k i : Nat) : Nat × Nat × Nat := match k with
  | 0 => match i with
    | 0 => (3, 26, 1)
    | 1 => (3, 26, 2)
    | 2 => (3, 7, 3)
    | 3 => (3, 7, 10)
    | 4 => (3, 26, 17)
    | _ => (0, 0, 0)
  | 1 => match i with
    | 0 => (3, 180, 1)
    | 2 => (3, 180, 2)
    | 4 => (3, 23, 3)
    | _ => (0, 0, 0)
  | 2 => match i with
    | 0 => (3, 60, 1)
    | _ => (0, 0, 0)
  | 3 => match i with
    | 1 => (2, 10, 0)
    | 2 => (2, 23, 0)
    | 3 => (2, 60, 0)
    | _ => (0, 0, 0)
  | 4 => match i with
    | 0 => (3, 0, 1)
    | 1 => (3, 26, 19)
    | 2 => (3, 26, 20)
    | 3 => (3, 26, 21)
    | 4 => (3, 26, 22)
    | 5 => (3, 26, 23)
    | 6 => (3, 26, 24)
    | 7 => (3, 26, 25)
    | 8 => (3, 26, 26)
    | 10 => (2, 3, 0)
    | _ => (0, 0, 0)
  | 5 => match i with
    | 0 => (3, 1, 1)
    | 1 => (3, 8, 5)
    | 3 => (3, 4, 11)
    | 4 => (3, 4, 38)
    | 5 => (3, 4, 65)
    | 6 => (1, 0, 0)
    | 7 => (3, 9, 6)
    | _ => (0, 0, 0)
  | 6 => match i with
    | 1 => (3, 25, 1)
    | 2 => (3, 25, 2)
    | 3 => (3, 40, 3)
    | 4 => (3, 35, 4)
    | 6 => (3, 180, 5)
    | 8 => (3, 1220, 6)
    | 9 => (3, 44, 7)
    | 12 => (1, 0, 0)
    | 13 => (3, 55, 8)
    | 14 => (3, 23, 9)
    | 15 => (3, 24, 10)
    | 16 => (3, 24, 11)
    | 17 => (3, 180, 12)
    | 18 => (3, 60, 13)
    | 23 => (3, 116, 14)
    | 24 => (3, 220, 15)
    | 28 => (3, 220, 16)
    | 29 => (3, 26, 17)
    | 30 => (3, 56, 18)
    | 31 => (3, 45, 19)
    | 32 => (3, 45, 20)
    | 33 => (3, 25, 21)
    | 34 => (3, 25, 22)
    | 35 => (3, 25, 23)
    | _ => (0, 0, 0)
  | 7 => (3, 26, 1 + i)
  | 8 => (2, 3, 0)
  | 9 => (3, 2, 86 + 2 * i)
  | _ => (0, 0, 0)
def q_ty (md k i : Nat) : Nat × Nat × Nat := if md = 1 then q_ty1 k i else q_ty0 k i
/-! THE METHODS: how many arguments (the receiver too), what the receiver is (0 none, 1 + k an object of kind k, 50 a literal), the locals -/
def q_mNs : List Nat := [1, 2, 1, 1, 2, 2, 1, 1, 1, 4, 3, 4, 2, 3, 3, 1, 3, 1, 1, 1, 1, 1, 2, 1, 2, 3, 2, 1, 3, 2, 2, 2, 2, 2, 2, 1, 1, 1, 4, 1, 1, 1, 1, 1, 3, 3, 4, 3, 2, 2, 4, 3, 3, 4, 3, 3, 2, 1, 2, 1, 3, 1, 2, 2, 4, 3, 7, 1, 2, 4, 4, 4, 3, 4, 1, 3, 3, 2, 2, 2, 2, 3, 2, 3, 4, 5, 2, 3, 4, 3, 5, 1, 1, 4, 4, 6, 5, 3, 2, 1, 1, 1, 1, 2, 2, 3, 4, 2, 3, 1, 3, 3, 2, 1, 1, 2, 1, 2, 2, 4, 3, 1, 7, 3, 1, 1, 2, 2, 2, 2, 2, 1, 1, 1, 3, 2, 2, 4, 4, 4, 4, 3, 3, 2, 2, 3, 4, 2, 2, 3, 2, 1, 1, 1, 1, 1, 3, 3, 3, 1, 2, 2, 3, 3, 1, 2, 1, 2, 2, 2, 1, 2, 2, 1, 2, 2, 3, 3, 2, 2, 3, 3, 3, 4, 5, 2, 3, 4, 2, 3, 5, 1, 1, 4, 4, 6, 5, 2, 3, 1, 2, 1, 1, 2, 2, 3, 1, 2, 2]
def q_mKs : List Nat := [1, 1, 1, 1, 1, 1, 1, 1, 1, 1, 1, 1, 1, 1, 1, 1, 1, 1, 1, 1, 2, 2, 2, 2, 2, 2, 2, 2, 2, 2, 2, 2, 2, 2, 2, 2, 2, 2, 2, 0, 0, 0, 3, 3, 3, 3, 4, 4, 5, 5, 5, 5, 5, 5, 5, 5, 5, 5, 5, 5, 5, 6, 6, 6, 6, 6, 6, 6, 6, 6, 6, 6, 6, 6, 6, 6, 6, 6, 6, 6, 6, 6, 6, 6, 6, 6, 6, 6, 6, 6, 6, 6, 6, 6, 6, 6, 6, 6, 6, 0, 0, 0, 0, 0, 6, 6, 6, 6, 0, 7, 0, 0, 7, 0, 7, 7, 0, 7, 7, 7, 7, 0, 7, 7, 7, 0, 7, 7, 7, 7, 7, 7, 7, 7, 0, 7, 7, 7, 7, 7, 7, 7, 7, 7, 7, 7, 7, 7, 7, 7, 7, 7, 7, 7, 7, 7, 7, 7, 7, 7, 7, 7, 7, 7, 7, 7, 7, 7, 7, 7, 7, 7, 7, 7, 7, 7, 7, 0, 7, 7, 7, 7, 7, 7, 7, 7, 7, 7, 7, 7, 7, 7, 7, 7, 7, 7, 7, 0, 7, 50, 50, 50, 50, 0, 0, 0, 0, 0, 0]
def q_mLs : List Nat := [2, 2, 2, 1, 4, 4, 3, 3, 3, 6, 5, 4, 4, 4, 4, 5, 4, 3, 2, 2, 1, 1, 2, 1, 3, 3, 2, 1, 3, 3, 3, 3, 4, 3, 3, 2, 1, 1, 6, 1, 1, 1, 1, 1, 4, 3, 4, 10, 3, 2, 5, 3, 4, 5, 5, 5, 4, 3, 3, 4, 6, 3, 2, 3, 5, 3, 7, 3, 3, 4, 4, 5, 3, 4, 1, 5, 3, 2, 2, 10, 6, 7, 5, 4, 8, 9, 5, 6, 5, 3, 7, 1, 1, 4, 4, 8, 9, 3, 2, 1, 1, 1, 1, 2, 2, 5, 6, 6, 5, 2, 3, 3, 2, 1, 3, 4, 3, 2, 3, 7, 3, 1, 8, 6, 3, 1, 2, 3, 2, 2, 2, 1, 4, 3, 3, 5, 3, 5, 4, 4, 5, 4, 4, 4, 6, 3, 4, 7, 2, 6, 6, 3, 1, 3, 2, 2, 4, 6, 4, 3, 4, 5, 6, 6, 3, 4, 3, 2, 5, 4, 3, 2, 4, 5, 2, 7, 8, 11, 5, 2, 4, 5, 4, 9, 11, 5, 7, 5, 6, 4, 8, 2, 2, 5, 4, 10, 9, 2, 3, 1, 2, 1, 1, 2, 2, 3, 1, 2, 2]
def q_mN (id : Nat) : Nat := q_mNs.getD id 0
def q_mK (id : Nat) : Nat := q_mKs.getD id 0
def q_mL (id : Nat) : Nat := q_mLs.getD id 0
def q_strs : List (List Int) := [[108, 105, 107, 101, 115, 32, 57, 57, 32, 45, 32, 102, 97, 114, 32, 59, 32, 119, 97, 110, 116, 115, 32, 119, 101, 105, 103, 104, 116, 32, 59, 32, 103, 111, 101, 115, 32, 57, 32, 59], [108, 105, 107, 101, 115], [119, 97, 110, 116, 115], [103, 111, 101, 115], [111, 114], [97, 110, 100], [110, 111, 116], [102, 97, 114], [118, 97, 105, 110], [98, 117, 105, 108, 116], [119, 101, 105, 103, 104, 116], [121, 101, 97, 114], [109, 111, 114, 101]]
def q_slen (j : Nat) : Int := ((q_strs.getD j []).length : Int)
def q_sch (j i : Nat) : Int := (q_strs.getD j []).getD i 0
/-! ONE STEP -/
def q_st1 (ls : List q_V) (k : Nat) (v : q_V) : Option (List q_V) := if (decide (k < ls.length) && !q_isL (ls.getD (k - 1) (qS 0)) && q_c1 v) = true then some (ls.set k v) else none
def q_st2 (ls : List q_V) (k : Nat) (v : q_V) : Option (List q_V) := if (decide (k + 1 < ls.length) && !q_isL (ls.getD (k - 1) (qS 0)) && q_isL v) = true then some ((ls.set k v).set (k + 1) (qS 0)) else none
def q_go (nx : Nat) (ops : List Instr) (ls st : List q_V) (g : q_G) (M : q_M) : q_R := some (.inl (nx, ops, ls, st, g, M))
def q_rt (v : Option q_V) : q_R := some (.inr (.inl v))
def q_rcv (k : Nat) (as : List q_V) : Bool := if k = 0 then true else if k = 50 then (match as with
  | .inr (.inr (.inr t)) :: _ => decide (16 ≤ t) && decide (t < 29)
  | _ => false) else (match as with
  | .inr (.inr (.inl (c, _))) :: _ => c + 1 == k
  | _ => false)
def q_op (md : Nat) (op : Instr) (nx : Nat) (ops : List Instr) (ls st : List q_V) (g : q_G) (M : q_M) : q_R := match op with
  | .nop => q_rr st fun k a _ => if q_isA k = true then q_go nx ops ls st g M else none
  | .iconst v => q_go nx ops ls (qI v :: st) g M
  | .jsr v => q_go nx ops ls (qL v :: st) g M
  | .ldc j => q_go nx ops ls (qS (16 + j) :: st) g M
  | .iload k => q_ii [ls.getD k (qS 0)] fun x _ => q_go nx ops ls (qI x :: st) g M
  | .lload k => q_ll [ls.getD k (qS 0)] fun x _ => q_go nx ops ls (qL x :: st) g M
  | .aload k => if q_isRf (ls.getD k (qS 0)) = true then q_go nx ops ls (ls.getD k (qS 0) :: st) g M else none
  | .istore k => q_ii st fun x st => (q_st1 ls k (qI x)).bind fun ls => q_go nx ops ls st g M
  | .astore k => q_vv st fun v st => if q_isRf v = true then (q_st1 ls k v).bind fun ls => q_go nx ops ls st g M else none
  | .lstore k => q_vv st fun v st => (q_st2 ls k v).bind fun ls => q_go nx ops ls st g M
  | .iinc k n => q_ii [ls.getD k (qS 0)] fun x _ => (q_st1 ls k (qI (q_add x n))).bind fun ls => q_go nx ops ls st g M
  | .pop => q_vv st fun v st => if q_c1 v = true then q_go nx ops ls st g M else none
  | .pop2 => q_ll st fun _ st => q_go nx ops ls st g M
  | .dup => q_vv st fun v st => if q_c1 v = true then q_go nx ops ls (v :: v :: st) g M else none
  | .dup2 => q_vv st fun v st => q_vv st fun w st => if (q_c1 v && q_c1 w) = true then q_go nx ops ls (v :: w :: v :: w :: st) g M else none
  | .iadd => q_ii st fun y st => q_ii st fun x st => q_go nx ops ls (qI (q_add x y) :: st) g M
  | .isub => q_ii st fun y st => q_ii st fun x st => q_go nx ops ls (qI (q_sub x y) :: st) g M
  | .imul => q_ii st fun y st => q_ii st fun x st => q_go nx ops ls (qI (q_mul x y) :: st) g M
  | .idiv => q_ii st fun y st => q_ii st fun x st => if y = 0 then none else q_go nx ops ls (qI (q_div x y) :: st) g M
  | .irem => q_ii st fun y st => q_ii st fun x st => if y = 0 then none else q_go nx ops ls (qI (q_rem x y) :: st) g M
  | .ineg => q_ii st fun x st => q_go nx ops ls (qI (q_neg x) :: st) g M
  | .iand => q_ii st fun y st => q_ii st fun x st => q_go nx ops ls (qI (q_and x y) :: st) g M
  | .ior => q_ii st fun y st => q_ii st fun x st => q_go nx ops ls (qI (q_or x y) :: st) g M
  | .ishl => q_ii st fun y st => q_ii st fun x st => q_go nx ops ls (qI (q_shl x y) :: st) g M
  | .ishr => q_ii st fun y st => q_ii st fun x st => q_go nx ops ls (qI (q_shr x y) :: st) g M
  | .i2b => q_ii st fun x st => q_go nx ops ls (qI (q_i2b x) :: st) g M
  | .i2s => q_ii st fun x st => q_go nx ops ls (qI (q_i2s x) :: st) g M
  | .i2c => q_ii st fun x st => q_go nx ops ls (qI (q_i2c x) :: st) g M
  | .i2l => q_ii st fun x st => q_go nx ops ls (qL (q_i2l x) :: st) g M
  | .l2i => q_ll st fun x st => q_go nx ops ls (qI (q_l2i x) :: st) g M
  | .ladd => q_ll st fun y st => q_ll st fun x st => q_go nx ops ls (qL (q_ladd x y) :: st) g M
  | .lmul => q_ll st fun y st => q_ll st fun x st => q_go nx ops ls (qL (q_lmul x y) :: st) g M
  | .ldiv => q_ll st fun y st => q_ll st fun x st => if y = 0 then none else q_go nx ops ls (qL (q_ldiv x y) :: st) g M
  | .lrem => q_ll st fun y st => q_ll st fun x st => if y = 0 then none else q_go nx ops ls (qL (q_lrem x y) :: st) g M
  | .lcmp => q_ll st fun y st => q_ll st fun x st => q_go nx ops ls (qI (q_lcmp x y) :: st) g M
  | .ifCond c t => match ops with
    | [] => q_ii st fun x st => q_go (if q_cmp c x 0 = true then t.toNat else nx) [] ls st g M
    | _ => none
  | .if_icmp c t => match ops with
    | [] => q_ii st fun y st => q_ii st fun x st => q_go (if q_cmp c x y = true then t.toNat else nx) [] ls st g M
    | _ => none
  | .goto t => match ops with
    | [] => q_go t.toNat [] ls st g M
    | _ => none
  | .tableswitch d lo hi offs => match ops with
    | [] => q_ii st fun x st => q_go (if x < lo ∨ hi < x then d.toNat else (offs.toList.getD (x - lo).toNat d).toNat) [] ls st g M
    | _ => none
  | .lookupswitch d ps => match ops with
    | [] => q_ii st fun x st => q_go (q_sw ps.toList d x).toNat [] ls st g M
    | _ => none
  | .getfield c => match st with
    | .inr (.inr (.inl (k, a))) :: r => if k = c / 100 ∧ c % 100 < q_nf k then q_go nx ops ls (q_gv (q_ty md k (c % 100)) a (M a (c % 100)) :: r) g M else none
    | .inr (.inr (.inr t)) :: r => if 16 ≤ t ∧ t < 29 then (if c = 10000 then q_go nx ops ls (qS (48 + t) :: r) g M else if c = 10001 then q_go nx ops ls (qI 0 :: r) g M else none) else none
    | _ => none
  | .putfield c => q_vv st fun v st => q_rr st fun k a st => if k = c / 100 ∧ c % 100 < q_nf k then (match v with
      | .inl x => if (q_ty md k (c % 100)).1 = 0 ∨ ((q_ty md k (c % 100)).1 = 1 ∧ (x = 0 ∨ x = 1)) then q_go nx ops ls st g (q_upd M a (c % 100) x) else none
      | .inr (.inr (.inl (k', b))) => if (q_ty md k (c % 100)).1 = 2 ∧ (q_ty md k (c % 100)).2.1 = k' ∧ b < 2147483648 then q_go nx ops ls st g (q_upd M a (c % 100) b) else none
      | _ => none) else none
  | .getstatic j => if j = 0 then q_go nx ops ls (qI 1 :: st) g M else if j = 1 then q_go nx ops ls (qS 3 :: st) g M else none
  | .iaload => q_ii st fun j st => match st with
    | .inr (.inr (.inl (k, a))) :: r => if q_isA k = true ∧ 0 ≤ j ∧ j < q_len k a M then q_go nx ops ls (qI (M a j.toNat) :: r) g M else none
    | .inr (.inr (.inr 2)) :: r => if 0 ≤ j ∧ j < M 1000001 0 then q_go nx ops ls (qI (M 1000000 j.toNat) :: r) g M else none
    | _ => none
  | .iastore => q_ii st fun x st => q_ii st fun j st => q_rr st fun k a st => if q_isA k = true ∧ 0 ≤ j ∧ j < q_len k a M then q_go nx ops ls st g (q_upd M a j.toNat x) else none
  | .aaload => q_ii st fun j st => q_rr st fun k a st => if (k = 7 ∨ k = 8 ∨ k = 9) ∧ 0 ≤ j ∧ j < q_len k a M then q_go nx ops ls (q_gv (q_ty md k j.toNat) a (M a j.toNat) :: st) g M else none
  | .aastore => q_rr st fun k' b st => q_ii st fun j st => q_rr st fun k a st => if (k = 8 ∨ k = 9) ∧ 0 ≤ j ∧ j < q_len k a M ∧ (q_ty md k j.toNat).1 = 2 ∧ (q_ty md k j.toNat).2.1 = k' ∧ b < 2147483648 then q_go nx ops ls st g (q_upd M a j.toNat b) else none
  | .baload => q_ii st fun j st => match st with
    | .inr (.inr (.inr t)) :: r => if 64 ≤ t ∧ t < 77 ∧ 0 ≤ j ∧ j < q_slen (t - 64) then q_go nx ops ls (qI (q_sch (t - 64) j.toNat) :: r) g M else none
    | _ => none
  | .arraylength => match st with
    | .inr (.inr (.inl (k, a))) :: r => if q_isA k = true then q_go nx ops ls (qI (q_len k a M) :: r) g M else none
    | .inr (.inr (.inr t)) :: r => if t = 2 then q_go nx ops ls (qI (M 1000001 0) :: r) g M else if 64 ≤ t ∧ t < 77 then q_go nx ops ls (qI (q_slen (t - 64)) :: r) g M else none
    | _ => none
  | .monitorenter => q_rr st fun _ _ st => if st.length ≤ 20 then q_go nx ops ls st g M else none
  | .monitorexit => q_ii st fun n st => q_ii st fun dp st => q_rr st fun kd d st => q_ii st fun sp st => q_rr st fun ks s st =>
      if q_isA ks = true ∧ q_isA kd = true ∧ 0 ≤ sp ∧ 0 ≤ dp ∧ 0 ≤ n ∧ sp + n ≤ q_len ks s M ∧ dp + n ≤ q_len kd d M ∧ st.length ≤ 3 then q_go nx ops ls st g (q_cpy M s sp.toNat d dp.toNat n.toNat) else none
  | .swap => q_rr st fun k a st => if 20 ≤ k ∧ q_kd g.1 = k ∧ st.length ≤ 6 then q_go nx ops ls (qR k g.1 :: st) (g.1 + 1, g.2 + (k - 20)) (fun b i => if b = g.1 then M a i else M b i) else none
  | .new k => if k < 7 ∧ q_kd g.1 = k ∧ (md = 0 ∨ k = 3) then q_go nx ops ls (qR k g.1 :: st) (g.1 + 1, g.2 + q_nf k) (fun b i => if b = g.1 then (if (q_ty md k i).1 = 2 then -1 else 0) else M b i) else none
  | .newarray _ => q_ii st fun n st => if q_isA (q_kd g.1) = true ∧ 0 ≤ n ∧ n ≤ 100000 ∧ (if q_kd g.1 = 10 then n ≤ 1000 else n = (q_kd g.1 : Int) - 20) then
      q_go nx ops ls (qR (q_kd g.1) g.1 :: st) (g.1 + 1, g.2 + n.toNat) (fun b i => if b = g.1 then (if i = 1000 ∧ q_kd g.1 = 10 then n else 0) else M b i) else none
  | .anewarray k => q_ii st fun n st => if (k = 8 ∨ k = 9) ∧ q_kd g.1 = k ∧ n = q_len k g.1 M ∧ (md = 0) then q_go nx ops ls (qR k g.1 :: st) (g.1 + 1, g.2 + n.toNat) (fun b i => if b = g.1 then -1 else M b i) else none
  | .multianewarray _ _ => q_ii st fun y st => q_ii st fun x st => if x = 6 ∧ y = 6 ∧ md = 0 ∧ q_kd g.1 = 7 ∧ q_kd (g.1 + 1) = 26 ∧ q_kd (g.1 + 2) = 26 ∧ q_kd (g.1 + 3) = 26 ∧ q_kd (g.1 + 4) = 26 ∧ q_kd (g.1 + 5) = 26 ∧ q_kd (g.1 + 6) = 26 ∧ g.1 < 1000000 then
      q_go nx ops ls (qR 7 g.1 :: st) (g.1 + 7, g.2 + 42) (fun b i => if b = g.1 then (if i < 6 then ((g.1 + 1 + i : Nat) : Int) else -1) else if g.1 < b ∧ b < g.1 + 7 then 0 else M b i) else none
  | .invokestatic id => if q_mN id ≤ st.length ∧ (st.drop (q_mN id)).length ≤ 4 ∧ q_rcv (q_mK id) (st.take (q_mN id)).reverse = true ∧ (st.take (q_mN id)).all q_set = true ∧ (q_entL (st.take (q_mN id)).reverse).length ≤ q_mL id then
      some (.inr (.inr (id, (st.take (q_mN id)).reverse, (nx, ops, ls, st.drop (q_mN id), g, M)))) else none
  | .ret t => match st with
    | [.inl x] => if t = 0 ∨ (t = 1 ∧ (x = 0 ∨ x = 1)) ∨ (t = 2 ∧ 0 ≤ x ∧ x < 65536) ∨ (t = 3 ∧ -128 ≤ x ∧ x < 128) then q_rt (some (qI x)) else none
    | _ => none
  | .lreturn => match st with
    | [.inr (.inl x)] => q_rt (some (qL x))
    | _ => none
  | .areturn => match st with
    | [.inr (.inr (.inl (k, a)))] => q_rt (some (qR k a))
    | _ => none
  | .return_ => match st with
    | [] => q_rt none
    | _ => none
  | _ => none

