/-! THE OPCODES AS THEY ARE RESOLVED -/
def q_look {α : Type} (l : List (Nat × Nat × α)) (a b : Nat) : Option α := match l with
  | [] => none
  | e :: r => if e.1 = a ∧ e.2.1 = b then some e.2.2 else q_look r a b
theorem q_look_mem {α : Type} {a b : Nat} {x : α} : ∀ {l : List (Nat × Nat × α)}, q_look l a b = some x → (a, b, x) ∈ l
  | [], h => by cases h
  | e :: r, h => by
    unfold q_look at h
    split at h
    · next hc =>
      obtain ⟨e1, e2, e3⟩ := e
      obtain ⟨rfl, rfl⟩ := hc
      cases h
      exact List.mem_cons_self
    · exact List.mem_cons_of_mem _ (q_look_mem h)
def q_rng (a b n : Int) : Bool := decide (a ≤ n) && decide (n < b)
def q_tag (rt : Option FieldType) : Option Nat := match rt with
  | some .int => some 0
  | some .boolean => some 1
  | some .char => some 2
  | some .byte => some 3
  | _ => none
def q_one (len : Nat) (i : Instr) : Option Instr := if len = 1 then some i else none
def q_rs (ow : Nat) (rt : Option FieldType) (ini : Bool) (pc : Nat) (raw : Instr) (len : Nat) : Option Instr := match raw with
  | .iconst n => if len = 1 ∧ q_rng (-128) 128 n = true then some (.iconst n) else none
  | .bipush n => if len = 2 ∧ q_rng (-128) 128 n = true then some (.iconst n) else none
  | .sipush n => if len = 3 ∧ q_rng (-32768) 32768 n = true then some (.iconst n) else none
  | .ldc i => if len = 2 then (match q_look q_ktab ow i with
    | some v => if q_rng (-2147483648) 2147483648 v = true then some (.iconst v) else none
    | none => match q_look q_stab ow i with
      | some j => if j < 13 then some (.ldc j) else none
      | none => none) else none
  | .ldc_w i => if len = 3 then (match q_look q_ktab ow i with
    | some v => if q_rng (-2147483648) 2147483648 v = true then some (.iconst v) else none
    | none => none) else none
  | .lconst n => if len = 1 then some (.jsr (n.val : Int)) else none
  | .ldc2_w i => if len = 3 then (match q_look q_ltab ow i with
    | some v => if q_rng (-9223372036854775808) 9223372036854775808 v = true then some (.jsr v) else none
    | none => none) else none
  | .iload_n k => q_one len (.iload k.val)
  | .lload_n k => q_one len (.lload k.val)
  | .aload_n k => q_one len (.aload k.val)
  | .iload k => if len = 2 then some (.iload k) else none
  | .lload k => if len = 2 then some (.lload k) else none
  | .aload k => if len = 2 then some (.aload k) else none
  | .istore_n k => q_one len (.istore k.val)
  | .lstore_n k => q_one len (.lstore k.val)
  | .astore_n k => q_one len (.astore k.val)
  | .istore k => if len = 2 then some (.istore k) else none
  | .lstore k => if len = 2 then some (.lstore k) else none
  | .astore k => if len = 2 then some (.astore k) else none
  | .iinc k n => if len = 3 ∧ q_rng (-2147483648) 2147483648 n = true then some (.iinc k n) else none
  | .pop => q_one len .pop
  | .pop2 => q_one len .pop2
  | .dup => q_one len .dup
  | .dup2 => q_one len .dup2
  | .iadd => q_one len .iadd
  | .isub => q_one len .isub
  | .imul => q_one len .imul
  | .idiv => q_one len .idiv
  | .irem => q_one len .irem
  | .ineg => q_one len .ineg
  | .iand => q_one len .iand
  | .ior => q_one len .ior
  | .ishl => q_one len .ishl
  | .ishr => q_one len .ishr
  | .i2b => q_one len .i2b
  | .i2s => q_one len .i2s
  | .i2c => q_one len .i2c
  | .i2l => q_one len .i2l
  | .l2i => q_one len .l2i
  | .ladd => q_one len .ladd
  | .lmul => q_one len .lmul
  | .ldiv => q_one len .ldiv
  | .lrem => q_one len .lrem
  | .lcmp => q_one len .lcmp
  | .ifCond c off => if len = 3 ∧ 0 ≤ (pc : Int) + off then some (.ifCond c ((pc : Int) + off)) else none
  | .if_icmp c off => if len = 3 ∧ 0 ≤ (pc : Int) + off then some (.if_icmp c ((pc : Int) + off)) else none
  | .goto off => if len = 3 ∧ 0 ≤ (pc : Int) + off then some (.goto ((pc : Int) + off)) else none
  | .tableswitch d lo hi offs => if 0 ≤ (pc : Int) + d ∧ hi - lo + 1 = (offs.size : Int) ∧ offs.toList.all (fun o => decide (0 ≤ (pc : Int) + o)) = true then some (.tableswitch ((pc : Int) + d) lo hi (offs.toList.map (fun o => (pc : Int) + o)).toArray) else none
  | .lookupswitch d ps => if 0 ≤ (pc : Int) + d ∧ ps.toList.all (fun q => decide (0 ≤ (pc : Int) + q.2)) = true ∧ (ps.toList.zip (ps.toList.drop 1)).all (fun q => decide (q.1.1 < q.2.1)) = true then some (.lookupswitch ((pc : Int) + d) (ps.toList.map (fun q => (q.1, (pc : Int) + q.2))).toArray) else none
  | .getfield i => if len = 3 then (if ow = 7 then (if i = 9 then some (.getfield 10000) else if i = 15 then some (.getfield 10001) else none) else (match q_look q_ftab ow i with
    | some c => some (.getfield c)
    | none => none)) else none
  | .putfield i => if len = 3 then (match q_look q_ftab ow i with
    | some c => if (q_Tf (c / 100) (c % 100)).2.2.2 = false ∨ (ini = true ∧ (q_Tf (c / 100) (c % 100)).1 = q_cls ow) then some (.putfield c) else none
    | none => none) else none
  | .getstatic i => if len = 3 ∧ ow = 7 then (if i = 38 then some (.getstatic 0) else if i = 1053 then some (.getstatic 1) else none) else none
  | .iaload => q_one len .iaload
  | .iastore => q_one len .iastore
  | .aaload => q_one len .aaload
  | .aastore => q_one len .aastore
  | .baload => q_one len .baload
  | .arraylength => q_one len .arraylength
  | .invokevirtual i => if len = 3 then (if ow = 1 ∧ i = 53 then some .swap else (match q_look q_mtab ow i with
    | some id => if id < 209 ∧ q_statL.contains id = false ∧ q_ctorL.contains id = false then some (.invokestatic id) else none
    | none => none)) else none
  | .invokespecial i => if len = 3 then (if q_otab.contains (ow, i) = true then some .monitorenter else if ow = 5 ∧ i = 11 then some (.invokestatic 20) else if ow = 5 ∧ i = 73 then some (.invokestatic 42) else (match q_look q_mtab ow i with
    | some id => if id < 209 ∧ q_ctorL.contains id = true then some (.invokestatic id) else none
    | none => none)) else none
  | .invokestatic i => if len = 3 then (if q_atab.contains (ow, i) = true then some .monitorexit else (match q_look q_mtab ow i with
    | some id => if id < 209 ∧ q_statL.contains id = true then some (.invokestatic id) else none
    | none => none)) else none
  | .checkcast i => if len = 3 ∧ ow = 1 ∧ i = 54 then some .nop else none
  | .new i => if len = 3 then (match q_look q_ctab ow i with
    | some k => if k < 7 then some (.new k) else none
    | none => none) else none
  | .newarray .int => if len = 2 then some (.newarray .int) else none
  | .anewarray i => if len = 3 ∧ ow = 5 then (if i = 16 then some (.anewarray 8) else if i = 22 then some (.anewarray 9) else none) else none
  | .multianewarray i n => if len = 4 ∧ ow = 0 ∧ i = 18 ∧ n = 2 then some (.multianewarray 7 2) else none
  | .ireturn => if len = 1 then (match q_tag rt with
    | some t => some (.ret t)
    | none => none) else none
  | .lreturn => if len = 1 ∧ rt = some .long then some .lreturn else none
  | .areturn => if len = 1 ∧ rt = some (.object RX3) then some .areturn else none
  | .return_ => if len = 1 ∧ rt = none then some .return_ else none
  | _ => none
def q_chkB (ow : Nat) (rt : Option FieldType) (ini : Bool) (cc : ByteArray) : Nat → List Instr → Nat → Bool
  | pc, [], nx => decide (pc = nx)
  | pc, op :: ops, nx => match decode cc pc with
    | .ok (raw, len) => (decide (op = .athrow) || decide (q_rs ow rt ini pc raw len = some op)) && q_chkB ow rt ini cc (pc + len) ops nx
    | _ => false
def q_chk (ow : Nat) (rt : Option FieldType) (ini : Bool) (cc : ByteArray) (P : q_P) : Bool := P.all fun b => q_chkB ow rt ini cc b.1 b.2.1 b.2.2
theorem q_chk_split {ow : Nat} {rt : Option FieldType} {ini : Bool} {cc : ByteArray} {P : q_P} (n : Nat) (h1 : q_chk ow rt ini cc (P.take n) = true) (h2 : q_chk ow rt ini cc (P.drop n) = true) : q_chk ow rt ini cc P = true := by
  unfold q_chk at *
  rw [← List.take_append_drop n P, List.all_append, h1, h2]
  rfl

/-! THE SAME CHECK, THE CODE READ ONCE -/
def q_chkL (ow : Nat) (rt : Option FieldType) (ini : Bool) (cc : ByteArray) : List UInt8 → Nat → List Instr → Nat → Option (List UInt8)
  | l, pc, [], nx => bif Nat.beq pc nx then some l else none
  | l, pc, op :: ops, nx => match q_dl l with
    | some (raw, len, r) => bif (decide (op = .athrow) || decide (q_rs ow rt ini pc raw len = some op)) then q_chkL ow rt ini cc r (pc + len) ops nx else none
    | none => match Jvm.ClassFile.decode cc pc with
      | .ok (raw, len) => bif (decide (op = .athrow) || decide (q_rs ow rt ini pc raw len = some op)) then q_chkL ow rt ini cc (l.drop len) (pc + len) ops nx else none
      | .error _ => none
theorem q_chkB_mk {ow : Nat} {rt : Option FieldType} {ini : Bool} {cc : ByteArray} {pc nx len : Nat} {raw op : Instr} {ops : List Instr} (hd : Jvm.ClassFile.decode cc pc = .ok (raw, len)) (hs : (decide (op = .athrow) || decide (q_rs ow rt ini pc raw len = some op)) = true) (hr : q_chkB ow rt ini cc (pc + len) ops nx = true) : q_chkB ow rt ini cc pc (op :: ops) nx = true := by
  rw [q_chkB, hd]
  show ((decide (op = .athrow) || decide (q_rs ow rt ini pc raw len = some op)) && q_chkB ow rt ini cc (pc + len) ops nx) = true
  rw [hs, hr]
  rfl
theorem q_bif {α : Type} {c : Bool} {x y : Option α} {z : α} (h : (bif c then x else y) = some z) (hy : y = none) : c = true ∧ x = some z := by
  cases c with
  | false =>
    have h : y = some z := h
    rw [hy] at h
    cases h
  | true => exact ⟨rfl, h⟩
theorem q_chkL_ok {ow : Nat} {rt : Option FieldType} {ini : Bool} {cc : ByteArray} : ∀ (ops : List Instr) (l : List UInt8) (pc nx : Nat) (s : List UInt8), cc.data.toList.drop pc = l → q_chkL ow rt ini cc l pc ops nx = some s → q_chkB ow rt ini cc pc ops nx = true ∧ cc.data.toList.drop nx = s
  | [], l, pc, nx, s, hl, h => by
    have h : (bif Nat.beq pc nx then some l else none) = some s := h
    obtain ⟨h1, h2⟩ := q_bif h rfl
    have e := Nat.eq_of_beq_eq_true h1
    injection h2 with h2
    refine ⟨?_, ?_⟩
    · show decide (pc = nx) = true
      exact decide_eq_true e
    · rw [← e, hl, h2]
  | op :: ops, l, pc, nx, s, hl, h => by
    rw [q_chkL] at h
    cases hd : q_dl l with
    | none =>
      rw [hd] at h
      cases he : Jvm.ClassFile.decode cc pc with
      | error e =>
        rw [he] at h
        cases h
      | ok a =>
        obtain ⟨raw, len⟩ := a
        rw [he] at h
        have h : (bif (decide (op = .athrow) || decide (q_rs ow rt ini pc raw len = some op)) then q_chkL ow rt ini cc (l.drop len) (pc + len) ops nx else none) = some s := h
        obtain ⟨h1, h2⟩ := q_bif h rfl
        have hl2 : cc.data.toList.drop (pc + len) = l.drop len := by rw [← hl, List.drop_drop]
        obtain ⟨k1, k2⟩ := q_chkL_ok ops _ _ _ _ hl2 h2
        exact ⟨q_chkB_mk he h1 k1, k2⟩
    | some a =>
      obtain ⟨raw, len, r⟩ := a
      rw [hd] at h
      have h : (bif (decide (op = .athrow) || decide (q_rs ow rt ini pc raw len = some op)) then q_chkL ow rt ini cc r (pc + len) ops nx else none) = some s := h
      obtain ⟨h1, h2⟩ := q_bif h rfl
      obtain ⟨e1, e2⟩ := q_dl_ok hl hd
      obtain ⟨k1, k2⟩ := q_chkL_ok ops _ _ _ _ e2 h2
      exact ⟨q_chkB_mk e1 h1 k1, k2⟩
def q_chkQ (ow : Nat) (rt : Option FieldType) (ini : Bool) (cc : ByteArray) : List UInt8 → Nat → q_P → Bool
  | _, _, [] => true
  | l, pc, b :: P => Nat.beq pc b.1 && (match q_chkL ow rt ini cc l pc b.2.1 b.2.2 with
    | some r => q_chkQ ow rt ini cc r b.2.2 P
    | none => false)
theorem q_chkQ_ok {ow : Nat} {rt : Option FieldType} {ini : Bool} {cc : ByteArray} : ∀ (P : q_P) (l : List UInt8) (pc : Nat), cc.data.toList.drop pc = l → q_chkQ ow rt ini cc l pc P = true → q_chk ow rt ini cc P = true
  | [], _, _, _, _ => rfl
  | b :: P, l, pc, hl, h => by
    rw [q_chkQ, Bool.and_eq_true] at h
    obtain ⟨h1, h2⟩ := h
    have e := Nat.eq_of_beq_eq_true h1
    subst e
    cases hc : q_chkL ow rt ini cc l b.1 b.2.1 b.2.2 with
    | none =>
      rw [hc] at h2
      cases h2
    | some r =>
      rw [hc] at h2
      obtain ⟨k1, k2⟩ := q_chkL_ok _ _ _ _ _ hl hc
      have k3 := q_chkQ_ok P r b.2.2 k2 h2
      show (q_chkB ow rt ini cc b.1 b.2.1 b.2.2 && q_chk ow rt ini cc P) = true
      rw [k1, k3]
      rfl
theorem q_chkQ_at {ow : Nat} {rt : Option FieldType} {ini : Bool} {cc : ByteArray} {P : q_P} (o : Nat) (h : q_chkQ ow rt ini cc (cc.data.toList.drop o) o P = true) : q_chk ow rt ini cc P = true := q_chkQ_ok P _ o rfl h
set_option maxRecDepth 100000 in
theorem q_ck_0 : q_chk 0 (q_mR 0) true (q_mC 0) qP_X0_init = true := q_chkQ_at 0 (by decide +kernel)
set_option maxRecDepth 100000 in
theorem q_ck_1 : q_chk 0 (q_mR 1) false (q_mC 1) qP_X0_copyFrom = true := q_chkQ_at 0 (by decide +kernel)
set_option maxRecDepth 100000 in
theorem q_ck_2 : q_chk 0 (q_mR 2) false (q_mC 2) qP_X0_emptyAll = true := q_chkQ_at 0 (by decide +kernel)
set_option maxRecDepth 100000 in
theorem q_ck_3 : q_chk 0 (q_mR 3) false (q_mC 3) qP_X0_inNone = true := q_chkQ_at 0 (by decide +kernel)
set_option maxRecDepth 100000 in
theorem q_ck_4 : q_chk 0 (q_mR 4) false (q_mC 4) qP_X0_housed = true := q_chkQ_at 0 (by decide +kernel)
set_option maxRecDepth 100000 in
theorem q_ck_5 : q_chk 0 (q_mR 5) false (q_mC 5) qP_X0_housedBits = true := q_chkQ_at 0 (by decide +kernel)
set_option maxRecDepth 100000 in
theorem q_ck_6 : q_chk 0 (q_mR 6) false (q_mC 6) qP_X0_digits = true := q_chkQ_at 0 (by decide +kernel)
set_option maxRecDepth 100000 in
theorem q_ck_7 : q_chk 0 (q_mR 7) false (q_mC 7) qP_X0_liked = true := q_chkQ_at 0 (by decide +kernel)
set_option maxRecDepth 100000 in
theorem q_ck_8 : q_chk 0 (q_mR 8) false (q_mC 8) qP_X0_wanted = true := q_chkQ_at 0 (by decide +kernel)
set_option maxRecDepth 100000 in
theorem q_ck_9 : q_chk 0 (q_mR 9) false (q_mC 9) qP_X0_ratherBeIn = true := q_chkQ_at 0 (by decide +kernel)
set_option maxRecDepth 100000 in
theorem q_ck_10 : q_chk 0 (q_mR 10) false (q_mC 10) qP_X0_dearest = true := q_chkQ_at 0 (by decide +kernel)
set_option maxRecDepth 100000 in
theorem q_ck_11 : q_chk 0 (q_mR 11) false (q_mC 11) qP_X0_ratherHave = true := q_chkQ_at 0 (by decide +kernel)
set_option maxRecDepth 100000 in
theorem q_ck_12 : q_chk 0 (q_mR 12) false (q_mC 12) qP_X0_last = true := q_chkQ_at 0 (by decide +kernel)
set_option maxRecDepth 100000 in
theorem q_ck_13 : q_chk 0 (q_mR 13) false (q_mC 13) qP_X0_takes = true := q_chkQ_at 0 (by decide +kernel)
set_option maxRecDepth 100000 in
theorem q_ck_14 : q_chk 0 (q_mR 14) false (q_mC 14) qP_X0_comeIn = true := q_chkQ_at 0 (by decide +kernel)
set_option maxRecDepth 100000 in
theorem q_ck_15 : q_chk 0 (q_mR 15) false (q_mC 15) qP_X0_askInTurn = true := q_chkQ_at 0 (by decide +kernel)
set_option maxRecDepth 100000 in
theorem q_ck_16 : q_chk 0 (q_mR 16) false (q_mC 16) qP_X0_ask = true := q_chkQ_at 0 (by decide +kernel)
set_option maxRecDepth 100000 in
theorem q_ck_17 : q_chk 0 (q_mR 17) false (q_mC 17) qP_X0_complaint = true := q_chkQ_at 0 (by decide +kernel)
set_option maxRecDepth 100000 in
theorem q_ck_18 : q_chk 0 (q_mR 18) false (q_mC 18) qP_X0_fits = true := q_chkQ_at 0 (by decide +kernel)
set_option maxRecDepth 100000 in
theorem q_ck_19 : q_chk 0 (q_mR 19) false (q_mC 19) qP_X0_nextWay = true := q_chkQ_at 0 (by decide +kernel)
set_option maxRecDepth 100000 in
theorem q_ck_20 : q_chk 1 (q_mR 20) true (q_mC 20) qP_X1_init = true := q_chkQ_at 0 (by decide +kernel)
set_option maxRecDepth 100000 in
theorem q_ck_21 : q_chk 1 (q_mR 21) false (q_mC 21) qP_X1_clear = true := q_chkQ_at 0 (by decide +kernel)
set_option maxRecDepth 100000 in
theorem q_ck_22 : q_chk 1 (q_mR 22) false (q_mC 22) qP_X1_take = true := q_chkQ_at 0 (by decide +kernel)
set_option maxRecDepth 100000 in
theorem q_ck_23 : q_chk 1 (q_mR 23) false (q_mC 23) qP_X1_read = true := q_chkQ_at 0 (by decide +kernel)
set_option maxRecDepth 100000 in
theorem q_ck_24 : q_chk 1 (q_mR 24) false (q_mC 24) qP_X1_made = true := q_chkQ_at 0 (by decide +kernel)
set_option maxRecDepth 100000 in
theorem q_ck_25 : q_chk 1 (q_mR 25) false (q_mC 25) qP_X1_part = true := q_chkQ_at 0 (by decide +kernel)
set_option maxRecDepth 100000 in
theorem q_ck_26 : q_chk 1 (q_mR 26) false (q_mC 26) qP_X1_expect = true := q_chkQ_at 0 (by decide +kernel)
set_option maxRecDepth 100000 in
theorem q_ck_27 : q_chk 1 (q_mR 27) false (q_mC 27) qP_X1_fail = true := q_chkQ_at 0 (by decide +kernel)
set_option maxRecDepth 100000 in
theorem q_ck_28 : q_chk 1 (q_mR 28) false (q_mC 28) qP_X1_emit = true := q_chkQ_at 0 (by decide +kernel)
set_option maxRecDepth 100000 in
theorem q_ck_29 : q_chk 1 (q_mR 29) false (q_mC 29) qP_X1_either = true := q_chkQ_at 0 (by decide +kernel)
set_option maxRecDepth 100000 in
theorem q_ck_30 : q_chk 1 (q_mR 30) false (q_mC 30) qP_X1_both = true := q_chkQ_at 0 (by decide +kernel)
set_option maxRecDepth 100000 in
theorem q_ck_31 : q_chk 1 (q_mR 31) false (q_mC 31) qP_X1_not = true := q_chkQ_at 0 (by decide +kernel)
set_option maxRecDepth 100000 in
theorem q_ck_32 : q_chk 1 (q_mR 32) false (q_mC 32) qP_X1_sum = true := q_chkQ_at 0 (by decide +kernel)
set_option maxRecDepth 100000 in
theorem q_ck_33 : q_chk 1 (q_mR 33) false (q_mC 33) qP_X1_term = true := q_chkQ_at 0 (by decide +kernel)
set_option maxRecDepth 100000 in
theorem q_ck_34 : q_chk 1 (q_mR 34) false (q_mC 34) qP_X1_one = true := q_chkQ_at 0 (by decide +kernel)
set_option maxRecDepth 100000 in
theorem q_ck_35 : q_chk 1 (q_mR 35) false (q_mC 35) qP_X1_next = true := q_chkQ_at 0 (by decide +kernel)
set_option maxRecDepth 100000 in
theorem q_ck_36 : q_chk 1 (q_mR 36) false (q_mC 36) qP_X1_word = true := q_chkQ_at 0 (by decide +kernel)
set_option maxRecDepth 100000 in
theorem q_ck_37 : q_chk 1 (q_mR 37) false (q_mC 37) qP_X1_number = true := q_chkQ_at 0 (by decide +kernel)
set_option maxRecDepth 100000 in
theorem q_ck_38 : q_chk 1 (q_mR 38) false (q_mC 38) qP_X1_mean = true := q_chkQ_at 0 (by decide +kernel)
set_option maxRecDepth 100000 in
theorem q_ck_39 : q_chk 1 (q_mR 39) false (q_mC 39) qP_X1_isLetter = true := q_chkQ_at 0 (by decide +kernel)
set_option maxRecDepth 100000 in
theorem q_ck_40 : q_chk 1 (q_mR 40) false (q_mC 40) qP_X1_isDigit = true := q_chkQ_at 0 (by decide +kernel)
set_option maxRecDepth 100000 in
theorem q_ck_41 : q_chk 1 (q_mR 41) false (q_mC 41) qP_X1_isSign = true := q_chkQ_at 0 (by decide +kernel)
set_option maxRecDepth 100000 in
theorem q_ck_42 : q_chk 2 (q_mR 42) true (q_mC 42) qP_X2_init = true := q_chkQ_at 0 (by decide +kernel)
set_option maxRecDepth 100000 in
theorem q_ck_43 : q_chk 2 (q_mR 43) false (q_mC 43) qP_X2_isMissing = true := q_chkQ_at 0 (by decide +kernel)
set_option maxRecDepth 100000 in
theorem q_ck_44 : q_chk 2 (q_mR 44) false (q_mC 44) qP_X2_become = true := q_chkQ_at 0 (by decide +kernel)
set_option maxRecDepth 100000 in
theorem q_ck_45 : q_chk 2 (q_mR 45) false (q_mC 45) qP_X2_write = true := q_chkQ_at 0 (by decide +kernel)
set_option maxRecDepth 100000 in
theorem q_ck_46 : q_chk 3 (q_mR 46) true (q_mC 46) qP_X3_init = true := q_chkQ_at 0 (by decide +kernel)
set_option maxRecDepth 100000 in
theorem q_ck_47 : q_chk 3 (q_mR 47) false (q_mC 47) qP_X3_value = true := q_chkQ_at 0 (by decide +kernel)
set_option maxRecDepth 100000 in
theorem q_ck_48 : q_chk 4 (q_mR 48) true (q_mC 48) qP_X4_init = true := q_chkQ_at 0 (by decide +kernel)
set_option maxRecDepth 100000 in
theorem q_ck_49 : q_chk 4 (q_mR 49) false (q_mC 49) qP_X4_copyFrom = true := q_chkQ_at 0 (by decide +kernel)
set_option maxRecDepth 100000 in
theorem q_ck_50 : q_chk 4 (q_mR 50) false (q_mC 50) qP_X4_add = true := q_chkQ_at 0 (by decide +kernel)
set_option maxRecDepth 100000 in
theorem q_ck_51 : q_chk 4 (q_mR 51) false (q_mC 51) qP_X4_lay = true := q_chkQ_at 0 (by decide +kernel)
set_option maxRecDepth 100000 in
theorem q_ck_52 : q_chk 4 (q_mR 52) false (q_mC 52) qP_X4_move = true := q_chkQ_at 0 (by decide +kernel)
set_option maxRecDepth 100000 in
theorem q_ck_53 : q_chk 4 (q_mR 53) false (q_mC 53) qP_X4_says = true := q_chkQ_at 0 (by decide +kernel)
set_option maxRecDepth 100000 in
theorem q_ck_54 : q_chk 4 (q_mR 54) false (q_mC 54) qP_X4_likes = true := q_chkQ_at 0 (by decide +kernel)
set_option maxRecDepth 100000 in
theorem q_ck_55 : q_chk 4 (q_mR 55) false (q_mC 55) qP_X4_wants = true := q_chkQ_at 0 (by decide +kernel)
set_option maxRecDepth 100000 in
theorem q_ck_56 : q_chk 4 (q_mR 56) false (q_mC 56) qP_X4_goes = true := q_chkQ_at 0 (by decide +kernel)
set_option maxRecDepth 100000 in
theorem q_ck_57 : q_chk 4 (q_mR 57) false (q_mC 57) qP_X4_tellAll = true := q_chkQ_at 0 (by decide +kernel)
set_option maxRecDepth 100000 in
theorem q_ck_58 : q_chk 4 (q_mR 58) false (q_mC 58) qP_X4_wish = true := q_chkQ_at 0 (by decide +kernel)
set_option maxRecDepth 100000 in
theorem q_ck_59 : q_chk 4 (q_mR 59) false (q_mC 59) qP_X4_passYear = true := q_chkQ_at 0 (by decide +kernel)
set_option maxRecDepth 100000 in
theorem q_ck_60 : q_chk 4 (q_mR 60) false (q_mC 60) qP_X4_goTo = true := q_chkQ_at 0 (by decide +kernel)
set_option maxRecDepth 100000 in
theorem q_ck_61 : q_chk 5 (q_mR 61) true (q_mC 61) qP_X5_init = true := q_chkQ_at 0 (by decide +kernel)
set_option maxRecDepth 100000 in
theorem q_ck_62 : q_chk 5 (q_mR 62) false (q_mC 62) qP_X5_count = true := q_chkQ_at 0 (by decide +kernel)
set_option maxRecDepth 100000 in
theorem q_ck_63 : q_chk 5 (q_mR 63) false (q_mC 63) qP_X5_dawn = true := q_chkQ_at 0 (by decide +kernel)
set_option maxRecDepth 100000 in
theorem q_ck_64 : q_chk 5 (q_mR 64) false (q_mC 64) qP_X5_build = true := q_chkQ_at 0 (by decide +kernel)
set_option maxRecDepth 100000 in
theorem q_ck_65 : q_chk 5 (q_mR 65) false (q_mC 65) qP_X5_site = true := q_chkQ_at 0 (by decide +kernel)
set_option maxRecDepth 100000 in
theorem q_ck_66 : q_chk 5 (q_mR 66) false (q_mC 66) qP_X5_feed = true := q_chkQ_at 0 (by decide +kernel)
set_option maxRecDepth 100000 in
theorem q_ck_67 : q_chk 5 (q_mR 67) false (q_mC 67) qP_X5_text = true := q_chkQ_at 0 (by decide +kernel)
set_option maxRecDepth 100000 in
theorem q_ck_68 : q_chk 5 (q_mR 68) false (q_mC 68) qP_X5_force = true := q_chkQ_at 0 (by decide +kernel)
set_option maxRecDepth 100000 in
theorem q_ck_69 : q_chk 5 (q_mR 69) false (q_mC 69) qP_X5_asks = true := q_chkQ_at 0 (by decide +kernel)
set_option maxRecDepth 100000 in
theorem q_ck_70 : q_chk 5 (q_mR 70) false (q_mC 70) qP_X5_stone = true := q_chkQ_at 0 (by decide +kernel)
set_option maxRecDepth 100000 in
theorem q_ck_71 : q_chk 5 (q_mR 71) false (q_mC 71) qP_X5_put = true := q_chkQ_at 0 (by decide +kernel)
set_option maxRecDepth 100000 in
theorem q_ck_72 : q_chk 5 (q_mR 72) false (q_mC 72) qP_X5_told = true := q_chkQ_at 0 (by decide +kernel)
set_option maxRecDepth 100000 in
theorem q_ck_73 : q_chk 5 (q_mR 73) false (q_mC 73) qP_X5_love = true := q_chkQ_at 0 (by decide +kernel)
set_option maxRecDepth 100000 in
theorem q_ck_74 : q_chk 5 (q_mR 74) false (q_mC 74) qP_X5_year = true := q_chkQ_at 0 (by decide +kernel)
set_option maxRecDepth 100000 in
theorem q_ck_75 : q_chk 5 (q_mR 75) false (q_mC 75) qP_X5_run = true := q_chkQ_at 0 (by decide +kernel)
set_option maxRecDepth 100000 in
theorem q_ck_76 : q_chk 5 (q_mR 76) false (q_mC 76) qP_X5_when = true := q_chkQ_at 0 (by decide +kernel)
set_option maxRecDepth 100000 in
theorem q_ck_77 : q_chk 5 (q_mR 77) false (q_mC 77) qP_X5_peace = true := q_chkQ_at 0 (by decide +kernel)
set_option maxRecDepth 100000 in
theorem q_ck_78 : q_chk 5 (q_mR 78) false (q_mC 78) qP_X5_court = true := q_chkQ_at 0 (by decide +kernel)
set_option maxRecDepth 100000 in
theorem q_ck_79 : q_chk 5 (q_mR 79) false (q_mC 79) qP_X5_all = true := q_chkQ_at 0 (by decide +kernel)
set_option maxRecDepth 100000 in
theorem q_ck_80 : q_chk 5 (q_mR 80) false (q_mC 80) qP_X5_annex = true := q_chkQ_at 0 (by decide +kernel)
set_option maxRecDepth 100000 in
theorem q_ck_81 : q_chk 5 (q_mR 81) false (q_mC 81) qP_X5_cart = true := q_chkQ_at 0 (by decide +kernel)
set_option maxRecDepth 100000 in
theorem q_ck_82 : q_chk 5 (q_mR 82) false (q_mC 82) qP_X5_share = true := q_chkQ_at 0 (by decide +kernel)
set_option maxRecDepth 100000 in
theorem q_ck_83 : q_chk 5 (q_mR 83) false (q_mC 83) qP_X5_judge = true := q_chkQ_at 0 (by decide +kernel)
set_option maxRecDepth 100000 in
theorem q_ck_84 : q_chk 5 (q_mR 84) false (q_mC 84) qP_X5_kinds = true := q_chkQ_at 0 (by decide +kernel)
set_option maxRecDepth 100000 in
theorem q_ck_85 : q_chk 5 (q_mR 85) false (q_mC 85) qP_X5_states = true := q_chkQ_at 0 (by decide +kernel)
set_option maxRecDepth 100000 in
theorem q_ck_86 : q_chk 5 (q_mR 86) false (q_mC 86) qP_X5_whose = true := q_chkQ_at 0 (by decide +kernel)
set_option maxRecDepth 100000 in
theorem q_ck_87 : q_chk 5 (q_mR 87) false (q_mC 87) qP_X5_laws = true := q_chkQ_at 0 (by decide +kernel)
set_option maxRecDepth 100000 in
theorem q_ck_88 : q_chk 5 (q_mR 88) false (q_mC 88) qP_X5_film = true := q_chkQ_at 0 (by decide +kernel)
set_option maxRecDepth 100000 in
theorem q_ck_89 : q_chk 5 (q_mR 89) false (q_mC 89) qP_X5_drawn = true := q_chkQ_at 0 (by decide +kernel)
set_option maxRecDepth 100000 in
theorem q_ck_90 : q_chk 5 (q_mR 90) false (q_mC 90) qP_X5_odds = true := q_chkQ_at 0 (by decide +kernel)
set_option maxRecDepth 100000 in
theorem q_ck_91 : q_chk 5 (q_mR 91) false (q_mC 91) qP_X5_image = true := q_chkQ_at 0 (by decide +kernel)
set_option maxRecDepth 100000 in
theorem q_ck_92 : q_chk 5 (q_mR 92) false (q_mC 92) qP_X5_back = true := q_chkQ_at 0 (by decide +kernel)
set_option maxRecDepth 100000 in
theorem q_ck_93 : q_chk 5 (q_mR 93) false (q_mC 93) qP_X5_sheet = true := q_chkQ_at 0 (by decide +kernel)
set_option maxRecDepth 100000 in
theorem q_ck_94 : q_chk 5 (q_mR 94) false (q_mC 94) qP_X5_cell = true := q_chkQ_at 0 (by decide +kernel)
set_option maxRecDepth 100000 in
theorem q_ck_95 : q_chk 5 (q_mR 95) false (q_mC 95) qP_X5_copy = true := q_chkQ_at 0 (by decide +kernel)
set_option maxRecDepth 100000 in
theorem q_ck_96 : q_chk 5 (q_mR 96) false (q_mC 96) qP_X5_stonesBy = true := q_chkQ_at 0 (by decide +kernel)
set_option maxRecDepth 100000 in
theorem q_ck_97 : q_chk 5 (q_mR 97) false (q_mC 97) qP_X5_taken = true := q_chkQ_at 0 (by decide +kernel)
set_option maxRecDepth 100000 in
theorem q_ck_98 : q_chk 5 (q_mR 98) false (q_mC 98) qP_X5_isStone = true := q_chkQ_at 0 (by decide +kernel)
set_option maxRecDepth 100000 in
theorem q_ck_99 : q_chk 5 (q_mR 99) false (q_mC 99) qP_X5_isBuilding = true := q_chkQ_at 0 (by decide +kernel)
set_option maxRecDepth 100000 in
theorem q_ck_100 : q_chk 5 (q_mR 100) false (q_mC 100) qP_X5_orNone = true := q_chkQ_at 0 (by decide +kernel)
set_option maxRecDepth 100000 in
theorem q_ck_101 : q_chk 5 (q_mR 101) false (q_mC 101) qP_X5_isSheet = true := q_chkQ_at 0 (by decide +kernel)
set_option maxRecDepth 100000 in
theorem q_ck_102 : q_chk 5 (q_mR 102) false (q_mC 102) qP_X5_isByte = true := q_chkQ_at 0 (by decide +kernel)
set_option maxRecDepth 100000 in
theorem q_ck_103 : q_chk 5 (q_mR 103) false (q_mC 103) qP_X5_isOfKind = true := q_chkQ_at 0 (by decide +kernel)
set_option maxRecDepth 100000 in
theorem q_ck_104 : q_chk 5 (q_mR 104) false (q_mC 104) qP_X5_refusalOfTold = true := q_chkQ_at 0 (by decide +kernel)
set_option maxRecDepth 100000 in
theorem q_ck_105 : q_chk 5 (q_mR 105) false (q_mC 105) qP_X5_firstOtherwise = true := q_chkQ_at 0 (by decide +kernel)
set_option maxRecDepth 100000 in
theorem q_ck_106 : q_chk 5 (q_mR 106) false (q_mC 106) qP_X5_yearsTillIn = true := q_chkQ_at 0 (by decide +kernel)
set_option maxRecDepth 100000 in
theorem q_ck_107 : q_chk 5 (q_mR 107) false (q_mC 107) qP_X5_passWeather = true := q_chkQ_at 0 (by decide +kernel)
set_option maxRecDepth 100000 in
theorem q_ck_108 : q_chk 5 (q_mR 108) false (q_mC 108) qP_X5_inLowestTerms = true := q_chkQ_at 0 (by decide +kernel)
set_option maxRecDepth 100000 in
theorem q_ck_109_0 : q_chk 6 (q_mR 109) true (q_mC 109) (qP_X6_init.take 1) = true := q_chkQ_at 0 (by decide +kernel)
set_option maxRecDepth 100000 in
theorem q_ck_109_1 : q_chk 6 (q_mR 109) true (q_mC 109) ((qP_X6_init.drop 1).take 1) = true := q_chkQ_at 65 (by decide +kernel)
set_option maxRecDepth 100000 in
theorem q_ck_109_2 : q_chk 6 (q_mR 109) true (q_mC 109) (((qP_X6_init.drop 1).drop 1).take 1) = true := q_chkQ_at 136 (by decide +kernel)
set_option maxRecDepth 100000 in
theorem q_ck_109_3 : q_chk 6 (q_mR 109) true (q_mC 109) ((((qP_X6_init.drop 1).drop 1).drop 1).take 1) = true := q_chkQ_at 218 (by decide +kernel)
set_option maxRecDepth 100000 in
theorem q_ck_109_4 : q_chk 6 (q_mR 109) true (q_mC 109) (((((qP_X6_init.drop 1).drop 1).drop 1).drop 1).take 1) = true := q_chkQ_at 288 (by decide +kernel)
set_option maxRecDepth 100000 in
theorem q_ck_109_5 : q_chk 6 (q_mR 109) true (q_mC 109) ((((((qP_X6_init.drop 1).drop 1).drop 1).drop 1).drop 1).take 1) = true := q_chkQ_at 362 (by decide +kernel)
set_option maxRecDepth 100000 in
theorem q_ck_109_6 : q_chk 6 (q_mR 109) true (q_mC 109) (((((((qP_X6_init.drop 1).drop 1).drop 1).drop 1).drop 1).drop 1).take 1) = true := q_chkQ_at 438 (by decide +kernel)
set_option maxRecDepth 100000 in
theorem q_ck_109_7 : q_chk 6 (q_mR 109) true (q_mC 109) ((((((((qP_X6_init.drop 1).drop 1).drop 1).drop 1).drop 1).drop 1).drop 1).take 1) = true := q_chkQ_at 508 (by decide +kernel)
set_option maxRecDepth 100000 in
theorem q_ck_109_8 : q_chk 6 (q_mR 109) true (q_mC 109) (((((((((qP_X6_init.drop 1).drop 1).drop 1).drop 1).drop 1).drop 1).drop 1).drop 1).take 1) = true := q_chkQ_at 584 (by decide +kernel)
set_option maxRecDepth 100000 in
theorem q_ck_109_9 : q_chk 6 (q_mR 109) true (q_mC 109) ((((((((((qP_X6_init.drop 1).drop 1).drop 1).drop 1).drop 1).drop 1).drop 1).drop 1).drop 1).take 1) = true := q_chkQ_at 658 (by decide +kernel)
set_option maxRecDepth 100000 in
theorem q_ck_109_10 : q_chk 6 (q_mR 109) true (q_mC 109) (((((((((((qP_X6_init.drop 1).drop 1).drop 1).drop 1).drop 1).drop 1).drop 1).drop 1).drop 1).drop 1).take 1) = true := q_chkQ_at 734 (by decide +kernel)
set_option maxRecDepth 100000 in
theorem q_ck_109_11 : q_chk 6 (q_mR 109) true (q_mC 109) ((((((((((((qP_X6_init.drop 1).drop 1).drop 1).drop 1).drop 1).drop 1).drop 1).drop 1).drop 1).drop 1).drop 1).take 1) = true := q_chkQ_at 808 (by decide +kernel)
set_option maxRecDepth 100000 in
theorem q_ck_109_12 : q_chk 6 (q_mR 109) true (q_mC 109) (((((((((((((qP_X6_init.drop 1).drop 1).drop 1).drop 1).drop 1).drop 1).drop 1).drop 1).drop 1).drop 1).drop 1).drop 1).take 1) = true := q_chkQ_at 884 (by decide +kernel)
set_option maxRecDepth 100000 in
theorem q_ck_109_13 : q_chk 6 (q_mR 109) true (q_mC 109) ((((((((((((((qP_X6_init.drop 1).drop 1).drop 1).drop 1).drop 1).drop 1).drop 1).drop 1).drop 1).drop 1).drop 1).drop 1).drop 1).take 1) = true := q_chkQ_at 958 (by decide +kernel)
set_option maxRecDepth 100000 in
theorem q_ck_109_14 : q_chk 6 (q_mR 109) true (q_mC 109) (((((((((((((((qP_X6_init.drop 1).drop 1).drop 1).drop 1).drop 1).drop 1).drop 1).drop 1).drop 1).drop 1).drop 1).drop 1).drop 1).drop 1).take 1) = true := q_chkQ_at 1036 (by decide +kernel)
set_option maxRecDepth 100000 in
theorem q_ck_109_15 : q_chk 6 (q_mR 109) true (q_mC 109) ((((((((((((((((qP_X6_init.drop 1).drop 1).drop 1).drop 1).drop 1).drop 1).drop 1).drop 1).drop 1).drop 1).drop 1).drop 1).drop 1).drop 1).drop 1).take 1) = true := q_chkQ_at 1105 (by decide +kernel)
set_option maxRecDepth 100000 in
theorem q_ck_109_16 : q_chk 6 (q_mR 109) true (q_mC 109) (((((((((((((((((qP_X6_init.drop 1).drop 1).drop 1).drop 1).drop 1).drop 1).drop 1).drop 1).drop 1).drop 1).drop 1).drop 1).drop 1).drop 1).drop 1).drop 1).take 1) = true := q_chkQ_at 1111 (by decide +kernel)
set_option maxRecDepth 100000 in
theorem q_ck_109_17 : q_chk 6 (q_mR 109) true (q_mC 109) (((((((((((((((((qP_X6_init.drop 1).drop 1).drop 1).drop 1).drop 1).drop 1).drop 1).drop 1).drop 1).drop 1).drop 1).drop 1).drop 1).drop 1).drop 1).drop 1).drop 1) = true := q_chkQ_at 1129 (by decide +kernel)
theorem q_ck_109 : q_chk 6 (q_mR 109) true (q_mC 109) qP_X6_init = true := q_chk_split 1 q_ck_109_0 (q_chk_split 1 q_ck_109_1 (q_chk_split 1 q_ck_109_2 (q_chk_split 1 q_ck_109_3 (q_chk_split 1 q_ck_109_4 (q_chk_split 1 q_ck_109_5 (q_chk_split 1 q_ck_109_6 (q_chk_split 1 q_ck_109_7 (q_chk_split 1 q_ck_109_8 (q_chk_split 1 q_ck_109_9 (q_chk_split 1 q_ck_109_10 (q_chk_split 1 q_ck_109_11 (q_chk_split 1 q_ck_109_12 (q_chk_split 1 q_ck_109_13 (q_chk_split 1 q_ck_109_14 (q_chk_split 1 q_ck_109_15 (q_chk_split 1 q_ck_109_16 (q_ck_109_17)))))))))))))))))
set_option maxRecDepth 100000 in
theorem q_ck_110 : q_chk 6 (q_mR 110) false (q_mC 110) qP_X6_in = true := q_chkQ_at 0 (by decide +kernel)
set_option maxRecDepth 100000 in
theorem q_ck_111 : q_chk 6 (q_mR 111) false (q_mC 111) qP_X6_within = true := q_chkQ_at 0 (by decide +kernel)
set_option maxRecDepth 100000 in
theorem q_ck_112 : q_chk 6 (q_mR 112) false (q_mC 112) qP_X6_isStone = true := q_chkQ_at 0 (by decide +kernel)
set_option maxRecDepth 100000 in
theorem q_ck_113 : q_chk 6 (q_mR 113) false (q_mC 113) qP_X6_isSite = true := q_chkQ_at 0 (by decide +kernel)
set_option maxRecDepth 100000 in
theorem q_ck_114 : q_chk 6 (q_mR 114) false (q_mC 114) qP_X6_outside = true := q_chkQ_at 0 (by decide +kernel)
set_option maxRecDepth 100000 in
theorem q_ck_115 : q_chk 6 (q_mR 115) false (q_mC 115) qP_X6_whoIn = true := q_chkQ_at 0 (by decide +kernel)
set_option maxRecDepth 100000 in
theorem q_ck_116 : q_chk 6 (q_mR 116) false (q_mC 116) qP_X6_onesOf = true := q_chkQ_at 0 (by decide +kernel)
set_option maxRecDepth 100000 in
theorem q_ck_117 : q_chk 6 (q_mR 117) false (q_mC 117) qP_X6_count = true := q_chkQ_at 0 (by decide +kernel)
set_option maxRecDepth 100000 in
theorem q_ck_118 : q_chk 6 (q_mR 118) false (q_mC 118) qP_X6_dawn = true := q_chkQ_at 0 (by decide +kernel)
set_option maxRecDepth 100000 in
theorem q_ck_119 : q_chk 6 (q_mR 119) false (q_mC 119) qP_X6_build = true := q_chkQ_at 0 (by decide +kernel)
set_option maxRecDepth 100000 in
theorem q_ck_120 : q_chk 6 (q_mR 120) false (q_mC 120) qP_X6_site = true := q_chkQ_at 0 (by decide +kernel)
set_option maxRecDepth 100000 in
theorem q_ck_121 : q_chk 6 (q_mR 121) false (q_mC 121) qP_X6_isByte = true := q_chkQ_at 0 (by decide +kernel)
set_option maxRecDepth 100000 in
theorem q_ck_122 : q_chk 6 (q_mR 122) false (q_mC 122) qP_X6_feed = true := q_chkQ_at 0 (by decide +kernel)
set_option maxRecDepth 100000 in
theorem q_ck_123 : q_chk 6 (q_mR 123) false (q_mC 123) qP_X6_wordFrom = true := q_chkQ_at 0 (by decide +kernel)
set_option maxRecDepth 100000 in
theorem q_ck_124 : q_chk 6 (q_mR 124) false (q_mC 124) qP_X6_next = true := q_chkQ_at 0 (by decide +kernel)
set_option maxRecDepth 100000 in
theorem q_ck_125 : q_chk 6 (q_mR 125) false (q_mC 125) qP_X6_rank = true := q_chkQ_at 0 (by decide +kernel)
set_option maxRecDepth 100000 in
theorem q_ck_126 : q_chk 6 (q_mR 126) false (q_mC 126) qP_X6_puts = true := q_chkQ_at 0 (by decide +kernel)
set_option maxRecDepth 100000 in
theorem q_ck_127 : q_chk 6 (q_mR 127) false (q_mC 127) qP_X6_unwinds = true := q_chkQ_at 0 (by decide +kernel)
set_option maxRecDepth 100000 in
theorem q_ck_128 : q_chk 6 (q_mR 128) false (q_mC 128) qP_X6_holds = true := q_chkQ_at 0 (by decide +kernel)
set_option maxRecDepth 100000 in
theorem q_ck_129 : q_chk 6 (q_mR 129) false (q_mC 129) qP_X6_opensOne = true := q_chkQ_at 0 (by decide +kernel)
set_option maxRecDepth 100000 in
theorem q_ck_130 : q_chk 6 (q_mR 130) false (q_mC 130) qP_X6_between = true := q_chkQ_at 0 (by decide +kernel)
set_option maxRecDepth 100000 in
theorem q_ck_131 : q_chk 6 (q_mR 131) false (q_mC 131) qP_X6_signOf = true := q_chkQ_at 0 (by decide +kernel)
set_option maxRecDepth 100000 in
theorem q_ck_132 : q_chk 6 (q_mR 132) false (q_mC 132) qP_X6_eRead = true := q_chkQ_at 0 (by decide +kernel)
set_option maxRecDepth 100000 in
theorem q_ck_133 : q_chk 6 (q_mR 133) false (q_mC 133) qP_X6_text = true := q_chkQ_at 0 (by decide +kernel)
set_option maxRecDepth 100000 in
theorem q_ck_134 : q_chk 6 (q_mR 134) false (q_mC 134) qP_X6_two = true := q_chkQ_at 0 (by decide +kernel)
set_option maxRecDepth 100000 in
theorem q_ck_135 : q_chk 6 (q_mR 135) false (q_mC 135) qP_X6_says = true := q_chkQ_at 0 (by decide +kernel)
set_option maxRecDepth 100000 in
theorem q_ck_136 : q_chk 6 (q_mR 136) false (q_mC 136) qP_X6_force = true := q_chkQ_at 0 (by decide +kernel)
set_option maxRecDepth 100000 in
theorem q_ck_137 : q_chk 6 (q_mR 137) false (q_mC 137) qP_X6_asksOf = true := q_chkQ_at 0 (by decide +kernel)
set_option maxRecDepth 100000 in
theorem q_ck_138 : q_chk 6 (q_mR 138) false (q_mC 138) qP_X6_asks = true := q_chkQ_at 0 (by decide +kernel)
set_option maxRecDepth 100000 in
theorem q_ck_139 : q_chk 6 (q_mR 139) false (q_mC 139) qP_X6_stone = true := q_chkQ_at 0 (by decide +kernel)
set_option maxRecDepth 100000 in
theorem q_ck_140 : q_chk 6 (q_mR 140) false (q_mC 140) qP_X6_put = true := q_chkQ_at 0 (by decide +kernel)
set_option maxRecDepth 100000 in
theorem q_ck_141 : q_chk 6 (q_mR 141) false (q_mC 141) qP_X6_likesOf = true := q_chkQ_at 0 (by decide +kernel)
set_option maxRecDepth 100000 in
theorem q_ck_142 : q_chk 6 (q_mR 142) false (q_mC 142) qP_X6_wantedOf = true := q_chkQ_at 0 (by decide +kernel)
set_option maxRecDepth 100000 in
theorem q_ck_143 : q_chk 6 (q_mR 143) false (q_mC 143) qP_X6_goesOf = true := q_chkQ_at 0 (by decide +kernel)
set_option maxRecDepth 100000 in
theorem q_ck_144 : q_chk 6 (q_mR 144) false (q_mC 144) qP_X6_wishOf = true := q_chkQ_at 0 (by decide +kernel)
set_option maxRecDepth 100000 in
theorem q_ck_145 : q_chk 6 (q_mR 145) false (q_mC 145) qP_X6_told = true := q_chkQ_at 0 (by decide +kernel)
set_option maxRecDepth 100000 in
theorem q_ck_146 : q_chk 6 (q_mR 146) false (q_mC 146) qP_X6_love = true := q_chkQ_at 0 (by decide +kernel)
set_option maxRecDepth 100000 in
theorem q_ck_147 : q_chk 6 (q_mR 147) false (q_mC 147) qP_X6_lastIn = true := q_chkQ_at 0 (by decide +kernel)
set_option maxRecDepth 100000 in
theorem q_ck_148 : q_chk 6 (q_mR 148) false (q_mC 148) qP_X6_isFullSite = true := q_chkQ_at 0 (by decide +kernel)
set_option maxRecDepth 100000 in
theorem q_ck_149 : q_chk 6 (q_mR 149) false (q_mC 149) qP_X6_doesTake = true := q_chkQ_at 0 (by decide +kernel)
set_option maxRecDepth 100000 in
theorem q_ck_150 : q_chk 6 (q_mR 150) false (q_mC 150) qP_X6_turnOf = true := q_chkQ_at 0 (by decide +kernel)
set_option maxRecDepth 100000 in
theorem q_ck_151 : q_chk 6 (q_mR 151) false (q_mC 151) qP_X6_yearOf = true := q_chkQ_at 0 (by decide +kernel)
set_option maxRecDepth 100000 in
theorem q_ck_152 : q_chk 6 (q_mR 152) false (q_mC 152) qP_X6_year = true := q_chkQ_at 0 (by decide +kernel)
set_option maxRecDepth 100000 in
theorem q_ck_153 : q_chk 6 (q_mR 153) false (q_mC 153) qP_X6_digitsNow = true := q_chkQ_at 0 (by decide +kernel)
set_option maxRecDepth 100000 in
theorem q_ck_154 : q_chk 6 (q_mR 154) false (q_mC 154) qP_X6_keeps = true := q_chkQ_at 0 (by decide +kernel)
set_option maxRecDepth 100000 in
theorem q_ck_155 : q_chk 6 (q_mR 155) false (q_mC 155) qP_X6_lays = true := q_chkQ_at 0 (by decide +kernel)
set_option maxRecDepth 100000 in
theorem q_ck_156 : q_chk 6 (q_mR 156) false (q_mC 156) qP_X6_run = true := q_chkQ_at 0 (by decide +kernel)
set_option maxRecDepth 100000 in
theorem q_ck_157 : q_chk 6 (q_mR 157) false (q_mC 157) qP_X6_whenIn = true := q_chkQ_at 0 (by decide +kernel)
set_option maxRecDepth 100000 in
theorem q_ck_158 : q_chk 6 (q_mR 158) false (q_mC 158) qP_X6_when = true := q_chkQ_at 0 (by decide +kernel)
set_option maxRecDepth 100000 in
theorem q_ck_159 : q_chk 6 (q_mR 159) false (q_mC 159) qP_X6_tellsAll = true := q_chkQ_at 0 (by decide +kernel)
set_option maxRecDepth 100000 in
theorem q_ck_160 : q_chk 6 (q_mR 160) false (q_mC 160) qP_X6_sitting = true := q_chkQ_at 0 (by decide +kernel)
set_option maxRecDepth 100000 in
theorem q_ck_161 : q_chk 6 (q_mR 161) false (q_mC 161) qP_X6_lastSitting = true := q_chkQ_at 0 (by decide +kernel)
set_option maxRecDepth 100000 in
theorem q_ck_162 : q_chk 6 (q_mR 162) false (q_mC 162) qP_X6_wouldTake = true := q_chkQ_at 0 (by decide +kernel)
set_option maxRecDepth 100000 in
theorem q_ck_163 : q_chk 6 (q_mR 163) false (q_mC 163) qP_X6_wouldRather = true := q_chkQ_at 0 (by decide +kernel)
set_option maxRecDepth 100000 in
theorem q_ck_164 : q_chk 6 (q_mR 164) false (q_mC 164) qP_X6_against = true := q_chkQ_at 0 (by decide +kernel)
set_option maxRecDepth 100000 in
theorem q_ck_165 : q_chk 6 (q_mR 165) false (q_mC 165) qP_X6_sumOf = true := q_chkQ_at 0 (by decide +kernel)
set_option maxRecDepth 100000 in
theorem q_ck_166 : q_chk 6 (q_mR 166) false (q_mC 166) qP_X6_sittingDigits = true := q_chkQ_at 0 (by decide +kernel)
set_option maxRecDepth 100000 in
theorem q_ck_167 : q_chk 6 (q_mR 167) false (q_mC 167) qP_X6_peace = true := q_chkQ_at 0 (by decide +kernel)
set_option maxRecDepth 100000 in
theorem q_ck_168 : q_chk 6 (q_mR 168) false (q_mC 168) qP_X6_nextAsked = true := q_chkQ_at 0 (by decide +kernel)
set_option maxRecDepth 100000 in
theorem q_ck_169 : q_chk 6 (q_mR 169) false (q_mC 169) qP_X6_asksOne = true := q_chkQ_at 0 (by decide +kernel)
set_option maxRecDepth 100000 in
theorem q_ck_170 : q_chk 6 (q_mR 170) false (q_mC 170) qP_X6_courts = true := q_chkQ_at 0 (by decide +kernel)
set_option maxRecDepth 100000 in
theorem q_ck_171 : q_chk 6 (q_mR 171) false (q_mC 171) qP_X6_court = true := q_chkQ_at 0 (by decide +kernel)
set_option maxRecDepth 100000 in
theorem q_ck_172 : q_chk 6 (q_mR 172) false (q_mC 172) qP_X6_sitsBy = true := q_chkQ_at 0 (by decide +kernel)
set_option maxRecDepth 100000 in
theorem q_ck_173 : q_chk 6 (q_mR 173) false (q_mC 173) qP_X6_tellsWays = true := q_chkQ_at 0 (by decide +kernel)
set_option maxRecDepth 100000 in
theorem q_ck_174 : q_chk 6 (q_mR 174) false (q_mC 174) qP_X6_all = true := q_chkQ_at 0 (by decide +kernel)
set_option maxRecDepth 100000 in
theorem q_ck_175 : q_chk 6 (q_mR 175) false (q_mC 175) qP_X6_annex = true := q_chkQ_at 0 (by decide +kernel)
set_option maxRecDepth 100000 in
theorem q_ck_176 : q_chk 6 (q_mR 176) false (q_mC 176) qP_X6_cart = true := q_chkQ_at 0 (by decide +kernel)
set_option maxRecDepth 100000 in
theorem q_ck_177 : q_chk 6 (q_mR 177) false (q_mC 177) qP_X6_lowest = true := q_chkQ_at 0 (by decide +kernel)
set_option maxRecDepth 100000 in
theorem q_ck_178 : q_chk 6 (q_mR 178) false (q_mC 178) qP_X6_share = true := q_chkQ_at 0 (by decide +kernel)
set_option maxRecDepth 100000 in
theorem q_ck_179 : q_chk 6 (q_mR 179) false (q_mC 179) qP_X6_sheetWrong = true := q_chkQ_at 0 (by decide +kernel)
set_option maxRecDepth 100000 in
theorem q_ck_180 : q_chk 6 (q_mR 180) false (q_mC 180) qP_X6_toldWrong = true := q_chkQ_at 0 (by decide +kernel)
set_option maxRecDepth 100000 in
theorem q_ck_181 : q_chk 6 (q_mR 181) false (q_mC 181) qP_X6_unlike = true := q_chkQ_at 0 (by decide +kernel)
set_option maxRecDepth 100000 in
theorem q_ck_182 : q_chk 6 (q_mR 182) false (q_mC 182) qP_X6_judge = true := q_chkQ_at 0 (by decide +kernel)
set_option maxRecDepth 100000 in
theorem q_ck_183 : q_chk 6 (q_mR 183) false (q_mC 183) qP_X6_kinds = true := q_chkQ_at 0 (by decide +kernel)
set_option maxRecDepth 100000 in
theorem q_ck_184 : q_chk 6 (q_mR 184) false (q_mC 184) qP_X6_states = true := q_chkQ_at 0 (by decide +kernel)
set_option maxRecDepth 100000 in
theorem q_ck_185 : q_chk 6 (q_mR 185) false (q_mC 185) qP_X6_whose = true := q_chkQ_at 0 (by decide +kernel)
set_option maxRecDepth 100000 in
theorem q_ck_186 : q_chk 6 (q_mR 186) false (q_mC 186) qP_X6_laws = true := q_chkQ_at 0 (by decide +kernel)
set_option maxRecDepth 100000 in
theorem q_ck_187 : q_chk 6 (q_mR 187) false (q_mC 187) qP_X6_film = true := q_chkQ_at 0 (by decide +kernel)
set_option maxRecDepth 100000 in
theorem q_ck_188 : q_chk 6 (q_mR 188) false (q_mC 188) qP_X6_weather = true := q_chkQ_at 0 (by decide +kernel)
set_option maxRecDepth 100000 in
theorem q_ck_189 : q_chk 6 (q_mR 189) false (q_mC 189) qP_X6_drawn = true := q_chkQ_at 0 (by decide +kernel)
set_option maxRecDepth 100000 in
theorem q_ck_190 : q_chk 6 (q_mR 190) false (q_mC 190) qP_X6_odds = true := q_chkQ_at 0 (by decide +kernel)
set_option maxRecDepth 100000 in
theorem q_ck_191 : q_chk 6 (q_mR 191) false (q_mC 191) qP_X6_image = true := q_chkQ_at 0 (by decide +kernel)
set_option maxRecDepth 100000 in
theorem q_ck_192 : q_chk 6 (q_mR 192) false (q_mC 192) qP_X6_back = true := q_chkQ_at 0 (by decide +kernel)
set_option maxRecDepth 100000 in
theorem q_ck_193 : q_chk 6 (q_mR 193) false (q_mC 193) qP_X6_sheet = true := q_chkQ_at 0 (by decide +kernel)
set_option maxRecDepth 100000 in
theorem q_ck_194 : q_chk 6 (q_mR 194) false (q_mC 194) qP_X6_cell = true := q_chkQ_at 0 (by decide +kernel)
set_option maxRecDepth 100000 in
theorem q_ck_195 : q_chk 6 (q_mR 195) false (q_mC 195) qP_X6_copy = true := q_chkQ_at 0 (by decide +kernel)
set_option maxRecDepth 100000 in
theorem q_ck_196 : q_chk 6 (q_mR 196) false (q_mC 196) qP_X6_stonesBy = true := q_chkQ_at 0 (by decide +kernel)
set_option maxRecDepth 100000 in
theorem q_ck_197 : q_chk 6 (q_mR 197) false (q_mC 197) qP_X6_isUnder = true := q_chkQ_at 0 (by decide +kernel)
set_option maxRecDepth 100000 in
theorem q_ck_198 : q_chk 6 (q_mR 198) false (q_mC 198) qP_X6_taken = true := q_chkQ_at 0 (by decide +kernel)
set_option maxRecDepth 100000 in
theorem q_ck_199 : q_chk 7 (q_mR 199) false (q_mC 199) qP_J0_length_8abf5 = true := q_chkQ_at 0 (by decide +kernel)
set_option maxRecDepth 100000 in
theorem q_ck_200 : q_chk 7 (q_mR 200) false (q_mC 200) qP_J0_charAt_5068e = true := q_chkQ_at 0 (by decide +kernel)
set_option maxRecDepth 100000 in
theorem q_ck_201 : q_chk 7 (q_mR 201) false (q_mC 201) qP_J0_coder_7d493 = true := q_chkQ_at 0 (by decide +kernel)
set_option maxRecDepth 100000 in
theorem q_ck_202 : q_chk 7 (q_mR 202) false (q_mC 202) qP_J0_isLatin1_aae02 = true := q_chkQ_at 0 (by decide +kernel)
set_option maxRecDepth 100000 in
theorem q_ck_203 : q_chk 8 (q_mR 203) false (q_mC 203) qP_J1_charAt_3b067 = true := q_chkQ_at 0 (by decide +kernel)
set_option maxRecDepth 100000 in
theorem q_ck_204 : q_chk 7 (q_mR 204) false (q_mC 204) qP_J0_checkIndex_df160 = true := q_chkQ_at 0 (by decide +kernel)
set_option maxRecDepth 100000 in
theorem q_ck_205 : q_chk 9 (q_mR 205) false (q_mC 205) qP_J3_checkIndex_8e157 = true := q_chkQ_at 0 (by decide +kernel)
set_option maxRecDepth 100000 in
theorem q_ck_206 : q_chk 11 (q_mR 206) false (q_mC 206) qP_J9_abs_0f7a4 = true := q_chkQ_at 0 (by decide +kernel)
set_option maxRecDepth 100000 in
theorem q_ck_207 : q_chk 11 (q_mR 207) false (q_mC 207) qP_J9_max_7cf53 = true := q_chkQ_at 0 (by decide +kernel)
set_option maxRecDepth 100000 in
theorem q_ck_208 : q_chk 11 (q_mR 208) false (q_mC 208) qP_J9_min_7cf53 = true := q_chkQ_at 0 (by decide +kernel)
set_option maxRecDepth 100000 in
theorem q_ck_law_0 : q_chk 10 (some .boolean) false code (qP_L_law.take 6) = true := q_chkQ_at 0 (by decide +kernel)
set_option maxRecDepth 100000 in
theorem q_ck_law_1 : q_chk 10 (some .boolean) false code ((qP_L_law.drop 6).take 6) = true := q_chkQ_at 281 (by decide +kernel)
set_option maxRecDepth 100000 in
theorem q_ck_law_2 : q_chk 10 (some .boolean) false code (((qP_L_law.drop 6).drop 6).take 6) = true := q_chkQ_at 468 (by decide +kernel)
set_option maxRecDepth 100000 in
theorem q_ck_law_3 : q_chk 10 (some .boolean) false code ((((qP_L_law.drop 6).drop 6).drop 6).take 6) = true := q_chkQ_at 676 (by decide +kernel)
set_option maxRecDepth 100000 in
theorem q_ck_law_4 : q_chk 10 (some .boolean) false code (((((qP_L_law.drop 6).drop 6).drop 6).drop 6).take 6) = true := q_chkQ_at 834 (by decide +kernel)
set_option maxRecDepth 100000 in
theorem q_ck_law_5 : q_chk 10 (some .boolean) false code ((((((qP_L_law.drop 6).drop 6).drop 6).drop 6).drop 6).take 6) = true := q_chkQ_at 1042 (by decide +kernel)
set_option maxRecDepth 100000 in
theorem q_ck_law_6 : q_chk 10 (some .boolean) false code (((((((qP_L_law.drop 6).drop 6).drop 6).drop 6).drop 6).drop 6).take 6) = true := q_chkQ_at 1240 (by decide +kernel)
set_option maxRecDepth 100000 in
theorem q_ck_law_7 : q_chk 10 (some .boolean) false code (((((((qP_L_law.drop 6).drop 6).drop 6).drop 6).drop 6).drop 6).drop 6) = true := q_chkQ_at 1438 (by decide +kernel)
theorem q_ck_law : q_chk 10 (some .boolean) false code qP_L_law = true := q_chk_split 6 q_ck_law_0 (q_chk_split 6 q_ck_law_1 (q_chk_split 6 q_ck_law_2 (q_chk_split 6 q_ck_law_3 (q_chk_split 6 q_ck_law_4 (q_chk_split 6 q_ck_law_5 (q_chk_split 6 q_ck_law_6 (q_ck_law_7)))))))
