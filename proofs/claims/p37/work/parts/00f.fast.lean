/-! ONE OPCODE OUT OF A LIST OF BYTES -/
abbrev q_DO : Type := Option (Instr × Nat × List UInt8)
def q_d0 (i : Instr) (r : List UInt8) : q_DO := some (i, 1, r)
def q_d1 (f : Nat → Instr) (r : List UInt8) : q_DO := match r with
  | b :: r => some (f b.toNat, 2, r)
  | [] => none
def q_ds1 (f : Int → Instr) (r : List UInt8) : q_DO := match r with
  | b :: r => some (f (Reader.signed 8 b.toNat), 2, r)
  | [] => none
def q_d2 (f : Nat → Instr) (r : List UInt8) : q_DO := match r with
  | b :: c :: r => some (f (b.toNat * 256 + c.toNat), 3, r)
  | _ => none
def q_ds2 (f : Int → Instr) (r : List UInt8) : q_DO := match r with
  | b :: c :: r => some (f (Reader.signed 16 (b.toNat * 256 + c.toNat)), 3, r)
  | _ => none
def q_dt (x : Nat) (r : List UInt8) : q_DO := bif Nat.ble x 87 then (bif Nat.ble x 33 then (bif Nat.ble x 18 then (bif Nat.ble x 7 then (bif Nat.ble x 4 then (bif Nat.ble x 2 then (bif Nat.beq x 2 then q_d0 (.iconst (-1)) r else none) else (bif Nat.ble x 3 then (bif Nat.beq x 3 then q_d0 (.iconst 0) r else none) else (bif Nat.beq x 4 then q_d0 (.iconst 1) r else none))) else (bif Nat.ble x 5 then (bif Nat.beq x 5 then q_d0 (.iconst 2) r else none) else (bif Nat.ble x 6 then (bif Nat.beq x 6 then q_d0 (.iconst 3) r else none) else (bif Nat.beq x 7 then q_d0 (.iconst 4) r else none)))) else (bif Nat.ble x 10 then (bif Nat.ble x 8 then (bif Nat.beq x 8 then q_d0 (.iconst 5) r else none) else (bif Nat.ble x 9 then (bif Nat.beq x 9 then q_d0 (.lconst 0) r else none) else (bif Nat.beq x 10 then q_d0 (.lconst 1) r else none))) else (bif Nat.ble x 16 then (bif Nat.beq x 16 then q_ds1 (fun n => .bipush n) r else none) else (bif Nat.ble x 17 then (bif Nat.beq x 17 then q_ds2 (fun n => .sipush n) r else none) else (bif Nat.beq x 18 then q_d1 (fun n => .ldc n) r else none))))) else (bif Nat.ble x 26 then (bif Nat.ble x 21 then (bif Nat.ble x 19 then (bif Nat.beq x 19 then q_d2 (fun n => .ldc_w n) r else none) else (bif Nat.ble x 20 then (bif Nat.beq x 20 then q_d2 (fun n => .ldc2_w n) r else none) else (bif Nat.beq x 21 then q_d1 (fun n => .iload n) r else none))) else (bif Nat.ble x 22 then (bif Nat.beq x 22 then q_d1 (fun n => .lload n) r else none) else (bif Nat.ble x 25 then (bif Nat.beq x 25 then q_d1 (fun n => .aload n) r else none) else (bif Nat.beq x 26 then q_d0 (.iload_n 0) r else none)))) else (bif Nat.ble x 29 then (bif Nat.ble x 27 then (bif Nat.beq x 27 then q_d0 (.iload_n 1) r else none) else (bif Nat.ble x 28 then (bif Nat.beq x 28 then q_d0 (.iload_n 2) r else none) else (bif Nat.beq x 29 then q_d0 (.iload_n 3) r else none))) else (bif Nat.ble x 31 then (bif Nat.ble x 30 then (bif Nat.beq x 30 then q_d0 (.lload_n 0) r else none) else (bif Nat.beq x 31 then q_d0 (.lload_n 1) r else none)) else (bif Nat.ble x 32 then (bif Nat.beq x 32 then q_d0 (.lload_n 2) r else none) else (bif Nat.beq x 33 then q_d0 (.lload_n 3) r else none)))))) else (bif Nat.ble x 60 then (bif Nat.ble x 50 then (bif Nat.ble x 44 then (bif Nat.ble x 42 then (bif Nat.beq x 42 then q_d0 (.aload_n 0) r else none) else (bif Nat.ble x 43 then (bif Nat.beq x 43 then q_d0 (.aload_n 1) r else none) else (bif Nat.beq x 44 then q_d0 (.aload_n 2) r else none))) else (bif Nat.ble x 45 then (bif Nat.beq x 45 then q_d0 (.aload_n 3) r else none) else (bif Nat.ble x 46 then (bif Nat.beq x 46 then q_d0 (.iaload) r else none) else (bif Nat.beq x 50 then q_d0 (.aaload) r else none)))) else (bif Nat.ble x 55 then (bif Nat.ble x 51 then (bif Nat.beq x 51 then q_d0 (.baload) r else none) else (bif Nat.ble x 54 then (bif Nat.beq x 54 then q_d1 (fun n => .istore n) r else none) else (bif Nat.beq x 55 then q_d1 (fun n => .lstore n) r else none))) else (bif Nat.ble x 58 then (bif Nat.beq x 58 then q_d1 (fun n => .astore n) r else none) else (bif Nat.ble x 59 then (bif Nat.beq x 59 then q_d0 (.istore_n 0) r else none) else (bif Nat.beq x 60 then q_d0 (.istore_n 1) r else none))))) else (bif Nat.ble x 66 then (bif Nat.ble x 63 then (bif Nat.ble x 61 then (bif Nat.beq x 61 then q_d0 (.istore_n 2) r else none) else (bif Nat.ble x 62 then (bif Nat.beq x 62 then q_d0 (.istore_n 3) r else none) else (bif Nat.beq x 63 then q_d0 (.lstore_n 0) r else none))) else (bif Nat.ble x 64 then (bif Nat.beq x 64 then q_d0 (.lstore_n 1) r else none) else (bif Nat.ble x 65 then (bif Nat.beq x 65 then q_d0 (.lstore_n 2) r else none) else (bif Nat.beq x 66 then q_d0 (.lstore_n 3) r else none)))) else (bif Nat.ble x 77 then (bif Nat.ble x 75 then (bif Nat.beq x 75 then q_d0 (.astore_n 0) r else none) else (bif Nat.ble x 76 then (bif Nat.beq x 76 then q_d0 (.astore_n 1) r else none) else (bif Nat.beq x 77 then q_d0 (.astore_n 2) r else none))) else (bif Nat.ble x 79 then (bif Nat.ble x 78 then (bif Nat.beq x 78 then q_d0 (.astore_n 3) r else none) else (bif Nat.beq x 79 then q_d0 (.iastore) r else none)) else (bif Nat.ble x 83 then (bif Nat.beq x 83 then q_d0 (.aastore) r else none) else (bif Nat.beq x 87 then q_d0 (.pop) r else none))))))) else (bif Nat.ble x 154 then (bif Nat.ble x 113 then (bif Nat.ble x 100 then (bif Nat.ble x 92 then (bif Nat.ble x 88 then (bif Nat.beq x 88 then q_d0 (.pop2) r else none) else (bif Nat.ble x 89 then (bif Nat.beq x 89 then q_d0 (.dup) r else none) else (bif Nat.beq x 92 then q_d0 (.dup2) r else none))) else (bif Nat.ble x 96 then (bif Nat.beq x 96 then q_d0 (.iadd) r else none) else (bif Nat.ble x 97 then (bif Nat.beq x 97 then q_d0 (.ladd) r else none) else (bif Nat.beq x 100 then q_d0 (.isub) r else none)))) else (bif Nat.ble x 108 then (bif Nat.ble x 104 then (bif Nat.beq x 104 then q_d0 (.imul) r else none) else (bif Nat.ble x 105 then (bif Nat.beq x 105 then q_d0 (.lmul) r else none) else (bif Nat.beq x 108 then q_d0 (.idiv) r else none))) else (bif Nat.ble x 109 then (bif Nat.beq x 109 then q_d0 (.ldiv) r else none) else (bif Nat.ble x 112 then (bif Nat.beq x 112 then q_d0 (.irem) r else none) else (bif Nat.beq x 113 then q_d0 (.lrem) r else none))))) else (bif Nat.ble x 133 then (bif Nat.ble x 122 then (bif Nat.ble x 116 then (bif Nat.beq x 116 then q_d0 (.ineg) r else none) else (bif Nat.ble x 120 then (bif Nat.beq x 120 then q_d0 (.ishl) r else none) else (bif Nat.beq x 122 then q_d0 (.ishr) r else none))) else (bif Nat.ble x 126 then (bif Nat.beq x 126 then q_d0 (.iand) r else none) else (bif Nat.ble x 128 then (bif Nat.beq x 128 then q_d0 (.ior) r else none) else (bif Nat.beq x 133 then q_d0 (.i2l) r else none)))) else (bif Nat.ble x 146 then (bif Nat.ble x 136 then (bif Nat.beq x 136 then q_d0 (.l2i) r else none) else (bif Nat.ble x 145 then (bif Nat.beq x 145 then q_d0 (.i2b) r else none) else (bif Nat.beq x 146 then q_d0 (.i2c) r else none))) else (bif Nat.ble x 148 then (bif Nat.ble x 147 then (bif Nat.beq x 147 then q_d0 (.i2s) r else none) else (bif Nat.beq x 148 then q_d0 (.lcmp) r else none)) else (bif Nat.ble x 153 then (bif Nat.beq x 153 then q_ds2 (fun n => .ifCond .eq n) r else none) else (bif Nat.beq x 154 then q_ds2 (fun n => .ifCond .ne n) r else none)))))) else (bif Nat.ble x 173 then (bif Nat.ble x 160 then (bif Nat.ble x 157 then (bif Nat.ble x 155 then (bif Nat.beq x 155 then q_ds2 (fun n => .ifCond .lt n) r else none) else (bif Nat.ble x 156 then (bif Nat.beq x 156 then q_ds2 (fun n => .ifCond .ge n) r else none) else (bif Nat.beq x 157 then q_ds2 (fun n => .ifCond .gt n) r else none))) else (bif Nat.ble x 158 then (bif Nat.beq x 158 then q_ds2 (fun n => .ifCond .le n) r else none) else (bif Nat.ble x 159 then (bif Nat.beq x 159 then q_ds2 (fun n => .if_icmp .eq n) r else none) else (bif Nat.beq x 160 then q_ds2 (fun n => .if_icmp .ne n) r else none)))) else (bif Nat.ble x 163 then (bif Nat.ble x 161 then (bif Nat.beq x 161 then q_ds2 (fun n => .if_icmp .lt n) r else none) else (bif Nat.ble x 162 then (bif Nat.beq x 162 then q_ds2 (fun n => .if_icmp .ge n) r else none) else (bif Nat.beq x 163 then q_ds2 (fun n => .if_icmp .gt n) r else none))) else (bif Nat.ble x 167 then (bif Nat.ble x 164 then (bif Nat.beq x 164 then q_ds2 (fun n => .if_icmp .le n) r else none) else (bif Nat.beq x 167 then q_ds2 (fun n => .goto n) r else none)) else (bif Nat.ble x 172 then (bif Nat.beq x 172 then q_d0 (.ireturn) r else none) else (bif Nat.beq x 173 then q_d0 (.lreturn) r else none))))) else (bif Nat.ble x 182 then (bif Nat.ble x 178 then (bif Nat.ble x 176 then (bif Nat.beq x 176 then q_d0 (.areturn) r else none) else (bif Nat.ble x 177 then (bif Nat.beq x 177 then q_d0 (.return_) r else none) else (bif Nat.beq x 178 then q_d2 (fun n => .getstatic n) r else none))) else (bif Nat.ble x 180 then (bif Nat.beq x 180 then q_d2 (fun n => .getfield n) r else none) else (bif Nat.ble x 181 then (bif Nat.beq x 181 then q_d2 (fun n => .putfield n) r else none) else (bif Nat.beq x 182 then q_d2 (fun n => .invokevirtual n) r else none)))) else (bif Nat.ble x 187 then (bif Nat.ble x 183 then (bif Nat.beq x 183 then q_d2 (fun n => .invokespecial n) r else none) else (bif Nat.ble x 184 then (bif Nat.beq x 184 then q_d2 (fun n => .invokestatic n) r else none) else (bif Nat.beq x 187 then q_d2 (fun n => .new n) r else none))) else (bif Nat.ble x 190 then (bif Nat.ble x 189 then (bif Nat.beq x 189 then q_d2 (fun n => .anewarray n) r else none) else (bif Nat.beq x 190 then q_d0 (.arraylength) r else none)) else (bif Nat.ble x 191 then (bif Nat.beq x 191 then q_d0 (.athrow) r else none) else (bif Nat.beq x 192 then q_d2 (fun n => .checkcast n) r else none)))))))
def q_dl (l : List UInt8) : q_DO := match l with
  | b :: r => q_dt b.toNat r
  | [] => none
theorem q_dropc : ∀ (l : List UInt8) (p : Nat) (b : UInt8) (r : List UInt8), l.drop p = b :: r → ∃ h : p < l.length, l[p] = b ∧ l.drop (p + 1) = r
  | [], 0, b, r, h => by cases h
  | [], p + 1, b, r, h => by cases h
  | a :: l, 0, b, r, h => by
    have h : a :: l = b :: r := h
    injection h with h1 h2
    exact ⟨Nat.succ_pos _, h1, h2⟩
  | a :: l, p + 1, b, r, h => by
    obtain ⟨h1, h2, h3⟩ := q_dropc l p b r h
    exact ⟨Nat.succ_lt_succ h1, h2, h3⟩
section FT
variable {A : ByteArray} {pc p : Nat} {r : List UInt8}
theorem q_u1e (h : p < A.size) : (Reader.u1 : Reader DecodeError Nat) A p = .ok (A[p].toNat, p + 1) := by
  show (if h : p < A.size then (do set (p + 1); pure A[p].toNat : Reader DecodeError Nat) else throw (HasTruncated.truncated p)) A p = _
  rw [dif_pos h]
  rfl
theorem q_lu1 {b : UInt8} (h : A.data.toList.drop p = b :: r) : (Reader.u1 : Reader DecodeError Nat) A p = .ok (b.toNat, p + 1) ∧ A.data.toList.drop (p + 1) = r := by
  obtain ⟨h1, h2, h3⟩ := q_dropc _ _ _ _ h
  have hs : p < A.size := by
    have e : A.data.toList.length = A.data.size := Array.length_toList
    show p < A.data.size
    omega
  have h4 : A[p] = b := by
    show A.data[p]'hs = b
    rw [← Array.getElem_toList]
    exact h2
  refine ⟨?_, h3⟩
  rw [q_u1e hs, h4]
theorem q_lu2 {b c : UInt8} (h : A.data.toList.drop p = b :: c :: r) : (Reader.u2 : Reader DecodeError Nat) A p = .ok (b.toNat * 256 + c.toNat, p + 2) ∧ A.data.toList.drop (p + 2) = r := by
  obtain ⟨e1, h2⟩ := q_lu1 h
  obtain ⟨e3, h4⟩ := q_lu1 h2
  refine ⟨?_, h4⟩
  show Except.bind ((Reader.u1 : Reader DecodeError Nat) A p) (fun a => Except.bind ((Reader.u1 : Reader DecodeError Nat) A a.2) (fun d => (Except.ok (a.1 * 256 + d.1, d.2) : Except DecodeError (Nat × Nat)))) = _
  rw [e1]
  show Except.bind ((Reader.u1 : Reader DecodeError Nat) A (p + 1)) (fun d => (Except.ok (b.toNat * 256 + d.1, d.2) : Except DecodeError (Nat × Nat))) = _
  rw [e3]
  rfl
theorem q_ls1 {b : UInt8} (h : A.data.toList.drop p = b :: r) : (Reader.s1 : Reader DecodeError Int) A p = .ok (Reader.signed 8 b.toNat, p + 1) := by
  show Except.bind ((Reader.u1 : Reader DecodeError Nat) A p) (fun a => (Except.ok (Reader.signed 8 a.1, a.2) : Except DecodeError (Int × Nat))) = _
  rw [(q_lu1 h).1]
  rfl
theorem q_ls2 {b c : UInt8} (h : A.data.toList.drop p = b :: c :: r) : (Reader.s2 : Reader DecodeError Int) A p = .ok (Reader.signed 16 (b.toNat * 256 + c.toNat), p + 2) := by
  show Except.bind ((Reader.u2 : Reader DecodeError Nat) A p) (fun a => (Except.ok (Reader.signed 16 a.1, a.2) : Except DecodeError (Int × Nat))) = _
  rw [(q_lu2 h).1]
  rfl
theorem q_rd1 {α : Type} {R : Reader DecodeError α} {f : α → Instr} {v : α} {m : Nat} (h : R A p = .ok (v, m)) : (R >>= fun x => pure (f x) : Reader DecodeError Instr) A p = .ok (f v, m) := by
  show Except.bind (R A p) (fun a => (Except.ok (f a.1, a.2) : Except DecodeError (Instr × Nat))) = _
  rw [h]
  rfl
def q_Dr (A : ByteArray) (pc : Nat) (rd : Reader DecodeError Instr) (y : q_DO) : Prop := ∀ (i : Instr) (n : Nat) (r : List UInt8), y = some (i, n, r) → rd A (pc + 1) = .ok (i, pc + n) ∧ A.data.toList.drop (pc + n) = r
theorem q_d0_ok (hr : A.data.toList.drop (pc + 1) = r) {i : Instr} : q_Dr A pc (pure i) (q_d0 i r) := fun j n s h => by
  have h : some (i, 1, r) = some (j, n, s) := h
  injection h with h
  injection h with h1 h2
  injection h2 with h2 h3
  subst h1
  subst h2
  subst h3
  exact ⟨rfl, hr⟩
theorem q_d1_ok (hr : A.data.toList.drop (pc + 1) = r) {f : Nat → Instr} : q_Dr A pc (Reader.u1 >>= fun x => pure (f x)) (q_d1 f r) := fun j n s h => by
  cases r with
  | nil => cases h
  | cons b r =>
    have h : some (f b.toNat, 2, r) = some (j, n, s) := h
    injection h with h
    injection h with h1 h2
    injection h2 with h2 h3
    subst h1
    subst h2
    subst h3
    exact ⟨q_rd1 (q_lu1 hr).1, (q_lu1 hr).2⟩
theorem q_ds1_ok (hr : A.data.toList.drop (pc + 1) = r) {f : Int → Instr} : q_Dr A pc (Reader.s1 >>= fun x => pure (f x)) (q_ds1 f r) := fun j n s h => by
  cases r with
  | nil => cases h
  | cons b r =>
    have h : some (f (Reader.signed 8 b.toNat), 2, r) = some (j, n, s) := h
    injection h with h
    injection h with h1 h2
    injection h2 with h2 h3
    subst h1
    subst h2
    subst h3
    exact ⟨q_rd1 (q_ls1 hr), (q_lu1 hr).2⟩
theorem q_d2_ok (hr : A.data.toList.drop (pc + 1) = r) {f : Nat → Instr} : q_Dr A pc (Reader.u2 >>= fun x => pure (f x)) (q_d2 f r) := fun j n s h => by
  cases r with
  | nil => cases h
  | cons b r =>
    cases r with
    | nil => cases h
    | cons c r =>
      have h : some (f (b.toNat * 256 + c.toNat), 3, r) = some (j, n, s) := h
      injection h with h
      injection h with h1 h2
      injection h2 with h2 h3
      subst h1
      subst h2
      subst h3
      exact ⟨q_rd1 (q_lu2 hr).1, (q_lu2 hr).2⟩
theorem q_ds2_ok (hr : A.data.toList.drop (pc + 1) = r) {f : Int → Instr} : q_Dr A pc (Reader.s2 >>= fun x => pure (f x)) (q_ds2 f r) := fun j n s h => by
  cases r with
  | nil => cases h
  | cons b r =>
    cases r with
    | nil => cases h
    | cons c r =>
      have h : some (f (Reader.signed 16 (b.toNat * 256 + c.toNat)), 3, r) = some (j, n, s) := h
      injection h with h
      injection h with h1 h2
      injection h2 with h2 h3
      subst h1
      subst h2
      subst h3
      exact ⟨q_rd1 (q_ls2 hr), (q_lu2 hr).2⟩
theorem q_Dr_b {c : Bool} {rd : Reader DecodeError Instr} {y z : q_DO} (h1 : q_Dr A pc rd y) (h2 : q_Dr A pc rd z) : q_Dr A pc rd (bif c then y else z) := by
  cases c
  · exact h2
  · exact h1
theorem q_Dr_l {x k : Nat} {rd : Reader DecodeError Instr} {y : q_DO} (h : x = k → q_Dr A pc rd y) : q_Dr A pc rd (bif Nat.beq x k then y else none) := by
  cases hc : Nat.beq x k with
  | false =>
    intro i n r h
    have h : (none : q_DO) = some (i, n, r) := h
    cases h
  | true => exact h (Nat.eq_of_beq_eq_true hc)
theorem q_Dr_u {F : Nat → Reader DecodeError Instr} {b : UInt8} {y : q_DO} (h : A.data.toList.drop pc = b :: r) (k : q_Dr A pc (F b.toNat) y) {i : Instr} {n : Nat} {s : List UInt8} (hy : y = some (i, n, s)) : (Reader.u1 >>= F : Reader DecodeError Instr) A pc = .ok (i, pc + n) ∧ A.data.toList.drop (pc + n) = s := by
  obtain ⟨k1, k2⟩ := k i n s hy
  refine ⟨?_, k2⟩
  show Except.bind ((Reader.u1 : Reader DecodeError Nat) A pc) (fun a => F a.1 A a.2) = _
  rw [(q_lu1 h).1]
  exact k1
set_option maxRecDepth 100000 in
set_option maxHeartbeats 8000000 in
theorem q_dt_ok {b : UInt8} (hl : A.data.toList.drop pc = b :: r) {i : Instr} {n : Nat} {s : List UInt8} (hy : q_dt b.toNat r = some (i, n, s)) : Decoder.instr pc A pc = .ok (i, pc + n) ∧ A.data.toList.drop (pc + n) = s := by
  have hr := (q_lu1 hl).2
  unfold Decoder.instr
  refine q_Dr_u hl ?_ hy
  generalize b.toNat = x
  unfold q_dt
  exact q_Dr_b (q_Dr_b (q_Dr_b (q_Dr_b (q_Dr_b (q_Dr_b (q_Dr_l (fun h => by subst h; exact q_d0_ok hr)) (q_Dr_b (q_Dr_l (fun h => by subst h; exact q_d0_ok hr)) (q_Dr_l (fun h => by subst h; exact q_d0_ok hr)))) (q_Dr_b (q_Dr_l (fun h => by subst h; exact q_d0_ok hr)) (q_Dr_b (q_Dr_l (fun h => by subst h; exact q_d0_ok hr)) (q_Dr_l (fun h => by subst h; exact q_d0_ok hr))))) (q_Dr_b (q_Dr_b (q_Dr_l (fun h => by subst h; exact q_d0_ok hr)) (q_Dr_b (q_Dr_l (fun h => by subst h; exact q_d0_ok hr)) (q_Dr_l (fun h => by subst h; exact q_d0_ok hr)))) (q_Dr_b (q_Dr_l (fun h => by subst h; exact q_ds1_ok hr)) (q_Dr_b (q_Dr_l (fun h => by subst h; exact q_ds2_ok hr)) (q_Dr_l (fun h => by subst h; exact q_d1_ok hr)))))) (q_Dr_b (q_Dr_b (q_Dr_b (q_Dr_l (fun h => by subst h; exact q_d2_ok hr)) (q_Dr_b (q_Dr_l (fun h => by subst h; exact q_d2_ok hr)) (q_Dr_l (fun h => by subst h; exact q_d1_ok hr)))) (q_Dr_b (q_Dr_l (fun h => by subst h; exact q_d1_ok hr)) (q_Dr_b (q_Dr_l (fun h => by subst h; exact q_d1_ok hr)) (q_Dr_l (fun h => by subst h; exact q_d0_ok hr))))) (q_Dr_b (q_Dr_b (q_Dr_l (fun h => by subst h; exact q_d0_ok hr)) (q_Dr_b (q_Dr_l (fun h => by subst h; exact q_d0_ok hr)) (q_Dr_l (fun h => by subst h; exact q_d0_ok hr)))) (q_Dr_b (q_Dr_b (q_Dr_l (fun h => by subst h; exact q_d0_ok hr)) (q_Dr_l (fun h => by subst h; exact q_d0_ok hr))) (q_Dr_b (q_Dr_l (fun h => by subst h; exact q_d0_ok hr)) (q_Dr_l (fun h => by subst h; exact q_d0_ok hr))))))) (q_Dr_b (q_Dr_b (q_Dr_b (q_Dr_b (q_Dr_l (fun h => by subst h; exact q_d0_ok hr)) (q_Dr_b (q_Dr_l (fun h => by subst h; exact q_d0_ok hr)) (q_Dr_l (fun h => by subst h; exact q_d0_ok hr)))) (q_Dr_b (q_Dr_l (fun h => by subst h; exact q_d0_ok hr)) (q_Dr_b (q_Dr_l (fun h => by subst h; exact q_d0_ok hr)) (q_Dr_l (fun h => by subst h; exact q_d0_ok hr))))) (q_Dr_b (q_Dr_b (q_Dr_l (fun h => by subst h; exact q_d0_ok hr)) (q_Dr_b (q_Dr_l (fun h => by subst h; exact q_d1_ok hr)) (q_Dr_l (fun h => by subst h; exact q_d1_ok hr)))) (q_Dr_b (q_Dr_l (fun h => by subst h; exact q_d1_ok hr)) (q_Dr_b (q_Dr_l (fun h => by subst h; exact q_d0_ok hr)) (q_Dr_l (fun h => by subst h; exact q_d0_ok hr)))))) (q_Dr_b (q_Dr_b (q_Dr_b (q_Dr_l (fun h => by subst h; exact q_d0_ok hr)) (q_Dr_b (q_Dr_l (fun h => by subst h; exact q_d0_ok hr)) (q_Dr_l (fun h => by subst h; exact q_d0_ok hr)))) (q_Dr_b (q_Dr_l (fun h => by subst h; exact q_d0_ok hr)) (q_Dr_b (q_Dr_l (fun h => by subst h; exact q_d0_ok hr)) (q_Dr_l (fun h => by subst h; exact q_d0_ok hr))))) (q_Dr_b (q_Dr_b (q_Dr_l (fun h => by subst h; exact q_d0_ok hr)) (q_Dr_b (q_Dr_l (fun h => by subst h; exact q_d0_ok hr)) (q_Dr_l (fun h => by subst h; exact q_d0_ok hr)))) (q_Dr_b (q_Dr_b (q_Dr_l (fun h => by subst h; exact q_d0_ok hr)) (q_Dr_l (fun h => by subst h; exact q_d0_ok hr))) (q_Dr_b (q_Dr_l (fun h => by subst h; exact q_d0_ok hr)) (q_Dr_l (fun h => by subst h; exact q_d0_ok hr)))))))) (q_Dr_b (q_Dr_b (q_Dr_b (q_Dr_b (q_Dr_b (q_Dr_l (fun h => by subst h; exact q_d0_ok hr)) (q_Dr_b (q_Dr_l (fun h => by subst h; exact q_d0_ok hr)) (q_Dr_l (fun h => by subst h; exact q_d0_ok hr)))) (q_Dr_b (q_Dr_l (fun h => by subst h; exact q_d0_ok hr)) (q_Dr_b (q_Dr_l (fun h => by subst h; exact q_d0_ok hr)) (q_Dr_l (fun h => by subst h; exact q_d0_ok hr))))) (q_Dr_b (q_Dr_b (q_Dr_l (fun h => by subst h; exact q_d0_ok hr)) (q_Dr_b (q_Dr_l (fun h => by subst h; exact q_d0_ok hr)) (q_Dr_l (fun h => by subst h; exact q_d0_ok hr)))) (q_Dr_b (q_Dr_l (fun h => by subst h; exact q_d0_ok hr)) (q_Dr_b (q_Dr_l (fun h => by subst h; exact q_d0_ok hr)) (q_Dr_l (fun h => by subst h; exact q_d0_ok hr)))))) (q_Dr_b (q_Dr_b (q_Dr_b (q_Dr_l (fun h => by subst h; exact q_d0_ok hr)) (q_Dr_b (q_Dr_l (fun h => by subst h; exact q_d0_ok hr)) (q_Dr_l (fun h => by subst h; exact q_d0_ok hr)))) (q_Dr_b (q_Dr_l (fun h => by subst h; exact q_d0_ok hr)) (q_Dr_b (q_Dr_l (fun h => by subst h; exact q_d0_ok hr)) (q_Dr_l (fun h => by subst h; exact q_d0_ok hr))))) (q_Dr_b (q_Dr_b (q_Dr_l (fun h => by subst h; exact q_d0_ok hr)) (q_Dr_b (q_Dr_l (fun h => by subst h; exact q_d0_ok hr)) (q_Dr_l (fun h => by subst h; exact q_d0_ok hr)))) (q_Dr_b (q_Dr_b (q_Dr_l (fun h => by subst h; exact q_d0_ok hr)) (q_Dr_l (fun h => by subst h; exact q_d0_ok hr))) (q_Dr_b (q_Dr_l (fun h => by subst h; exact q_ds2_ok hr)) (q_Dr_l (fun h => by subst h; exact q_ds2_ok hr))))))) (q_Dr_b (q_Dr_b (q_Dr_b (q_Dr_b (q_Dr_l (fun h => by subst h; exact q_ds2_ok hr)) (q_Dr_b (q_Dr_l (fun h => by subst h; exact q_ds2_ok hr)) (q_Dr_l (fun h => by subst h; exact q_ds2_ok hr)))) (q_Dr_b (q_Dr_l (fun h => by subst h; exact q_ds2_ok hr)) (q_Dr_b (q_Dr_l (fun h => by subst h; exact q_ds2_ok hr)) (q_Dr_l (fun h => by subst h; exact q_ds2_ok hr))))) (q_Dr_b (q_Dr_b (q_Dr_l (fun h => by subst h; exact q_ds2_ok hr)) (q_Dr_b (q_Dr_l (fun h => by subst h; exact q_ds2_ok hr)) (q_Dr_l (fun h => by subst h; exact q_ds2_ok hr)))) (q_Dr_b (q_Dr_b (q_Dr_l (fun h => by subst h; exact q_ds2_ok hr)) (q_Dr_l (fun h => by subst h; exact q_ds2_ok hr))) (q_Dr_b (q_Dr_l (fun h => by subst h; exact q_d0_ok hr)) (q_Dr_l (fun h => by subst h; exact q_d0_ok hr)))))) (q_Dr_b (q_Dr_b (q_Dr_b (q_Dr_l (fun h => by subst h; exact q_d0_ok hr)) (q_Dr_b (q_Dr_l (fun h => by subst h; exact q_d0_ok hr)) (q_Dr_l (fun h => by subst h; exact q_d2_ok hr)))) (q_Dr_b (q_Dr_l (fun h => by subst h; exact q_d2_ok hr)) (q_Dr_b (q_Dr_l (fun h => by subst h; exact q_d2_ok hr)) (q_Dr_l (fun h => by subst h; exact q_d2_ok hr))))) (q_Dr_b (q_Dr_b (q_Dr_l (fun h => by subst h; exact q_d2_ok hr)) (q_Dr_b (q_Dr_l (fun h => by subst h; exact q_d2_ok hr)) (q_Dr_l (fun h => by subst h; exact q_d2_ok hr)))) (q_Dr_b (q_Dr_b (q_Dr_l (fun h => by subst h; exact q_d2_ok hr)) (q_Dr_l (fun h => by subst h; exact q_d0_ok hr))) (q_Dr_b (q_Dr_l (fun h => by subst h; exact q_d0_ok hr)) (q_Dr_l (fun h => by subst h; exact q_d2_ok hr))))))))
theorem q_dl_ok {l : List UInt8} (hl : A.data.toList.drop pc = l) {i : Instr} {n : Nat} {s : List UInt8} (hy : q_dl l = some (i, n, s)) : Jvm.ClassFile.decode A pc = .ok (i, n) ∧ A.data.toList.drop (pc + n) = s := by
  cases l with
  | nil => cases hy
  | cons b r =>
    obtain ⟨k1, k2⟩ := q_dt_ok hl hy
    refine ⟨?_, k2⟩
    show Except.bind ((Decoder.instr pc) A pc) (fun a => (Except.ok (a.1, a.2 - pc) : Except DecodeError (Instr × Nat))) = _
    rw [k1]
    show (Except.ok (i, pc + n - pc) : Except DecodeError (Instr × Nat)) = _
    rw [Nat.add_sub_cancel_left]
end FT
