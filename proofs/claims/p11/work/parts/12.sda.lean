/-! ONE OPCODE OF THE MACHINE AFTER ANOTHER -/
def q_Wo (D : va_G) (C : q_CI) (L : Nat) (xs : Nat → Int32) (sb md : Nat) (ad : Nat → Nat) (n : Nat) (M : q_M) (H0 H : Heap) (locs : List Loc) : Prop :=
  va_P D vwCl (q_W md ad C n M) H ∧ va_D (q_A sb) (q_W md ad C n M) ∧ q_ok md n M ∧ q_scr L xs M ∧ n ≤ 1000000 ∧ va_S (q_A sb) H0 H locs
def q_B (p : Program) (l : Launch) (e : Env) (R : Room) (s : State) (m : MethodId) (args : Array Value) (below : List Frame) (meth : Method) (c : Code) (cc : ByteArray) (D : va_G) (C : q_CI) (b L : Nat) (xs : Nat → Int32) (adK adV : Nat → Nat) (sb md d ow nL : Nat) (rt : Option FieldType) (ini : Bool) (k0 k1 : Nat)
    (ls st : List q_V) (g : q_G) (M : q_M) (ad : Nat → Nat) (H : Heap) (locs : List Loc) (lsr : Array Slot) (str : List Value) (cells slots pc len : Nat) (raw : Instr) : Prop :=
  (p.tables.exec = Jvm.exec ∧ c.code = cc ∧ c.maxLocals = nL ∧ meth.sig.returnType = rt ∧ meth.locks = false ∧ s.vm.findClass (q_cls ow) = some m.cls ∧ (∀ w ∈ q_Lw, w.before args s = true) ∧ (ini = true → meth.name = "<init>") ∧ q_Env D C b L xs adK adV sb s ∧ d + 1 ≤ R.frames ∧ 64 * (d + 1) ≤ R.locals) ∧
  q_Wo D C L xs sb md ad g.1 M s.heap H locs ∧ q_lr ad adK adV b g.1 nL ls lsr ∧ q_vrs ad adK adV b g.1 st str ∧ k0 + cells = g.1 ∧ k1 + slots = g.2 ∧ decode cc pc = .ok (raw, len)
def q_Kt (p : Program) (l : Launch) (e : Env) (R : Room) (s : State) (m : MethodId) (args : Array Value) (below : List Frame) (meth : Method) (c : Code) (D : va_G) (C : q_CI) (b L : Nat) (xs : Nat → Int32) (adK adV : Nat → Nat) (sb md nL : Nat) (k0 k1 : Nat) (Qz : State → Prop) (nx : Nat) (ops : List Instr) (n0 : Nat) (ad : Nat → Nat) (pc len : Nat) (c' : q_C) : Prop :=
  ∀ (ad' : Nat → Nat) (H' : Heap) (locs' : List Loc) (lsr' : Array Slot) (str' : List Value) (cells' slots' pc' : Nat), q_Wo D C L xs sb md ad' c'.2.2.2.2.1.1 c'.2.2.2.2.2 s.heap H' locs' → q_lr ad' adK adV b c'.2.2.2.2.1.1 nL c'.2.2.1 lsr' → q_vrs ad' adK adV b c'.2.2.2.2.1.1 c'.2.2.2.1 str' →
    k0 + cells' = c'.2.2.2.2.1.1 → k1 + slots' = c'.2.2.2.2.1.2 → (∀ x, x < n0 → ad' x = ad x) → ((c'.2.1 = ops ∧ c'.1 = nx ∧ pc' = pc + len) ∨ (c'.2.1 = [] ∧ pc' = c'.1)) → W p l e R s m args below meth c H' locs' cells' slots' Qz (F0 m pc' lsr' str')
theorem q_go_inj {nx nx' : Nat} {ops ops' : List Instr} {ls st ls' st' : List q_V} {g g' : q_G} {M M' : q_M} (h : q_go nx ops ls st g M = some (.inl (nx', ops', ls', st', g', M'))) : nx = nx' ∧ ops = ops' ∧ ls = ls' ∧ st = st' ∧ g = g' ∧ M = M' := by
  simp only [q_go, Option.some.injEq, Sum.inl.injEq, Prod.mk.injEq] at h
  exact h
theorem q_ii_inv {α : Type} {st : List q_V} {k : Int → List q_V → Option α} {r : α} (h : q_ii st k = some r) : ∃ x st', st = qI x :: st' ∧ k x st' = some r := by
  unfold q_ii at h
  split at h
  · exact ⟨_, _, rfl, h⟩
  · cases h
theorem q_ll_inv {α : Type} {st : List q_V} {k : Int → List q_V → Option α} {r : α} (h : q_ll st k = some r) : ∃ x st', st = qL x :: st' ∧ k x st' = some r := by
  unfold q_ll at h
  split at h
  · exact ⟨_, _, rfl, h⟩
  · cases h
theorem q_rr_inv {α : Type} {st : List q_V} {k : Nat → Nat → List q_V → Option α} {r : α} (h : q_rr st k = some r) : ∃ c a st', st = qR c a :: st' ∧ k c a st' = some r := by
  unfold q_rr at h
  split at h
  · exact ⟨_, _, _, rfl, h⟩
  · cases h
theorem q_vv_inv {α : Type} {st : List q_V} {k : q_V → List q_V → Option α} {r : α} (h : q_vv st k = some r) : ∃ v st', st = v :: st' ∧ k v st' = some r := by
  unfold q_vv at h
  split at h
  · exact ⟨_, _, rfl, h⟩
  · cases h
theorem q_if_inv {α : Type} {c : Prop} [Decidable c] {a : Option α} {r : α} (h : (if c then a else none) = some r) : c ∧ a = some r := by
  by_cases hc : c
  · rw [if_pos hc] at h; exact ⟨hc, h⟩
  · rw [if_neg hc] at h; cases h
theorem q_vr_i {ad adK adV : Nat → Nat} {b n : Nat} {x : Int} {r : Value} (h : q_vr ad adK adV b n (qI x) r) : ∃ X : Int32, r = .int X ∧ x = X.toInt := by
  obtain ⟨X, h1, h2⟩ := h
  exact ⟨X, h1, h2.symm⟩
theorem q_vr_l {ad adK adV : Nat → Nat} {b n : Nat} {x : Int} {r : Value} (h : q_vr ad adK adV b n (qL x) r) : ∃ X : Int64, r = .long X ∧ x = X.toInt := by
  obtain ⟨X, h1, h2⟩ := h
  exact ⟨X, h1, h2.symm⟩
theorem q_mk_i {ad adK adV : Nat → Nat} {b n : Nat} (X : Int32) : q_vr ad adK adV b n (qI X.toInt) (.int X) := ⟨X, rfl, rfl⟩
theorem q_mk_l {ad adK adV : Nat → Nat} {b n : Nat} (X : Int64) : q_vr ad adK adV b n (qL X.toInt) (.long X) := ⟨X, rfl, rfl⟩
section SDA
variable {p : Program} {l : Launch} {e : Env} {R : Room} {s : State} {m : MethodId} {args : Array Value} {below : List Frame} {meth : Method} {c : Code} {cc : ByteArray} {D : va_G} {C : q_CI} {b L : Nat} {xs : Nat → Int32} {adK adV : Nat → Nat} {sb md d ow nL : Nat} {rt : Option FieldType} {ini : Bool} {k0 k1 : Nat} {Qz : State → Prop} {nx : Nat} {ops : List Instr} {n0 : Nat}
  {ls st : List q_V} {g : q_G} {M : q_M} {ad : Nat → Nat} {H : Heap} {locs : List Loc} {lsr : Array Slot} {str : List Value} {cells slots pc len : Nat} {op : Instr} {c' : q_C}
theorem q_sd_int {raw : Instr} {X : Int32} (hB : q_B p l e R s m args below meth c cc D C b L xs adK adV sb md d ow nL rt ini k0 k1 ls st g M ad H locs lsr str cells slots pc len raw)
    (hres : q_go nx ops ls (qI X.toInt :: st) g M = some (.inl c')) (hK : q_Kt p l e R s m args below meth c D C b L xs adK adV sb md nL k0 k1 Qz nx ops n0 ad pc len c')
    (hrow : W p l e R s m args below meth c H locs cells slots Qz (F0 m (pc + len) lsr (.int X :: str)) → W p l e R s m args below meth c H locs cells slots Qz (F0 m pc lsr str)) : W p l e R s m args below meth c H locs cells slots Qz (F0 m pc lsr str) := by
  obtain ⟨nx', ops', ls', st', g', M'⟩ := c'
  obtain ⟨rfl, rfl, rfl, rfl, rfl, rfl⟩ := q_go_inj hres
  exact hrow (hK ad H locs lsr (.int X :: str) cells slots (pc + len) hB.2.1 hB.2.2.1 ⟨q_mk_i X, hB.2.2.2.1⟩ hB.2.2.2.2.1 hB.2.2.2.2.2.1 (fun _ _ => rfl) (Or.inl ⟨rfl, rfl, rfl⟩))
/-- pure opcodes: the stack changes, nothing else -/
theorem q_sd_st {raw : Instr} {st2 : List q_V} {str2 : List Value} (hB : q_B p l e R s m args below meth c cc D C b L xs adK adV sb md d ow nL rt ini k0 k1 ls st g M ad H locs lsr str cells slots pc len raw)
    (hres : q_go nx ops ls st2 g M = some (.inl c')) (hK : q_Kt p l e R s m args below meth c D C b L xs adK adV sb md nL k0 k1 Qz nx ops n0 ad pc len c') (h2 : q_vrs ad adK adV b g.1 st2 str2)
    (hrow : W p l e R s m args below meth c H locs cells slots Qz (F0 m (pc + len) lsr str2) → W p l e R s m args below meth c H locs cells slots Qz (F0 m pc lsr str)) : W p l e R s m args below meth c H locs cells slots Qz (F0 m pc lsr str) := by
  obtain ⟨nx', ops', ls', st', g', M'⟩ := c'
  obtain ⟨rfl, rfl, rfl, rfl, rfl, rfl⟩ := q_go_inj hres
  exact hrow (hK ad H locs lsr str2 cells slots (pc + len) hB.2.1 hB.2.2.1 h2 hB.2.2.2.2.1 hB.2.2.2.2.2.1 (fun _ _ => rfl) (Or.inl ⟨rfl, rfl, rfl⟩))
/-- a jump -/
theorem q_sd_jp {raw : Instr} {t : Nat} {st2 : List q_V} {str2 : List Value} (hB : q_B p l e R s m args below meth c cc D C b L xs adK adV sb md d ow nL rt ini k0 k1 ls st g M ad H locs lsr str cells slots pc len raw)
    (hres : q_go t [] ls st2 g M = some (.inl c')) (hK : q_Kt p l e R s m args below meth c D C b L xs adK adV sb md nL k0 k1 Qz nx ops n0 ad pc len c') (h2 : q_vrs ad adK adV b g.1 st2 str2) : W p l e R s m args below meth c H locs cells slots Qz (F0 m t lsr str2) := by
  obtain ⟨nx', ops', ls', st', g', M'⟩ := c'
  obtain ⟨rfl, rfl, rfl, rfl, rfl, rfl⟩ := q_go_inj hres
  exact hK ad H locs lsr str2 cells slots _ hB.2.1 hB.2.2.1 h2 hB.2.2.2.2.1 hB.2.2.2.2.2.1 (fun _ _ => rfl) (Or.inr ⟨rfl, rfl⟩)
/-- straight on -/
theorem q_sd_go {raw : Instr} {st2 : List q_V} {str2 : List Value} (hB : q_B p l e R s m args below meth c cc D C b L xs adK adV sb md d ow nL rt ini k0 k1 ls st g M ad H locs lsr str cells slots pc len raw)
    (hres : q_go nx ops ls st2 g M = some (.inl c')) (hK : q_Kt p l e R s m args below meth c D C b L xs adK adV sb md nL k0 k1 Qz nx ops n0 ad pc len c') (h2 : q_vrs ad adK adV b g.1 st2 str2) : W p l e R s m args below meth c H locs cells slots Qz (F0 m (pc + len) lsr str2) := by
  obtain ⟨nx', ops', ls', st', g', M'⟩ := c'
  obtain ⟨rfl, rfl, rfl, rfl, rfl, rfl⟩ := q_go_inj hres
  exact hK ad H locs lsr str2 cells slots (pc + len) hB.2.1 hB.2.2.1 h2 hB.2.2.2.2.1 hB.2.2.2.2.2.1 (fun _ _ => rfl) (Or.inl ⟨rfl, rfl, rfl⟩)
theorem q_sd_lo {raw : Instr} {ls2 st2 : List q_V} {lsr2 : Array Slot} {str2 : List Value} (hB : q_B p l e R s m args below meth c cc D C b L xs adK adV sb md d ow nL rt ini k0 k1 ls st g M ad H locs lsr str cells slots pc len raw)
    (hres : q_go nx ops ls2 st2 g M = some (.inl c')) (hK : q_Kt p l e R s m args below meth c D C b L xs adK adV sb md nL k0 k1 Qz nx ops n0 ad pc len c') (h2 : q_vrs ad adK adV b g.1 st2 str2) (h3 : q_lr ad adK adV b g.1 nL ls2 lsr2) : W p l e R s m args below meth c H locs cells slots Qz (F0 m (pc + len) lsr2 str2) := by
  obtain ⟨nx', ops', ls', st', g', M'⟩ := c'
  obtain ⟨rfl, rfl, rfl, rfl, rfl, rfl⟩ := q_go_inj hres
  exact hK ad H locs lsr2 str2 cells slots (pc + len) hB.2.1 h3 h2 hB.2.2.2.2.1 hB.2.2.2.2.2.1 (fun _ _ => rfl) (Or.inl ⟨rfl, rfl, rfl⟩)
end SDA
theorem q_st1_lt {ls ls' : List q_V} {k : Nat} {v : q_V} (h : q_st1 ls k v = some ls') : k < ls.length := by
  unfold q_st1 at h
  split at h
  · next hc =>
    simp only [Bool.and_eq_true, decide_eq_true_eq] at hc
    exact hc.1.1
  · cases h
theorem q_st2_lt {ls ls' : List q_V} {k : Nat} {v : q_V} (h : q_st2 ls k v = some ls') : k + 1 < ls.length := by
  unfold q_st2 at h
  split at h
  · next hc =>
    simp only [Bool.and_eq_true, decide_eq_true_eq] at hc
    exact hc.1.1
  · cases h
theorem q_vr_rf {ad adK adV : Nat → Nat} {b n : Nat} {v : q_V} {r : Value} (h : q_vr ad adK adV b n v r) (hr : q_isRf v = true) : r = .null ∨ ∃ q, r = .ref q := by
  match v, h with
  | .inl x, h => cases hr
  | .inr (.inl x), h => cases hr
  | .inr (.inr (.inl (k, a))), h => exact Or.inr ⟨_, h.2.2⟩
  | .inr (.inr (.inr t)), h =>
    rcases h with ⟨-, rfl⟩ | ⟨-, rfl⟩ | ⟨-, rfl | ⟨q, rfl⟩⟩ | ⟨-, -, rfl⟩ | ⟨-, -, rfl⟩
    · exact Or.inl rfl
    · exact Or.inr ⟨_, rfl⟩
    · exact Or.inl rfl
    · exact Or.inr ⟨_, rfl⟩
    · exact Or.inr ⟨_, rfl⟩
    · exact Or.inr ⟨_, rfl⟩
theorem q_c_eq {X Y : Int32} : (X = Y) ↔ (X.toInt = Y.toInt) := Int32.toInt_inj.symm
theorem q_c_lt {X Y : Int32} : (X < Y) ↔ (X.toInt < Y.toInt) := Int32.lt_iff_toInt_lt
theorem q_c_le {X Y : Int32} : (X ≤ Y) ↔ (X.toInt ≤ Y.toInt) := Int32.le_iff_toInt_le
theorem q_c_cmp (X Y : Int64) : (lg_cmp X Y).toInt = q_lcmp X.toInt Y.toInt := by
  unfold lg_cmp q_lcmp
  by_cases h : X > Y
  · have h1 : Y.toInt < X.toInt := Int64.lt_iff_toInt_lt.mp h
    rw [if_pos h, if_neg (by omega), if_neg (by omega)]
    decide
  · have h1 : ¬ Y.toInt < X.toInt := fun q => h (Int64.lt_iff_toInt_lt.mpr q)
    rw [if_neg h]
    by_cases h2 : X = Y
    · subst h2
      rw [if_pos rfl, if_neg (by omega), if_pos rfl]
      decide
    · have h3 : ¬ X.toInt = Y.toInt := fun q => h2 (Int64.toInt_inj.mp q)
      rw [if_neg h2, if_pos (by omega)]
      decide
theorem q_sw_off (pc : Nat) (d x : Int) : ∀ ps : List (Int × Int), q_sw (ps.map (fun q => (q.1, (pc : Int) + q.2))) ((pc : Int) + d) x = (pc : Int) + Op.lookupswitch.offset ps d x
  | [] => rfl
  | (a, o) :: r => by
    rw [Op.lookupswitch.offset_cons, List.map_cons, q_sw]
    by_cases h : x = a
    · rw [if_pos h, if_pos h.symm]
    · rw [if_neg h, if_neg (fun q => h q.symm)]
      exact q_sw_off pc d x r
theorem q_sw_nn (pc : Nat) (d x : Int) : ∀ ps : List (Int × Int), 0 ≤ (pc : Int) + d → ps.all (fun q => decide (0 ≤ (pc : Int) + q.2)) = true → 0 ≤ (pc : Int) + Op.lookupswitch.offset ps d x
  | [], h, _ => h
  | (a, o) :: r, h, h2 => by
    rw [List.all_cons, Bool.and_eq_true, decide_eq_true_eq] at h2
    rw [Op.lookupswitch.offset_cons]
    by_cases h3 : a = x
    · rw [if_pos h3]; exact h2.1
    · rw [if_neg h3]; exact q_sw_nn pc d x r h h2.2
