/-! WHAT A STEP CAN COME TO -/
def q_gr (g : q_G) (K : Nat → List q_V → q_C → Prop) (T : Option q_V → Prop) (r : q_R) : Prop := match r with
  | none => True
  | some (.inl c') => g.1 ≤ c'.2.2.2.2.1.1 ∧ g.2 ≤ c'.2.2.2.2.1.2
  | some (.inr (.inl v)) => T v
  | some (.inr (.inr (id, as, c'))) => K id as c'
section GR
variable {g : q_G} {K : Nat → List q_V → q_C → Prop} {T : Option q_V → Prop}
theorem q_gr_none : q_gr g K T none := trivial
theorem q_gr_go {nx : Nat} {ops : List Instr} {ls st : List q_V} {g' : q_G} {M : q_M} (h1 : g.1 ≤ g'.1) (h2 : g.2 ≤ g'.2) : q_gr g K T (q_go nx ops ls st g' M) := ⟨h1, h2⟩
theorem q_gr_ite {c : Prop} [Decidable c] {a b : q_R} (h1 : c → q_gr g K T a) (h2 : ¬ c → q_gr g K T b) : q_gr g K T (if c then a else b) := by
  by_cases hc : c
  · rw [if_pos hc]; exact h1 hc
  · rw [if_neg hc]; exact h2 hc
theorem q_gr_ii {st : List q_V} {k : Int → List q_V → q_R} (h : ∀ x st', q_gr g K T (k x st')) : q_gr g K T (q_ii st k) := by
  unfold q_ii
  split
  · exact h _ _
  · trivial
theorem q_gr_ll {st : List q_V} {k : Int → List q_V → q_R} (h : ∀ x st', q_gr g K T (k x st')) : q_gr g K T (q_ll st k) := by
  unfold q_ll
  split
  · exact h _ _
  · trivial
theorem q_gr_rr {st : List q_V} {k : Nat → Nat → List q_V → q_R} (h : ∀ c a st', q_gr g K T (k c a st')) : q_gr g K T (q_rr st k) := by
  unfold q_rr
  split
  · exact h _ _ _
  · trivial
theorem q_gr_vv {st : List q_V} {k : q_V → List q_V → q_R} (h : ∀ v st', q_gr g K T (k v st')) : q_gr g K T (q_vv st k) := by
  unfold q_vv
  split
  · exact h _ _
  · trivial
theorem q_gr_bind {α : Type} {o : Option α} {k : α → q_R} (h : ∀ x, q_gr g K T (k x)) : q_gr g K T (o.bind k) := by
  cases o with
  | none => trivial
  | some x => exact h x
end GR
def q_rk (op : Instr) (st : List q_V) (v : Option q_V) : Prop := match op with
  | .ret t => ∃ x, st = [qI x] ∧ v = some (qI x) ∧ (t = 0 ∨ (t = 1 ∧ (x = 0 ∨ x = 1)) ∨ (t = 2 ∧ 0 ≤ x ∧ x < 65536) ∨ (t = 3 ∧ -128 ≤ x ∧ x < 128))
  | .lreturn => ∃ x, st = [qL x] ∧ v = some (qL x)
  | .areturn => ∃ k a, st = [qR k a] ∧ v = some (qR k a)
  | .return_ => st = [] ∧ v = none
  | _ => False
def q_cal (op : Instr) (nx : Nat) (ops : List Instr) (ls st : List q_V) (g : q_G) (M : q_M) (id : Nat) (as : List q_V) (c' : q_C) : Prop :=
  op = .invokestatic id ∧ q_mN id ≤ st.length ∧ (st.drop (q_mN id)).length ≤ 4 ∧ q_rcv (q_mK id) (st.take (q_mN id)).reverse = true ∧ (st.take (q_mN id)).all q_set = true ∧ (q_entL (st.take (q_mN id)).reverse).length ≤ q_mL id ∧ as = (st.take (q_mN id)).reverse ∧ c' = (nx, ops, ls, st.drop (q_mN id), g, M)
set_option maxRecDepth 20000 in
set_option maxHeartbeats 4000000 in
theorem q_op_gr {md : Nat} {op : Instr} {nx : Nat} {ops : List Instr} {ls st : List q_V} {g : q_G} {M : q_M} : q_gr g (q_cal op nx ops ls st g M) (q_rk op st) (q_op md op nx ops ls st g M) := by
  cases op
  case invokestatic id => exact q_gr_ite (fun h => ⟨rfl, h.1, h.2.1, h.2.2.1, h.2.2.2.1, h.2.2.2.2, rfl, rfl⟩) (fun _ => trivial)
  case ret t =>
    match st with
    | [] => exact trivial
    | [.inl x] => exact q_gr_ite (fun h => ⟨x, rfl, rfl, h⟩) (fun _ => trivial)
    | .inr _ :: _ => exact trivial
    | .inl _ :: _ :: _ => exact trivial
  case lreturn =>
    match st with
    | [] => exact trivial
    | .inl _ :: _ => exact trivial
    | [.inr (.inl x)] => exact ⟨x, rfl, rfl⟩
    | .inr (.inl _) :: _ :: _ => exact trivial
    | .inr (.inr _) :: _ => exact trivial
  case areturn =>
    match st with
    | [] => exact trivial
    | .inl _ :: _ => exact trivial
    | .inr (.inl _) :: _ => exact trivial
    | [.inr (.inr (.inl (k, a)))] => exact ⟨k, a, rfl, rfl⟩
    | .inr (.inr (.inl _)) :: _ :: _ => exact trivial
    | .inr (.inr (.inr _)) :: _ => exact trivial
  case return_ =>
    match st with
    | [] => exact ⟨rfl, rfl⟩
    | _ :: _ => exact trivial
  case ifCond cd t =>
    cases ops with
    | cons _ _ => exact trivial
    | nil => exact q_gr_ii (fun _ _ => q_gr_go (Nat.le_refl _) (Nat.le_refl _))
  case if_icmp cd t =>
    cases ops with
    | cons _ _ => exact trivial
    | nil => exact q_gr_ii (fun _ _ => q_gr_ii (fun _ _ => q_gr_go (Nat.le_refl _) (Nat.le_refl _)))
  case goto t =>
    cases ops with
    | cons _ _ => exact trivial
    | nil => exact q_gr_go (Nat.le_refl _) (Nat.le_refl _)
  case tableswitch d lo hi offs =>
    cases ops with
    | cons _ _ => exact trivial
    | nil => exact q_gr_ii (fun _ _ => q_gr_go (Nat.le_refl _) (Nat.le_refl _))
  case lookupswitch d ps =>
    cases ops with
    | cons _ _ => exact trivial
    | nil => exact q_gr_ii (fun _ _ => q_gr_go (Nat.le_refl _) (Nat.le_refl _))
  case getfield cf =>
    match st with
    | [] => exact trivial
    | .inl _ :: _ => exact trivial
    | .inr (.inl _) :: _ => exact trivial
    | .inr (.inr (.inl (k, a))) :: r => exact q_gr_ite (fun _ => q_gr_go (Nat.le_refl _) (Nat.le_refl _)) (fun _ => trivial)
    | .inr (.inr (.inr t)) :: r => exact q_gr_ite (fun _ => q_gr_ite (fun _ => q_gr_go (Nat.le_refl _) (Nat.le_refl _)) (fun _ => q_gr_ite (fun _ => q_gr_go (Nat.le_refl _) (Nat.le_refl _)) (fun _ => trivial))) (fun _ => trivial)
  case arraylength =>
    match st with
    | [] => exact trivial
    | .inl _ :: _ => exact trivial
    | .inr (.inl _) :: _ => exact trivial
    | .inr (.inr (.inl (k, a))) :: r => exact q_gr_ite (fun _ => q_gr_go (Nat.le_refl _) (Nat.le_refl _)) (fun _ => trivial)
    | .inr (.inr (.inr t)) :: r => exact q_gr_ite (fun _ => q_gr_go (Nat.le_refl _) (Nat.le_refl _)) (fun _ => q_gr_ite (fun _ => q_gr_go (Nat.le_refl _) (Nat.le_refl _)) (fun _ => trivial))
  all_goals (repeat' (first
    | exact trivial
    | exact q_gr_go (Nat.le_refl _) (Nat.le_refl _)
    | exact q_gr_go (Nat.le_add_right _ _) (Nat.le_add_right _ _)
    | refine q_gr_ii (fun _ _ => ?_)
    | refine q_gr_ll (fun _ _ => ?_)
    | refine q_gr_rr (fun _ _ _ => ?_)
    | refine q_gr_vv (fun _ _ => ?_)
    | refine q_gr_bind (fun _ => ?_)
    | refine q_gr_ite (fun _ => ?_) (fun _ => ?_)
    | split))
theorem q_step_gr {md : Nat} {P : q_P} {nx : Nat} {ops : List Instr} {ls st : List q_V} {g : q_G} {M : q_M} {c' : q_C} (h : q_step md P (nx, ops, ls, st, g, M) = some (.inl c')) : g.1 ≤ c'.2.2.2.2.1.1 ∧ g.2 ≤ c'.2.2.2.2.1.2 := by
  cases ops with
  | nil =>
    have h2 : (q_blk P nx).bind (fun b => q_go b.2 b.1 ls st g M) = some (.inl c') := h
    cases hb : q_blk P nx with
    | none => rw [hb] at h2; cases h2
    | some b2 =>
      rw [hb] at h2
      obtain ⟨n2, o2, l2, s2, g2, M2⟩ := c'
      obtain ⟨-, -, -, -, rfl, -⟩ := q_go_inj (show q_go b2.2 b2.1 ls st g M = _ from h2)
      exact ⟨Nat.le_refl _, Nat.le_refl _⟩
  | cons op ops =>
    have h2 : q_op md op nx ops ls st g M = some (.inl c') := h
    have h3 := q_op_gr (md := md) (op := op) (nx := nx) (ops := ops) (ls := ls) (st := st) (g := g) (M := M)
    rw [h2] at h3
    exact h3
theorem q_step_cl {md : Nat} {P : q_P} {nx : Nat} {ops : List Instr} {ls st : List q_V} {g : q_G} {M : q_M} {c' : q_C} {id : Nat} {as : List q_V} (h : q_step md P (nx, ops, ls, st, g, M) = some (.inr (.inr (id, as, c')))) : ∃ op ops', ops = op :: ops' ∧ q_cal op nx ops' ls st g M id as c' := by
  cases ops with
  | nil =>
    have h2 : (q_blk P nx).bind (fun b => q_go b.2 b.1 ls st g M) = some (.inr (.inr (id, as, c'))) := h
    cases hb : q_blk P nx with
    | none => rw [hb] at h2; cases h2
    | some b2 => rw [hb] at h2; cases h2
  | cons op ops =>
    have h2 : q_op md op nx ops ls st g M = some (.inr (.inr (id, as, c'))) := h
    have h3 := q_op_gr (md := md) (op := op) (nx := nx) (ops := ops) (ls := ls) (st := st) (g := g) (M := M)
    rw [h2] at h3
    exact ⟨op, ops, rfl, h3⟩
theorem q_step_rt {md : Nat} {P : q_P} {nx : Nat} {ops : List Instr} {ls st : List q_V} {g : q_G} {M : q_M} {v : Option q_V} (h : q_step md P (nx, ops, ls, st, g, M) = some (.inr (.inl v))) : ∃ op ops', ops = op :: ops' ∧ q_rk op st v := by
  cases ops with
  | nil =>
    have h2 : (q_blk P nx).bind (fun b => q_go b.2 b.1 ls st g M) = some (.inr (.inl v)) := h
    cases hb : q_blk P nx with
    | none => rw [hb] at h2; cases h2
    | some b2 => rw [hb] at h2; cases h2
  | cons op ops =>
    have h2 : q_op md op nx ops ls st g M = some (.inr (.inl v)) := h
    have h3 := q_op_gr (md := md) (op := op) (nx := nx) (ops := ops) (ls := ls) (st := st) (g := g) (M := M)
    rw [h2] at h3
    exact ⟨op, ops, rfl, h3⟩
/-- a run's world only grows -/
theorem q_run_grow : ∀ (f : Nat) {md d : Nat} {P : q_P} {c : q_C} {r : Option q_V × q_G × q_M}, q_run f md d P c = some r → c.2.2.2.2.1.1 ≤ r.2.1.1 ∧ c.2.2.2.2.1.2 ≤ r.2.1.2 := by
  intro f
  induction f with
  | zero => intro md d P c r h; rw [q_run] at h; cases h
  | succ f ih =>
    intro md d P c r h
    obtain ⟨nx, ops, ls, st, g, M⟩ := c
    rw [q_run] at h
    split at h
    · cases h
    · next c' hs =>
      have h1 := q_step_gr hs
      have h2 := ih h
      exact ⟨Nat.le_trans h1.1 h2.1, Nat.le_trans h1.2 h2.2⟩
    · next v hs =>
      cases h
      exact ⟨Nat.le_refl _, Nat.le_refl _⟩
    · next id as c' hs =>
      obtain ⟨op, ops', rfl, hcl⟩ := q_step_cl hs
      obtain ⟨-, -, -, -, -, -, -, rfl⟩ := hcl
      cases d with
      | zero => cases h
      | succ d =>
        simp only at h
        split at h
        · cases h
        · next v g2 M2 hr =>
          have h1 := ih hr
          have h2 := ih h
          exact ⟨Nat.le_trans h1.1 h2.1, Nat.le_trans h1.2 h2.2⟩
/-! RETURNS AND CALLS, as they stand in the code -/
def q_no (f : Instr → Bool) (o : Option Instr) : Prop := ∀ op, o = some op → f op = false
theorem q_no_none {f : Instr → Bool} : q_no f none := fun op h => by cases h
theorem q_no_some {f : Instr → Bool} {op : Instr} (h : f op = false) : q_no f (some op) := fun op' h2 => by cases h2; exact h
theorem q_no_ite {f : Instr → Bool} {c : Prop} [Decidable c] {a b : Option Instr} (h1 : q_no f a) (h2 : q_no f b) : q_no f (if c then a else b) := by
  by_cases hc : c
  · rw [if_pos hc]; exact h1
  · rw [if_neg hc]; exact h2
theorem q_no_use {f : Instr → Bool} {o : Option Instr} {op : Instr} (h : o = some op) (hs : f op = true) (hn : q_no f o) : False := by
  rw [hn op h] at hs
  cases hs
def q_sp (op : Instr) : Bool := match op with
  | .ret _ => true
  | .lreturn => true
  | .areturn => true
  | .return_ => true
  | .invokestatic _ => true
  | _ => false
set_option maxRecDepth 20000 in
set_option maxHeartbeats 4000000 in
theorem q_rs_sp {ow : Nat} {rt : Option FieldType} {ini : Bool} {pc : Nat} {raw : Instr} {len : Nat} {op : Instr} (h : q_rs ow rt ini pc raw len = some op) (hs : q_sp op = true) :
    raw = .ireturn ∨ raw = .lreturn ∨ raw = .areturn ∨ raw = .return_ ∨ (∃ i, raw = .invokevirtual i) ∨ (∃ i, raw = .invokespecial i) ∨ (∃ i, raw = .invokestatic i) := by
  cases raw
  case ireturn => exact Or.inl rfl
  case lreturn => exact Or.inr (Or.inl rfl)
  case areturn => exact Or.inr (Or.inr (Or.inl rfl))
  case return_ => exact Or.inr (Or.inr (Or.inr (Or.inl rfl)))
  case invokevirtual i => exact Or.inr (Or.inr (Or.inr (Or.inr (Or.inl ⟨i, rfl⟩))))
  case invokespecial i => exact Or.inr (Or.inr (Or.inr (Or.inr (Or.inr (Or.inl ⟨i, rfl⟩)))))
  case invokestatic i => exact Or.inr (Or.inr (Or.inr (Or.inr (Or.inr (Or.inr ⟨i, rfl⟩)))))
  case newarray t => cases t <;> (refine (q_no_use h hs ?_).elim; first | exact q_no_none | exact q_no_ite (q_no_some rfl) q_no_none)
  all_goals (refine (q_no_use h hs ?_).elim; (repeat' (first
    | exact q_no_none
    | exact q_no_some rfl
    | refine q_no_ite ?_ ?_
    | split)))
