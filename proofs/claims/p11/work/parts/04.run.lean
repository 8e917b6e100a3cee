/-! THE RUN, and what it comes to -/
def q_ent (id : Nat) (as : List q_V) : List q_V := q_entL as ++ List.replicate (q_mL id - (q_entL as).length) (qS 0)
def q_step (md : Nat) (P : q_P) (c : q_C) : q_R := match c with
  | (nx, [], ls, st, g, M) => (q_blk P nx).bind fun b => q_go b.2 b.1 ls st g M
  | (nx, op :: ops, ls, st, g, M) => q_op md op nx ops ls st g M
def q_push (v : Option q_V) (st : List q_V) : List q_V := match v with
  | none => st
  | some v => v :: st
def q_put (c : q_C) (v : Option q_V) (g : q_G) (M : q_M) : q_C := match c with
  | (nx, ops, ls, st, _, _) => (nx, ops, ls, q_push v st, g, M)
def q_run : Nat → Nat → Nat → q_P → q_C → Option (Option q_V × q_G × q_M)
  | 0, _, _, _, _ => none
  | f + 1, md, d, P, c => match q_step md P c with
    | none => none
    | some (.inl c') => q_run f md d P c'
    | some (.inr (.inl v)) => some (v, c.2.2.2.2.1, c.2.2.2.2.2)
    | some (.inr (.inr (id, as, c'))) => match d with
      | 0 => none
      | d + 1 => match q_run f md d (q_mP id) (0, [], q_ent id as, [], c'.2.2.2.2.1, c'.2.2.2.2.2) with
        | none => none
        | some (v, g, M) => q_run f md (d + 1) P (q_put c' v g M)
/-- the run from here ends, in a world with Q -/
def q_T (md d : Nat) (P : q_P) (nx : Nat) (ops : List Instr) (ls st : List q_V) (g : q_G) (M : q_M) (Q : Option q_V → q_G → q_M → Prop) : Prop :=
  ∃ f r, q_run f md d P (nx, ops, ls, st, g, M) = some r ∧ Q r.1 r.2.1 r.2.2
/-- a call of method id -/
def q_S (md d id : Nat) (as : List q_V) (g : q_G) (M : q_M) (Q : Option q_V → q_G → q_M → Prop) : Prop := q_T md d (q_mP id) 0 [] (q_ent id as) [] g M Q
/-- what is left behind a call -/
def q_K (md d : Nat) (P : q_P) (nx : Nat) (ops : List Instr) (ls st : List q_V) (Q : Option q_V → q_G → q_M → Prop) : Option q_V → q_G → q_M → Prop := fun v g M => q_T md d P nx ops ls (q_push v st) g M Q
theorem q_run_step {f md d : Nat} {P : q_P} {c c' : q_C} (h : q_step md P c = some (.inl c')) : q_run (f + 1) md d P c = q_run f md d P c' := by
  rw [q_run, h]
theorem q_run_mono : ∀ (f : Nat) {md d : Nat} {P : q_P} {c : q_C} {r : Option q_V × q_G × q_M}, q_run f md d P c = some r → q_run (f + 1) md d P c = some r := by
  intro f
  induction f with
  | zero => intro md d P c r h; rw [q_run] at h; cases h
  | succ f ih =>
    intro md d P c r h
    rw [q_run] at h
    rw [q_run]
    split at h
    · cases h
    · next c' hs => exact ih h
    · next v hs => exact h
    · next id as c' hs =>
      cases d with
      | zero => cases h
      | succ d =>
        simp only at h ⊢
        split at h
        · cases h
        · next v g M hr =>
          rw [ih hr]
          exact ih h
theorem q_run_le {f f' md d : Nat} {P : q_P} {c : q_C} {r : Option q_V × q_G × q_M} (h : q_run f md d P c = some r) (hf : f ≤ f') : q_run f' md d P c = some r := by
  induction hf with
  | refl => exact h
  | step _ ih => exact q_run_mono _ ih
theorem q_T_next {md d : Nat} {P : q_P} {nx nx' : Nat} {ops ops' : List Instr} {ls st ls' st' : List q_V} {g g' : q_G} {M M' : q_M} {Q : Option q_V → q_G → q_M → Prop}
    (h : q_step md P (nx, ops, ls, st, g, M) = q_go nx' ops' ls' st' g' M') : q_T md d P nx ops ls st g M Q = q_T md d P nx' ops' ls' st' g' M' Q := by
  apply propext
  constructor
  · rintro ⟨f, r, h1, h2⟩
    cases f with
    | zero => rw [q_run] at h1; cases h1
    | succ f =>
      rw [q_run_step h] at h1
      exact ⟨f, r, h1, h2⟩
  · rintro ⟨f, r, h1, h2⟩
    exact ⟨f + 1, r, by rw [q_run_step h]; exact h1, h2⟩
theorem q_T_stuck {md d : Nat} {P : q_P} {nx : Nat} {ops : List Instr} {ls st : List q_V} {g : q_G} {M : q_M} {Q : Option q_V → q_G → q_M → Prop}
    (h : q_step md P (nx, ops, ls, st, g, M) = none) : q_T md d P nx ops ls st g M Q = False := by
  apply propext
  constructor
  · rintro ⟨f, r, h1, h2⟩
    cases f with
    | zero => rw [q_run] at h1; cases h1
    | succ f => rw [q_run, h] at h1; cases h1
  · exact False.elim
theorem q_T_if {md d : Nat} {P : q_P} {nx nx' : Nat} {ops ops' : List Instr} {ls st ls' st' : List q_V} {g g' : q_G} {M M' : q_M} {Q : Option q_V → q_G → q_M → Prop} {c : Prop} [Decidable c]
    (h : q_step md P (nx, ops, ls, st, g, M) = if c then q_go nx' ops' ls' st' g' M' else none) : q_T md d P nx ops ls st g M Q = (c ∧ q_T md d P nx' ops' ls' st' g' M' Q) := by
  by_cases hc : c
  · rw [if_pos hc] at h
    rw [q_T_next h]
    simp [hc]
  · rw [if_neg hc] at h
    rw [q_T_stuck h]
    simp [hc]
theorem q_T_br {md d : Nat} {P : q_P} {nx t e : Nat} {ops : List Instr} {ls st ls' st' : List q_V} {g g' : q_G} {M M' : q_M} {Q : Option q_V → q_G → q_M → Prop} {c : Prop} [Decidable c]
    (h : q_step md P (nx, ops, ls, st, g, M) = q_go (if c then t else e) [] ls' st' g' M') : q_T md d P nx ops ls st g M Q = ((c → q_T md d P t [] ls' st' g' M' Q) ∧ (¬ c → q_T md d P e [] ls' st' g' M' Q)) := by
  by_cases hc : c
  · rw [if_pos hc] at h
    rw [q_T_next h]
    simp [hc]
  · rw [if_neg hc] at h
    rw [q_T_next h]
    simp [hc]
theorem q_T_ret {md d : Nat} {P : q_P} {nx : Nat} {ops : List Instr} {ls st : List q_V} {g : q_G} {M : q_M} {Q : Option q_V → q_G → q_M → Prop} {v : Option q_V}
    (h : q_step md P (nx, ops, ls, st, g, M) = q_rt v) : q_T md d P nx ops ls st g M Q = Q v g M := by
  apply propext
  constructor
  · rintro ⟨f, r, h1, h2⟩
    cases f with
    | zero => rw [q_run] at h1; cases h1
    | succ f =>
      rw [q_run, h] at h1
      simp only [q_rt, Option.some.injEq] at h1
      subst h1
      exact h2
  · intro hq
    exact ⟨1, (v, g, M), by rw [q_run, h]; rfl, hq⟩
theorem q_T_retif {md d : Nat} {P : q_P} {nx : Nat} {ops : List Instr} {ls st : List q_V} {g : q_G} {M : q_M} {Q : Option q_V → q_G → q_M → Prop} {v : Option q_V} {c : Prop} [Decidable c]
    (h : q_step md P (nx, ops, ls, st, g, M) = if c then q_rt v else none) : q_T md d P nx ops ls st g M Q = (c ∧ Q v g M) := by
  by_cases hc : c
  · rw [if_pos hc] at h
    rw [q_T_ret h]
    simp [hc]
  · rw [if_neg hc] at h
    rw [q_T_stuck h]
    simp [hc]
theorem q_T_call {md d : Nat} {P : q_P} {nx nx' id : Nat} {ops ops' : List Instr} {ls st ls' st' as : List q_V} {g g' : q_G} {M M' : q_M} {Q : Option q_V → q_G → q_M → Prop}
    (h : q_step md P (nx, ops, ls, st, g, M) = some (.inr (.inr (id, as, (nx', ops', ls', st', g', M'))))) : q_T md (d + 1) P nx ops ls st g M Q = q_S md d id as g' M' (q_K md (d + 1) P nx' ops' ls' st' Q) := by
  apply propext
  constructor
  · rintro ⟨f, r, h1, h2⟩
    cases f with
    | zero => rw [q_run] at h1; cases h1
    | succ f =>
      rw [q_run, h] at h1
      simp only at h1
      split at h1
      · cases h1
      · next v g2 M2 hr => exact ⟨f, (v, g2, M2), hr, f, r, h1, h2⟩
  · rintro ⟨f, ⟨v, g2, M2⟩, h1, f2, r, h2, h3⟩
    refine ⟨f + f2 + 1, r, ?_, h3⟩
    rw [q_run, h]
    simp only
    rw [q_run_le h1 (Nat.le_add_right f f2)]
    exact q_run_le h2 (Nat.le_add_left f2 f)
theorem q_T_mono {md d : Nat} {P : q_P} {nx : Nat} {ops : List Instr} {ls st : List q_V} {g : q_G} {M : q_M} {Q Q' : Option q_V → q_G → q_M → Prop}
    (h : q_T md d P nx ops ls st g M Q) (hq : ∀ v g M, Q v g M → Q' v g M) : q_T md d P nx ops ls st g M Q' := by
  obtain ⟨f, r, h1, h2⟩ := h
  exact ⟨f, r, h1, hq _ _ _ h2⟩
theorem q_S_mono {md d id : Nat} {as : List q_V} {g : q_G} {M : q_M} {Q Q' : Option q_V → q_G → q_M → Prop}
    (h : q_S md d id as g M Q) (hq : ∀ v g M, Q v g M → Q' v g M) : q_S md d id as g M Q' := q_T_mono h hq
theorem x_K {md d : Nat} {P : q_P} {nx : Nat} {ops : List Instr} {ls st : List q_V} {Q : Option q_V → q_G → q_M → Prop} {v : q_V} {g : q_G} {M : q_M} : q_K md d P nx ops ls st Q (some v) g M = q_T md d P nx ops ls (v :: st) g M Q := rfl
theorem x_Kn {md d : Nat} {P : q_P} {nx : Nat} {ops : List Instr} {ls st : List q_V} {Q : Option q_V → q_G → q_M → Prop} {g : q_G} {M : q_M} : q_K md d P nx ops ls st Q none g M = q_T md d P nx ops ls st g M Q := rfl
