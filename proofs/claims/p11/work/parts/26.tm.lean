/-! THE PURE MACHINE OVER WRITTEN ROWS: what the kernel can run -/
abbrev q_Row : Type := List Int × Int × Int
abbrev q_Tm : Type := List q_Row
abbrev q_CT : Type := Nat × List Instr × List q_V × List q_V × q_G × q_Tm
abbrev q_RT : Type := Option (q_CT ⊕ (Option q_V) ⊕ (Nat × List q_V × q_CT))
def q_rg (r : q_Row) (i : Nat) : Int := if i = 1000 then r.2.2 else r.1.getD i r.2.1
def q_lk (t : q_Tm) (B : q_M) : q_M := fun a i => match t[a]? with
  | some r => q_rg r i
  | none => B a i
def q_rd (t : q_Tm) (a i : Nat) : Int := match t[a]? with
  | some r => q_rg r i
  | none => 0
def q_wr (t : q_Tm) (a i : Nat) (x : Int) : Option q_Tm := match t[a]? with
  | some (l, d, e) => if i < l.length ∧ i ≠ 1000 then some (t.set a (l.set i x, d, e)) else none
  | none => none
theorem q_lk_rd {t : q_Tm} {B : q_M} {a i : Nat} (h : a < t.length) : q_lk t B a i = q_rd t a i := by
  unfold q_lk q_rd
  rw [List.getElem?_eq_getElem h]
theorem q_lk_wr {t t' : q_Tm} {B : q_M} {a i : Nat} {x : Int} (h : q_wr t a i x = some t') : q_upd (q_lk t B) a i x = q_lk t' B := by
  unfold q_wr at h
  split at h
  · next l d e he =>
    split at h
    · next hc =>
      cases h
      have hlt : a < t.length := (List.getElem?_eq_some_iff.mp he).1
      funext b j
      unfold q_upd q_lk
      by_cases hb : b = a
      · subst hb
        rw [List.getElem?_set_self hlt, he]
        by_cases hj : j = i
        · subst hj
          rw [if_pos ⟨rfl, rfl⟩]
          show x = q_rg (l.set j x, d, e) j
          unfold q_rg
          rw [if_neg hc.2, List.getD_eq_getElem?_getD, List.getElem?_set_self hc.1]
          rfl
        · rw [if_neg (fun h => hj h.2)]
          show q_rg (l, d, e) j = q_rg (l.set i x, d, e) j
          unfold q_rg
          simp only [List.getD_eq_getElem?_getD]
          rw [List.getElem?_set_ne (Ne.symm hj)]
      · rw [if_neg (fun h => hb h.1), List.getElem?_set_ne (Ne.symm hb)]
    · cases h
  · cases h
theorem q_lk_push {t u : q_Tm} {B : q_M} {F : q_M} (h1 : ∀ b i, b < t.length → F b i = q_lk t B b i) (h2 : ∀ b i r, t.length ≤ b → u[b - t.length]? = some r → F b i = q_rg r i) (h3 : ∀ b i, t.length + u.length ≤ b → F b i = B b i) : F = q_lk (t ++ u) B := by
  funext b i
  by_cases hb : b < t.length
  · rw [h1 b i hb]
    unfold q_lk
    rw [List.getElem?_append_left hb]
  · have hb2 : t.length ≤ b := Nat.le_of_not_lt hb
    unfold q_lk
    rw [List.getElem?_append_right hb2]
    split
    · next r hr => exact h2 b i r hb2 hr
    · next hr =>
      rw [List.getElem?_eq_none_iff] at hr
      exact h3 b i (by omega)
theorem q_lk_out {t : q_Tm} {B : q_M} {b i : Nat} (h : t.length ≤ b) : q_lk t B b i = B b i := by
  unfold q_lk
  rw [List.getElem?_eq_none_iff.mpr h]
def q_lenT (k a : Nat) (t : q_Tm) : Int := if k = 10 then q_rd t a 1000 else if k = 7 then 6 else if k = 8 then 6 else if k = 9 then 4 else (k : Int) - 20
theorem q_lenT_eq {k a : Nat} {t : q_Tm} {B : q_M} (h : a < t.length) : q_len k a (q_lk t B) = q_lenT k a t := by
  unfold q_len q_lenT
  rw [q_lk_rd h]
def q_goT (nx : Nat) (ops : List Instr) (ls st : List q_V) (g : q_G) (t : q_Tm) : q_RT := some (.inl (nx, ops, ls, st, g, t))
def q_rowN (md k : Nat) : q_Row := ((List.range (q_nf k)).map fun i => if (q_ty md k i).1 = 2 then -1 else 0, 0, 0)
def q_rep (n : Nat) (x : Int) : List Int := match n with
  | 0 => []
  | n + 1 => x :: q_rep n x
theorem q_rep_get (x : Int) : ∀ n i : Nat, (q_rep n x).getD i x = x
  | 0, _ => rfl
  | _ + 1, 0 => rfl
  | n + 1, i + 1 => q_rep_get x n i
def q_toT (t : q_Tm) (r : q_R) : q_RT := match r with
  | none => none
  | some (.inl (nx, ops, ls, st, g, _)) => some (.inl (nx, ops, ls, st, g, t))
  | some (.inr (.inl v)) => some (.inr (.inl v))
  | some (.inr (.inr (id, as, (nx, ops, ls, st, g, _)))) => some (.inr (.inr (id, as, (nx, ops, ls, st, g, t))))
def q_opT (md : Nat) (op : Instr) (nx : Nat) (ops : List Instr) (ls st : List q_V) (g : q_G) (t : q_Tm) : q_RT := match op with
  | .getfield c => match st with
    | .inr (.inr (.inl (k, a))) :: r => if k = c / 100 ∧ c % 100 < q_nf k ∧ a < t.length then q_goT nx ops ls (q_gv (q_ty md k (c % 100)) a (q_rd t a (c % 100)) :: r) g t else none
    | .inr (.inr (.inr tt)) :: r => if 16 ≤ tt ∧ tt < 29 then (if c = 10000 then q_goT nx ops ls (qS (48 + tt) :: r) g t else if c = 10001 then q_goT nx ops ls (qI 0 :: r) g t else none) else none
    | _ => none
  | .putfield c => match st with
    | v :: .inr (.inr (.inl (k, a))) :: r => if k = c / 100 ∧ c % 100 < q_nf k then (match v with
      | .inl x => if (q_ty md k (c % 100)).1 = 0 ∨ ((q_ty md k (c % 100)).1 = 1 ∧ (x = 0 ∨ x = 1)) then (match q_wr t a (c % 100) x with
        | some t' => q_goT nx ops ls r g t'
        | none => none) else none
      | .inr (.inr (.inl (k', b))) => if (q_ty md k (c % 100)).1 = 2 ∧ (q_ty md k (c % 100)).2.1 = k' ∧ b < 2147483648 then (match q_wr t a (c % 100) b with
        | some t' => q_goT nx ops ls r g t'
        | none => none) else none
      | _ => none) else none
    | _ => none
  | .iaload => match st with
    | .inl j :: .inr (.inr (.inl (k, a))) :: r => if q_isA k = true ∧ 0 ≤ j ∧ j < q_lenT k a t ∧ a < t.length then q_goT nx ops ls (qI (q_rd t a j.toNat) :: r) g t else none
    | _ => none
  | .iastore => match st with
    | .inl x :: .inl j :: .inr (.inr (.inl (k, a))) :: r => if q_isA k = true ∧ 0 ≤ j ∧ j < q_lenT k a t ∧ a < t.length then (match q_wr t a j.toNat x with
        | some t' => q_goT nx ops ls r g t'
        | none => none) else none
    | _ => none
  | .aaload => match st with
    | .inl j :: .inr (.inr (.inl (k, a))) :: r => if (k = 7 ∨ k = 8 ∨ k = 9) ∧ 0 ≤ j ∧ j < q_lenT k a t ∧ a < t.length then q_goT nx ops ls (q_gv (q_ty md k j.toNat) a (q_rd t a j.toNat) :: r) g t else none
    | _ => none
  | .aastore => match st with
    | .inr (.inr (.inl (k', b))) :: .inl j :: .inr (.inr (.inl (k, a))) :: r => if (k = 8 ∨ k = 9) ∧ 0 ≤ j ∧ j < q_lenT k a t ∧ (q_ty md k j.toNat).1 = 2 ∧ (q_ty md k j.toNat).2.1 = k' ∧ b < 2147483648 ∧ a < t.length then (match q_wr t a j.toNat b with
        | some t' => q_goT nx ops ls r g t'
        | none => none) else none
    | _ => none
  | .arraylength => match st with
    | .inr (.inr (.inl (k, a))) :: r => if q_isA k = true ∧ a < t.length then q_goT nx ops ls (qI (q_lenT k a t) :: r) g t else none
    | .inr (.inr (.inr tt)) :: r => if tt ≠ 2 ∧ 64 ≤ tt ∧ tt < 77 then q_goT nx ops ls (qI (q_slen (tt - 64)) :: r) g t else none
    | _ => none
  | .monitorexit => match st with
    | .inl n :: .inl dp :: .inr (.inr (.inl (kd, d))) :: .inl sp :: .inr (.inr (.inl (ks, s))) :: r => if q_isA ks = true ∧ q_isA kd = true ∧ 0 ≤ sp ∧ 0 ≤ dp ∧ 0 ≤ n ∧ sp + n ≤ q_lenT ks s t ∧ dp + n ≤ q_lenT kd d t ∧ r.length ≤ 3 ∧ s < t.length ∧ d < t.length then (match t[d]? with
        | some (l, df, e) => if dp.toNat + n.toNat ≤ l.length ∧ dp.toNat + n.toNat ≤ 1000 then q_goT nx ops ls r g (t.set d ((List.range l.length).map (fun i => if dp.toNat ≤ i ∧ i < dp.toNat + n.toNat then q_rd t s (sp.toNat + (i - dp.toNat)) else l.getD i df), df, e)) else none
        | none => none) else none
    | _ => none
  | .swap => match st with
    | .inr (.inr (.inl (k, a))) :: r => if 20 ≤ k ∧ q_kd g.1 = k ∧ r.length ≤ 6 ∧ g.1 = t.length then (match t[a]? with
        | some row => q_goT nx ops ls (qR k g.1 :: r) (g.1 + 1, g.2 + (k - 20)) (t ++ [row])
        | none => none) else none
    | _ => none
  | .new k => if k < 7 ∧ q_kd g.1 = k ∧ (md = 0 ∨ k = 3) ∧ g.1 = t.length then q_goT nx ops ls (qR k g.1 :: st) (g.1 + 1, g.2 + q_nf k) (t ++ [q_rowN md k]) else none
  | .newarray _ => match st with
    | .inl n :: r => if q_isA (q_kd g.1) = true ∧ 0 ≤ n ∧ n ≤ 100000 ∧ (if q_kd g.1 = 10 then n ≤ 1000 else n = (q_kd g.1 : Int) - 20) ∧ g.1 = t.length then
        q_goT nx ops ls (qR (q_kd g.1) g.1 :: r) (g.1 + 1, g.2 + n.toNat) (t ++ [(q_rep n.toNat 0, 0, if q_kd g.1 = 10 then n else 0)]) else none
    | _ => none
  | .anewarray k => match st with
    | .inl n :: r => if (k = 8 ∨ k = 9) ∧ q_kd g.1 = k ∧ n = (if k = 8 then 6 else 4) ∧ md = 0 ∧ g.1 = t.length then q_goT nx ops ls (qR k g.1 :: r) (g.1 + 1, g.2 + n.toNat) (t ++ [(q_rep n.toNat (-1), -1, -1)]) else none
    | _ => none
  | .multianewarray _ _ => match st with
    | .inl y :: .inl x :: r => if x = 6 ∧ y = 6 ∧ md = 0 ∧ q_kd g.1 = 7 ∧ q_kd (g.1 + 1) = 26 ∧ q_kd (g.1 + 2) = 26 ∧ q_kd (g.1 + 3) = 26 ∧ q_kd (g.1 + 4) = 26 ∧ q_kd (g.1 + 5) = 26 ∧ q_kd (g.1 + 6) = 26 ∧ g.1 < 1000000 ∧ g.1 = t.length then
        q_goT nx ops ls (qR 7 g.1 :: r) (g.1 + 7, g.2 + 42) (t ++ [((List.range 6).map (fun i => ((g.1 + 1 + i : Nat) : Int)), -1, -1), (q_rep 6 0, 0, 0), (q_rep 6 0, 0, 0), (q_rep 6 0, 0, 0), (q_rep 6 0, 0, 0), (q_rep 6 0, 0, 0), (q_rep 6 0, 0, 0)]) else none
    | _ => none
  | op => q_toT t (q_op md op nx ops ls st g (fun _ _ => 0))
/-- a configuration over rows, as one of the pure machine's -/
def q_un (B : q_M) (c : q_CT) : q_C := (c.1, c.2.1, c.2.2.1, c.2.2.2.1, c.2.2.2.2.1, q_lk c.2.2.2.2.2 B)
def q_sm (B : q_M) (r : q_R) (rT : q_RT) : Prop := match rT with
  | none => True
  | some (.inl c') => r = some (.inl (q_un B c'))
  | some (.inr (.inl v)) => r = some (.inr (.inl v))
  | some (.inr (.inr (id, as, c'))) => r = some (.inr (.inr (id, as, q_un B c')))
section SM
variable {B : q_M} {t : q_Tm}
theorem q_sm_none {r : q_R} : q_sm B r none := trivial
theorem q_sm_go {nx : Nat} {ops : List Instr} {ls st : List q_V} {g : q_G} {M : q_M} : q_sm B (q_go nx ops ls st g (q_lk t B)) (q_toT t (q_go nx ops ls st g M)) := rfl
theorem q_sm_rt {v : Option q_V} : q_sm B (q_rt v) (q_toT t (q_rt v)) := rfl
theorem q_sm_ite {c : Prop} [Decidable c] {a1 b1 a2 b2 : q_R} (h1 : c → q_sm B a1 (q_toT t a2)) (h2 : ¬ c → q_sm B b1 (q_toT t b2)) : q_sm B (if c then a1 else b1) (q_toT t (if c then a2 else b2)) := by
  by_cases hc : c
  · rw [if_pos hc, if_pos hc]; exact h1 hc
  · rw [if_neg hc, if_neg hc]; exact h2 hc
theorem q_sm_ii {st : List q_V} {k1 k2 : Int → List q_V → q_R} (h : ∀ x st', q_sm B (k1 x st') (q_toT t (k2 x st'))) : q_sm B (q_ii st k1) (q_toT t (q_ii st k2)) := by
  unfold q_ii
  split
  · exact h _ _
  · trivial
theorem q_sm_ll {st : List q_V} {k1 k2 : Int → List q_V → q_R} (h : ∀ x st', q_sm B (k1 x st') (q_toT t (k2 x st'))) : q_sm B (q_ll st k1) (q_toT t (q_ll st k2)) := by
  unfold q_ll
  split
  · exact h _ _
  · trivial
theorem q_sm_rr {st : List q_V} {k1 k2 : Nat → Nat → List q_V → q_R} (h : ∀ c a st', q_sm B (k1 c a st') (q_toT t (k2 c a st'))) : q_sm B (q_rr st k1) (q_toT t (q_rr st k2)) := by
  unfold q_rr
  split
  · exact h _ _ _
  · trivial
theorem q_sm_vv {st : List q_V} {k1 k2 : q_V → List q_V → q_R} (h : ∀ v st', q_sm B (k1 v st') (q_toT t (k2 v st'))) : q_sm B (q_vv st k1) (q_toT t (q_vv st k2)) := by
  unfold q_vv
  split
  · exact h _ _
  · trivial
theorem q_sm_bind {α : Type} {o : Option α} {k1 k2 : α → q_R} (h : ∀ x, q_sm B (k1 x) (q_toT t (k2 x))) : q_sm B (o.bind k1) (q_toT t (o.bind k2)) := by
  cases o with
  | none => trivial
  | some x => exact h x
theorem q_sm_call {nx id : Nat} {ops : List Instr} {ls st as : List q_V} {g : q_G} {M : q_M} : q_sm B (some (.inr (.inr (id, as, (nx, ops, ls, st, g, q_lk t B))))) (q_toT t (some (.inr (.inr (id, as, (nx, ops, ls, st, g, M)))))) := rfl
end SM
