/-! SMALL STEPS: a run over rows, cut in pieces that the kernel can do -/
def q_PL (id : Nat) : q_P := if id = 999 then qP_L_law else q_mP id
abbrev q_Fr : Type := Nat × Nat × List Instr × List q_V × List q_V
abbrev q_Cf : Type := List q_Fr × q_G × q_Tm
def q_pop (fs : List q_Fr) (v : Option q_V) (g : q_G) (t : q_Tm) : Option q_Cf := match fs with
  | (id2, nx2, ops2, ls2, st2) :: fs => some ((id2, nx2, ops2, ls2, q_push v st2) :: fs, g, t)
  | [] => none
def q_ssk (id : Nat) (fs : List q_Fr) (g : q_G) (t : q_Tm) (r : q_RT) : Option q_Cf := match r with
  | some (.inl (nx', ops', ls', st', g', t')) => some ((id, nx', ops', ls', st') :: fs, g', t')
  | some (.inr (.inl v)) => q_pop fs v g t
  | some (.inr (.inr (id2, as, (nx', ops', ls', st', g', t')))) => if id2 ≠ 999 ∧ fs.length < 900 then some ((id2, 0, [], q_ent id2 as, []) :: (id, nx', ops', ls', st') :: fs, g', t') else none
  | none => none
def q_ss (md : Nat) (c : q_Cf) : Option q_Cf := match c with
  | ((id, nx, ops, ls, st) :: fs, g, t) => q_ssk id fs g t (q_stepT md (q_PL id) (nx, ops, ls, st, g, t))
  | _ => none
def q_ssn (md : Nat) : Nat → q_Cf → Option q_Cf
  | 0, c => some c
  | n + 1, c => match q_ss md c with
    | some c' => q_ssn md n c'
    | none => none
theorem q_runT_mono : ∀ (f : Nat) {md d : Nat} {P : q_P} {c : q_CT} {r : Option q_V × q_G × q_Tm}, q_runT f md d P c = some r → q_runT (f + 1) md d P c = some r := by
  intro f
  induction f with
  | zero => intro md d P c r h; rw [q_runT] at h; cases h
  | succ f ih =>
    intro md d P c r h
    rw [q_runT] at h
    rw [q_runT]
    split at h
    · cases h
    · next c' hs => exact ih h
    · next v hs => exact h
    · next id as c' hs =>
      cases d with
      | zero => cases h
      | succ d =>
        simp only at h ⊢
        split at h
        · cases h
        · next v g M hr =>
          rw [ih hr]
          exact ih h
theorem q_runT_le {f f' md d : Nat} {P : q_P} {c : q_CT} {r : Option q_V × q_G × q_Tm} (h : q_runT f md d P c = some r) (hf : f ≤ f') : q_runT f' md d P c = some r := by
  induction hf with
  | refl => exact h
  | step _ ih => exact q_runT_mono _ ih
theorem q_wkT_le {f f' md : Nat} (hf : f ≤ f') : ∀ (k : Nat) {d : Nat} {P : q_P} {c c' : q_CT}, q_wkT f k md d P c = some c' → q_wkT f' k md d P c = some c' := by
  intro k
  induction k with
  | zero => intro d P c c' h; rw [q_wkT] at h ⊢; exact h
  | succ k ih =>
    intro d P c c' h
    rw [q_wkT] at h
    rw [q_wkT]
    split at h
    · next c1 e => exact ih h
    · next id as c1 e =>
      cases d with
      | zero => cases h
      | succ d =>
        simp only at h ⊢
        split at h
        · cases h
        · next v g t hr =>
          rw [q_runT_le hr hf]
          exact ih h
    · cases h
def q_Ev (md : Nat) (c' : q_CT) : List q_Fr → Nat → q_G → q_Tm → Prop
  | [], _, _, _ => False
  | [(id, nx, ops, ls, st)], d, g, t => ∃ f k, q_wkT f k md d (q_PL id) (nx, ops, ls, st, g, t) = some c'
  | (id, nx, ops, ls, st) :: (id2, nx2, ops2, ls2, st2) :: fs, d, g, t => ∃ f v g' t', q_runT f md d (q_PL id) (nx, ops, ls, st, g, t) = some (v, g', t') ∧ q_Ev md c' ((id2, nx2, ops2, ls2, q_push v st2) :: fs) (d + 1) g' t'
  termination_by fs => fs.length
theorem q_Ev_one {md : Nat} {c' : q_CT} {fr : q_Fr} {d : Nat} {g : q_G} {t : q_Tm} : q_Ev md c' [fr] d g t = ∃ f k, q_wkT f k md d (q_PL fr.1) (fr.2.1, fr.2.2.1, fr.2.2.2.1, fr.2.2.2.2, g, t) = some c' := by
  obtain ⟨id, nx, ops, ls, st⟩ := fr
  rw [q_Ev]
theorem q_Ev_two {md : Nat} {c' : q_CT} {fr fr2 : q_Fr} {fs : List q_Fr} {d : Nat} {g : q_G} {t : q_Tm} : q_Ev md c' (fr :: fr2 :: fs) d g t = ∃ f v g' t', q_runT f md d (q_PL fr.1) (fr.2.1, fr.2.2.1, fr.2.2.2.1, fr.2.2.2.2, g, t) = some (v, g', t') ∧ q_Ev md c' ((fr2.1, fr2.2.1, fr2.2.2.1, fr2.2.2.2.1, q_push v fr2.2.2.2.2) :: fs) (d + 1) g' t' := by
  obtain ⟨id, nx, ops, ls, st⟩ := fr
  obtain ⟨id2, nx2, ops2, ls2, st2⟩ := fr2
  rw [q_Ev]
theorem q_ss_ev {md : Nat} {c' : q_CT} {fs fs' : List q_Fr} {g g' : q_G} {t t' : q_Tm} (h : q_ss md (fs, g, t) = some (fs', g', t')) (hlen : fs.length ≤ 1000) : fs'.length ≤ 1000 ∧ (q_Ev md c' fs' (1001 - fs'.length) g' t' → q_Ev md c' fs (1001 - fs.length) g t) := by
  cases fs with
  | nil => cases h
  | cons fr fs =>
    obtain ⟨id, nx, ops, ls, st⟩ := fr
    have h2 : q_ssk id fs g t (q_stepT md (q_PL id) (nx, ops, ls, st, g, t)) = some (fs', g', t') := h
    have hlen : fs.length + 1 ≤ 1000 := hlen
    unfold q_ssk at h2
    split at h2
    · next nx1 ops1 ls1 st1 g1 t1 e =>
      cases h2
      refine ⟨hlen, fun he => ?_⟩
      have he : q_Ev md c' ((id, nx1, ops1, ls1, st1) :: fs) (1001 - (fs.length + 1)) g' t' := he
      show q_Ev md c' ((id, nx, ops, ls, st) :: fs) (1001 - (fs.length + 1)) g t
      cases fs with
      | nil =>
        rw [q_Ev_one] at he ⊢
        obtain ⟨f, k, hk⟩ := he
        refine ⟨f, k + 1, ?_⟩
        rw [q_wkT, e]
        exact hk
      | cons fr2 fs =>
        rw [q_Ev_two] at he ⊢
        obtain ⟨f, v, g2, t2, hr, hv⟩ := he
        refine ⟨f + 1, v, g2, t2, ?_, hv⟩
        rw [q_runT, e]
        exact hr
    · next v e =>
      cases fs with
      | nil => cases h2
      | cons fr2 fs =>
        obtain ⟨id2, nx2, ops2, ls2, st2⟩ := fr2
        cases h2
        have hlen : fs.length + 1 + 1 ≤ 1000 := hlen
        refine ⟨by show fs.length + 1 ≤ 1000; omega, fun he => ?_⟩
        show q_Ev md c' ((id, nx, ops, ls, st) :: (id2, nx2, ops2, ls2, st2) :: fs) (1001 - (fs.length + 1 + 1)) g t
        rw [q_Ev_two]
        refine ⟨1, v, g, t, by rw [q_runT, e], ?_⟩
        rw [show 1001 - (fs.length + 1 + 1) + 1 = 1001 - (fs.length + 1) by omega]
        exact he
    · next id2 as nx1 ops1 ls1 st1 g1 t1 e =>
      obtain ⟨⟨hid, hfl⟩, h3⟩ := q_if_inv h2
      cases h3
      refine ⟨by show fs.length + 1 + 1 ≤ 1000; omega, fun he => ?_⟩
      have he : q_Ev md c' ((id2, 0, [], q_ent id2 as, []) :: (id, nx1, ops1, ls1, st1) :: fs) (1001 - (fs.length + 1 + 1)) g' t' := he
      rw [q_Ev_two] at he
      obtain ⟨f, v, g2, t2, hr, hv⟩ := he
      have hr : q_runT f md (1001 - (fs.length + 1 + 1)) (q_mP id2) (0, [], q_ent id2 as, [], g', t') = some (v, g2, t2) := by
        have h9 : q_PL id2 = q_mP id2 := if_neg hid
        rw [← h9]
        exact hr
      have ed : 1001 - (fs.length + 1 + 1) + 1 = 1001 - (fs.length + 1) := by omega
      show q_Ev md c' ((id, nx, ops, ls, st) :: fs) (1001 - (fs.length + 1)) g t
      rw [← ed]
      cases fs with
      | nil =>
        rw [q_Ev_one] at hv ⊢
        obtain ⟨f2, k, hk⟩ := hv
        refine ⟨max f f2, k + 1, ?_⟩
        rw [q_wkT, e]
        simp only
        rw [q_runT_le hr (Nat.le_max_left f f2)]
        exact q_wkT_le (Nat.le_max_right f f2) k hk
      | cons fr2 fs =>
        rw [q_Ev_two] at hv ⊢
        obtain ⟨f2, v2, g3, t3, hr2, hv2⟩ := hv
        refine ⟨max f f2 + 1, v2, g3, t3, ?_, hv2⟩
        rw [q_runT, e]
        simp only
        rw [q_runT_le hr (Nat.le_max_left f f2)]
        exact q_runT_le hr2 (Nat.le_max_right f f2)
    · cases h2
theorem q_ssn_ev {md : Nat} {c' : q_CT} : ∀ (n : Nat) {fs fs' : List q_Fr} {g g' : q_G} {t t' : q_Tm}, q_ssn md n (fs, g, t) = some (fs', g', t') → fs.length ≤ 1000 → fs'.length ≤ 1000 ∧ (q_Ev md c' fs' (1001 - fs'.length) g' t' → q_Ev md c' fs (1001 - fs.length) g t) := by
  intro n
  induction n with
  | zero =>
    intro fs fs' g g' t t' h hl
    cases h
    exact ⟨hl, fun h => h⟩
  | succ n ih =>
    intro fs fs' g g' t t' h hl
    rw [q_ssn] at h
    split at h
    · next c1 e =>
      obtain ⟨fs1, g1, t1⟩ := c1
      obtain ⟨h1, h2⟩ := q_ss_ev (c' := c') e hl
      obtain ⟨h3, h4⟩ := ih h h1
      exact ⟨h3, fun z => h2 (h4 z)⟩
    · cases h
def q_frb (a b : q_Fr) : Bool := decide (a.1 = b.1) && (decide (a.2.1 = b.2.1) && (decide (a.2.2.1 = b.2.2.1) && (decide (a.2.2.2.1 = b.2.2.2.1) && decide (a.2.2.2.2 = b.2.2.2.2))))
theorem q_frb_eq {a b : q_Fr} (h : q_frb a b = true) : a = b := by
  obtain ⟨a1, a2, a3, a4, a5⟩ := a
  obtain ⟨b1, b2, b3, b4, b5⟩ := b
  unfold q_frb at h
  rw [Bool.and_eq_true, Bool.and_eq_true, Bool.and_eq_true, Bool.and_eq_true] at h
  obtain ⟨h1, h2, h3, h4, h5⟩ := h
  have e1 : a1 = b1 := of_decide_eq_true h1
  have e2 : a2 = b2 := of_decide_eq_true h2
  have e3 : a3 = b3 := of_decide_eq_true h3
  have e4 : a4 = b4 := of_decide_eq_true h4
  have e5 : a5 = b5 := of_decide_eq_true h5
  rw [e1, e2, e3, e4, e5]
def q_fsb : List q_Fr → List q_Fr → Bool
  | [], [] => true
  | a :: r, b :: s => q_frb a b && q_fsb r s
  | _, _ => false
theorem q_fsb_eq : ∀ {a b : List q_Fr}, q_fsb a b = true → a = b
  | [], [], _ => rfl
  | a :: r, b :: s, h => by
    unfold q_fsb at h
    rw [Bool.and_eq_true] at h
    rw [q_frb_eq h.1, q_fsb_eq h.2]
  | [], _ :: _, h => by cases h
  | _ :: _, [], h => by cases h
def q_cfb (c : Option q_Cf) (fs : List q_Fr) (g : q_G) (t : q_Tm) : Bool := match c with
  | some (fs', g', t') => q_fsb fs' fs && (decide (g' = g) && decide (t' = t))
  | _ => false
theorem q_cfb_eq {c : Option q_Cf} {fs : List q_Fr} {g : q_G} {t : q_Tm} (h : q_cfb c fs g t = true) : c = some (fs, g, t) := by
  unfold q_cfb at h
  split at h
  · next fs' g' t' =>
    rw [Bool.and_eq_true, Bool.and_eq_true] at h
    obtain ⟨h1, h2, h3⟩ := h
    rw [q_fsb_eq h1, of_decide_eq_true h2, of_decide_eq_true h3]
  · cases h
