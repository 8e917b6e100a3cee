/-! A WALK OF SOME STEPS, AND A METHOD'S CONTRACT OUT OF ITS RUN -/
set_option maxHeartbeats 2000000 in
theorem q_met (l : Launch) {D : va_G} {C : q_CI} {b L : Nat} {xs : Nat → Int32} {adK adV : Nat → Nat} {sb md f d id : Nat} {ad : Nat → Nat} {as : List q_V} {rs : List Value} {g g2 : q_G} {M M2 : q_M} {v : Option q_V} (hr : q_run f md d (q_mP id) (0, [], q_ent id as, [], g, M) = some (v, g2, M2)) (h206 : id < 206) (hl : g2.1 ≤ 1000000)
    (hset : as.all q_set = true) (hent : (q_entL as).length ≤ q_mL id) : q_Mt l D C b L xs adK adV sb md d id ad as rs g M v g2 M2 := by
  have hid : id < 209 := by omega
  have hg2 := q_run_grow _ hr
  have hg2a : g.1 ≤ g2.1 := hg2.1
  have hg2b : g.2 ≤ g2.2 := hg2.2
  unfold q_Mt
  refine Met.ofW (cc := q_mC id) (maxL := q_mL id) (ret := q_mR id) (by rw [q_clsA id hid]; exact q_cls_pl _ (q_mO_206 id h206)) rfl ?_
  intro p' e' s' m' args' below' meth' c1 s1 B hml hv
  obtain ⟨rfl, hvr, hE, hPp, hD, hok, hscr, hn⟩ := hv
  have hts := atoms_spec (ws := q_ws id) B.pre
  have hown := findClass_of_methodNamed B.named
  rw [q_clsA id hid] at hown
  have hnm := (name_of_methodNamed B.named B.method).1
  rw [lg_entry_eq]
  refine q_sound l f (ad0 := ad) (n0 := g.1) (k0 := g.1) (k1 := g.2) (ad := ad) (d := d) (ow := q_mO id) (nL := q_mL id) (rt := q_mR id) (ini := q_mI id) (cc := q_mC id) ⟨B.exec, B.bytes, hml, B.returns, B.notSynchronized, hown, fun w hw => hts w (List.mem_cons_of_mem _ hw), fun hi => ?_, hE, Nat.le_refl _, Nat.le_refl _⟩ (q_ckA id hid) hr ?_ ⟨⟨hPp, hD, hok, hscr, hn, va_S.rf⟩, q_ent_lr hvr hset hent, trivial, rfl, rfl, rfl, Nat.le_refl _, fun _ _ => rfl⟩ ?_
  · rw [hnm]
    exact (q_ctor_name id (q_ctor_facts id hi)).1
  · refine ⟨hl, ?_, ?_⟩
    · show g2.1 ≤ g.1 + (g2.1 - g.1)
      omega
    · show g2.2 ≤ g.2 + (g2.2 - g.2)
      omega
  · intro ad' H' locs' lsr' str' cells' slots' pc' len raw op st' hWo hvr' hc hsl had hd hrs hrk
    have hc : g.1 + cells' = g2.1 := hc
    have hsl : g.2 + slots' = g2.2 := hsl
    have e1 : g2.1 - g.1 = cells' := by omega
    have e2 : g2.2 - g.2 = slots' := by omega
    rw [e1, e2]
    exact q_fin B.exec B.bytes B.returns B.notSynchronized hWo hvr' had hd hrs hrk
def q_wkT : Nat → Nat → Nat → Nat → q_P → q_CT → Option q_CT
  | _, 0, _, _, _, c => some c
  | f, k + 1, md, d, P, c => match q_stepT md P c with
    | some (.inl c') => q_wkT f k md d P c'
    | some (.inr (.inr (id, as, c'))) => match d with
      | 0 => none
      | d + 1 => match q_runT f md d (q_mP id) (0, [], q_ent id as, [], c'.2.2.2.2.1, c'.2.2.2.2.2) with
        | none => none
        | some (v, g, t) => q_wkT f k md (d + 1) P (q_putT c' v g t)
    | _ => none
theorem q_wkT_grow {md f : Nat} : ∀ (k : Nat) {d : Nat} {P : q_P} {c c' : q_CT}, q_wkT f k md d P c = some c' → c.2.2.2.2.1.1 ≤ c'.2.2.2.2.1.1 ∧ c.2.2.2.2.1.2 ≤ c'.2.2.2.2.1.2 := by
  intro k
  induction k with
  | zero =>
    intro d P c c' h
    rw [q_wkT] at h
    cases h
    exact ⟨Nat.le_refl _, Nat.le_refl _⟩
  | succ k ih =>
    intro d P c c' h
    have hs := q_step_sm (md := md) (P := P) (B := fun _ _ => 0) c
    rw [q_wkT] at h
    split at h
    · next c1 e =>
      rw [e] at hs
      have hs : q_step md P (q_un (fun _ _ => 0) c) = some (.inl (q_un (fun _ _ => 0) c1)) := hs
      have h1 := q_step_gr hs
      have h2 := ih h
      exact ⟨Nat.le_trans h1.1 h2.1, Nat.le_trans h1.2 h2.2⟩
    · next id as c1 e =>
      rw [e] at hs
      have hs : q_step md P (q_un (fun _ _ => 0) c) = some (.inr (.inr (id, as, q_un (fun _ _ => 0) c1))) := hs
      obtain ⟨op, ops', -, hcl⟩ := q_step_cl hs
      obtain ⟨-, -, -, -, -, -, -, hc1⟩ := hcl
      have hg1 : c1.2.2.2.2.1 = c.2.2.2.2.1 := congrArg (fun z => z.2.2.2.2.1) hc1
      cases d with
      | zero => cases h
      | succ d =>
        simp only at h
        split at h
        · cases h
        · next v g t hr =>
          have h1 := q_run_grow _ (q_runT_ok (B := fun _ _ => 0) f hr)
          have h2 := ih h
          have h1 : c1.2.2.2.2.1.1 ≤ g.1 ∧ c1.2.2.2.2.1.2 ≤ g.2 := h1
          rw [hg1] at h1
          exact ⟨Nat.le_trans h1.1 h2.1, Nat.le_trans h1.2 h2.2⟩
    · cases h
section WALK
variable {p : Program} {l : Launch} {e : Env} {R : Room} {s : State} {m : MethodId} {args : Array Value} {below : List Frame} {meth : Method} {c : Code} {cc : ByteArray} {D : va_G} {C : q_CI} {b L : Nat} {xs : Nat → Int32} {adK adV : Nat → Nat} {sb md ow nL : Nat} {rt : Option FieldType} {ini : Bool} {k0 k1 n0 : Nat} {ad0 : Nat → Nat} {Qz : State → Prop}
set_option maxHeartbeats 2000000 in
theorem q_wkT_ok {f : Nat} {B : q_M} : ∀ (k : Nat) {d : Nat} {P : q_P} {c0 c' : q_CT} {ad : Nat → Nat} {H : Heap} {locs : List Loc} {lsr : Array Slot} {str : List Value} {cells slots pc : Nat}, q_Cx p R s m args meth c cc D C b L xs adK adV sb d ow nL rt ini → q_chk ow rt ini cc P = true → q_wkT f k md d P c0 = some c' → q_lim R k0 k1 c'.2.2.2.2.1 →
    q_At D C b L xs adK adV sb md ow nL rt ini cc k0 k1 n0 ad0 s.heap ad H locs lsr str cells slots pc (q_un B c0) →
    (∀ (ad' : Nat → Nat) (H' : Heap) (locs' : List Loc) (lsr' : Array Slot) (str' : List Value) (cells' slots' pc' : Nat), q_At D C b L xs adK adV sb md ow nL rt ini cc k0 k1 n0 ad0 s.heap ad' H' locs' lsr' str' cells' slots' pc' (q_un B c') → W p l e R s m args below meth c H' locs' cells' slots' Qz (F0 m pc' lsr' str')) →
    W p l e R s m args below meth c H locs cells slots Qz (F0 m pc lsr str) := by
  intro k
  induction k with
  | zero =>
    intro d P c0 c' ad H locs lsr str cells slots pc hC hP h hl hA hK
    rw [q_wkT] at h
    cases h
    exact hK ad H locs lsr str cells slots pc hA
  | succ k ih =>
    intro d P c0 c' ad H locs lsr str cells slots pc hC hP h hl hA hK
    have hs := q_step_sm (md := md) (P := P) (B := B) c0
    rw [q_wkT] at h
    split at h
    · next c1 e1 =>
      rw [e1] at hs
      have hs : q_step md P (q_un B c0) = some (.inl (q_un B c1)) := hs
      have hgr := q_wkT_grow _ h
      exact q_sd_step hC hP hA hs ⟨Nat.le_trans hgr.1 hl.1, Nat.le_trans hgr.1 hl.2.1, Nat.le_trans hgr.2 hl.2.2⟩ (fun ad' H' locs' lsr' str' cells' slots' pc' hA' => ih hC hP h hl hA' hK)
    · next id as c1 e1 =>
      rw [e1] at hs
      have hs : q_step md P (q_un B c0) = some (.inr (.inr (id, as, q_un B c1))) := hs
      obtain ⟨nx, ops, ls, st, g, t⟩ := c0
      obtain ⟨op, ops', hops, hcl⟩ := q_step_cl (ops := ops) (show q_step md P (nx, ops, ls, st, g, q_lk t B) = _ from hs)
      subst hops
      cases d with
      | zero => cases h
      | succ d =>
        simp only at h
        split at h
        · cases h
        · next v g2 t2 hr =>
          have hcl2 := hcl
          obtain ⟨-, -, -, -, -, -, -, hc1⟩ := hcl2
          have hr2 := q_runT_ok (B := B) f hr
          have hr3 : q_run f md d (q_mP id) (0, [], q_ent id as, [], g, q_lk t B) = some (v, g2, q_lk t2 B) := by
            have e2 : (q_un B c1).2.2.2.2 = (g, q_lk t B) := congrArg (fun z => z.2.2.2.2) hc1
            have h9 : q_run f md d (q_mP id) (0, [], q_ent id as, [], (q_un B c1).2.2.2.2) = some (v, g2, q_lk t2 B) := hr2
            rw [e2] at h9
            exact h9
          have hg2 := q_run_grow _ hr3
          have hgr := q_wkT_grow _ h
          have hl2 : q_lim R k0 k1 g2 := ⟨Nat.le_trans hgr.1 hl.1, Nat.le_trans hgr.1 hl.2.1, Nat.le_trans hgr.2 hl.2.2⟩
          have hK2 : ∀ (ad' : Nat → Nat) (H' : Heap) (locs' : List Loc) (lsr' : Array Slot) (str' : List Value) (cells' slots' pc' : Nat), q_At D C b L xs adK adV sb md ow nL rt ini cc k0 k1 n0 ad0 s.heap ad' H' locs' lsr' str' cells' slots' pc' (q_put (q_un B c1) v g2 (q_lk t2 B)) → W p l e R s m args below meth c H' locs' cells' slots' Qz (F0 m pc' lsr' str') :=
            fun ad' H' locs' lsr' str' cells' slots' pc' hA' => ih hC hP h hl hA' hK
          exact q_sd_call hC hA hcl (v := v) (g2 := g2) (M2 := q_lk t2 B) hg2 (fun h206 rs hset hent => q_met l hr3 h206 hl2.1 hset hent) (fun h206 hid _ _ _ _ => q_sd_math hC hA hcl hr3 hl2 hK2 h206 hid) hl2 hK2
    · cases h
end WALK
