/-! THE PURE RUN IS THE MACHINE'S -/
set_option maxHeartbeats 2000000 in
theorem q_sound (l : Launch) {D : va_G} {C : q_CI} {b L : Nat} {xs : Nat → Int32} {adK adV : Nat → Nat} {sb md : Nat} : ∀ (f : Nat) {p : Program} {e : Env} {R : Room} {s : State} {m : MethodId} {args : Array Value} {below : List Frame} {meth : Method} {c : Code} {cc : ByteArray} {d ow nL : Nat} {rt : Option FieldType} {ini : Bool} {k0 k1 n0 : Nat} {ad0 : Nat → Nat} {Qz : State → Prop}
    {ad : Nat → Nat} {H : Heap} {locs : List Loc} {lsr : Array Slot} {str : List Value} {cells slots pc : Nat} {P : q_P} {c0 : q_C} {r : Option q_V × q_G × q_M},
    q_Cx p R s m args meth c cc D C b L xs adK adV sb d ow nL rt ini → q_chk ow rt ini cc P = true → q_run f md d P c0 = some r → q_lim R k0 k1 r.2.1 →
    q_At D C b L xs adK adV sb md ow nL rt ini cc k0 k1 n0 ad0 s.heap ad H locs lsr str cells slots pc c0 →
    (∀ (ad' : Nat → Nat) (H' : Heap) (locs' : List Loc) (lsr' : Array Slot) (str' : List Value) (cells' slots' pc' len : Nat) (raw op : Instr) (st' : List q_V), q_Wo D C L xs sb md ad' r.2.1.1 r.2.2 s.heap H' locs' → q_vrs ad' adK adV b r.2.1.1 st' str' → k0 + cells' = r.2.1.1 → k1 + slots' = r.2.1.2 → (∀ x, x < n0 → ad' x = ad0 x) →
      decode cc pc' = .ok (raw, len) → q_rs ow rt ini pc' raw len = some op → q_rk op st' r.1 → W p l e R s m args below meth c H' locs' cells' slots' Qz (F0 m pc' lsr' str')) →
    W p l e R s m args below meth c H locs cells slots Qz (F0 m pc lsr str) := by
  intro f
  induction f with
  | zero =>
    intro p e R s m args below meth c cc d ow nL rt ini k0 k1 n0 ad0 Qz ad H locs lsr str cells slots pc P c0 r hC hP h
    rw [q_run] at h
    cases h
  | succ f ih =>
    intro p e R s m args below meth c cc d ow nL rt ini k0 k1 n0 ad0 Qz ad H locs lsr str cells slots pc P c0 r hC hP h hl hA hFin
    obtain ⟨nx, ops, ls, st, g, M⟩ := c0
    rw [q_run] at h
    split at h
    · cases h
    · next c' hs =>
      have hgr := q_run_grow _ h
      exact q_sd_step hC hP hA hs ⟨Nat.le_trans hgr.1 hl.1, Nat.le_trans hgr.1 hl.2.1, Nat.le_trans hgr.2 hl.2.2⟩ (fun ad' H' locs' lsr' str' cells' slots' pc' hA' => ih hC hP h hl hA' hFin)
    · next v hs =>
      cases h
      obtain ⟨op, ops', rfl, hrk⟩ := q_step_rt hs
      obtain ⟨hWo, hlr, hvr, hc, hsl, hck, hn0, had⟩ := hA
      obtain ⟨raw, len, hd, hor, -⟩ := q_chkB_cons hck
      rcases hor with rfl | hrs
      · exact hrk.elim
      · exact hFin ad H locs lsr str cells slots pc len raw op st hWo hvr hc hsl had hd hrs hrk
    · next id as c' hs =>
      obtain ⟨op, ops', rfl, hcl⟩ := q_step_cl hs
      cases d with
      | zero => cases h
      | succ d =>
        simp only at h
        split at h
        · cases h
        · next v g2 M2 hr =>
          have hcl2 := hcl
          obtain ⟨-, -, -, -, -, -, -, rfl⟩ := hcl2
          have hg2 := q_run_grow _ hr
          have hgr := q_run_grow _ h
          have hl2 : q_lim R k0 k1 g2 := ⟨Nat.le_trans hgr.1 hl.1, Nat.le_trans hgr.1 hl.2.1, Nat.le_trans hgr.2 hl.2.2⟩
          have hK : ∀ (ad' : Nat → Nat) (H' : Heap) (locs' : List Loc) (lsr' : Array Slot) (str' : List Value) (cells' slots' pc' : Nat), q_At D C b L xs adK adV sb md ow nL rt ini cc k0 k1 n0 ad0 s.heap ad' H' locs' lsr' str' cells' slots' pc' (q_put (nx, ops', ls, st.drop (q_mN id), g, M) v g2 M2) → W p l e R s m args below meth c H' locs' cells' slots' Qz (F0 m pc' lsr' str') :=
            fun ad' H' locs' lsr' str' cells' slots' pc' hA' => ih hC hP h hl hA' hFin
          refine q_sd_call hC hA hcl (v := v) (g2 := g2) (M2 := M2) hg2 (fun h206 rs hset hent => ?_) (fun h206 hid _ _ _ _ => q_sd_math hC hA hcl hr hl2 hK h206 hid) hl2 hK
          have hid : id < 209 := by omega
          unfold q_Mt
          refine Met.ofW (cc := q_mC id) (maxL := q_mL id) (ret := q_mR id) (by rw [q_clsA id hid]; exact q_cls_pl _ (q_mO_206 id h206)) rfl ?_
          intro p' e' s' m' args' below' meth' c1 s1 B hml hv
          obtain ⟨rfl, hvr, hE, hPp, hD, hok, hscr, hn⟩ := hv
          have hts := atoms_spec (ws := q_ws id) B.pre
          have hown := findClass_of_methodNamed B.named
          rw [q_clsA id hid] at hown
          have hnm := (name_of_methodNamed B.named B.method).1
          rw [lg_entry_eq]
          have hg2a : g.1 ≤ g2.1 := hg2.1
          have hg2b : g.2 ≤ g2.2 := hg2.2
          refine ih (ad0 := ad) (n0 := g.1) (k0 := g.1) (k1 := g.2) (ad := ad) (d := d) (ow := q_mO id) (nL := q_mL id) (rt := q_mR id) (ini := q_mI id) (cc := q_mC id) ⟨B.exec, B.bytes, hml, B.returns, B.notSynchronized, hown, fun w hw => hts w (List.mem_cons_of_mem _ hw), fun hi => ?_, hE, Nat.le_refl _, Nat.le_refl _⟩ (q_ckA id hid) hr ?_ ⟨⟨hPp, hD, hok, hscr, hn, va_S.rf⟩, q_ent_lr hvr hset hent, trivial, rfl, rfl, rfl, Nat.le_refl _, fun _ _ => rfl⟩ ?_
          · rw [hnm]
            exact (q_ctor_name id (q_ctor_facts id hi)).1
          · refine ⟨hl2.1, ?_, ?_⟩
            · show g2.1 ≤ g.1 + (g2.1 - g.1)
              omega
            · show g2.2 ≤ g.2 + (g2.2 - g.2)
              omega
          · intro ad' H' locs' lsr' str' cells' slots' pc' len raw op st' hWo hvr' hc hsl had hd hrs hrk
            have hc : g.1 + cells' = g2.1 := hc
            have hsl : g.2 + slots' = g2.2 := hsl
            have e1 : g2.1 - g.1 = cells' := by omega
            have e2 : g2.2 - g.2 = slots' := by omega
            rw [e1, e2]
            exact q_fin B.exec B.bytes B.returns B.notSynchronized hWo hvr' had hd hrs hrk
