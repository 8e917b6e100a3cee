/-! THE LOCALS WITH WHICH A METHOD BEGINS -/
theorem q_c1_of {v : q_V} (h : q_set v = true) (hl : ¬ q_isL v = true) : q_c1 v = true := by
  match v with
  | .inl _ => rfl
  | .inr (.inl _) => exact absurd rfl hl
  | .inr (.inr (.inl _)) => rfl
  | .inr (.inr (.inr t)) => exact h
theorem q_ent_len {ad adK adV : Nat → Nat} {b n : Nat} : ∀ {as : List q_V} {rs : List Value}, q_vrs ad adK adV b n as rs → as.all q_set = true → (lg_sl rs).length = (q_entL as).length
  | [], [], _, _ => rfl
  | [], _ :: _, h, _ => h.elim
  | _ :: _, [], h, _ => h.elim
  | v :: as, r :: rs, h, hs => by
    rw [List.all_cons, Bool.and_eq_true] at hs
    have ih := q_ent_len h.2 hs.2
    have hc := q_vr_cat h.1
    unfold lg_sl at ih ⊢
    rw [List.flatMap_cons, List.length_append, ih]
    by_cases hl : q_isL v = true
    · rw [if_pos (hc.2 hl)]
      rw [q_entL, if_pos hl]
      simp
      omega
    · have h1 := hc.1 (q_c1_of hs.1 hl)
      rw [if_neg (by rw [h1]; decide)]
      rw [q_entL, if_neg hl]
      simp
      omega
theorem q_ent_get {ad adK adV : Nat → Nat} {b n : Nat} : ∀ {as : List q_V} {rs : List Value} (off : Nat), q_vrs ad adK adV b n as rs → as.all q_set = true → ∀ i v, (q_entL as)[i]? = some v → q_set v = true → ∃ r, (off + i, r) ∈ lv_args off rs ∧ q_vr ad adK adV b n v r
  | [], [], _, _, _, i, v, h, _ => by cases h
  | [], _ :: _, _, h, _, _, _, _, _ => h.elim
  | _ :: _, [], _, h, _, _, _, _, _ => h.elim
  | w :: as, r :: rs, off, h, hs, i, v, hi, hv => by
    rw [List.all_cons, Bool.and_eq_true] at hs
    have hc := q_vr_cat h.1
    by_cases hl : q_isL w = true
    · have h2 := hc.2 hl
      rw [q_entL, if_pos hl] at hi
      rw [lv_args, if_pos h2]
      match i, hi with
      | 0, hi => cases hi; exact ⟨r, List.mem_cons_self, h.1⟩
      | 1, hi => cases hi; cases hv
      | i + 2, hi =>
        obtain ⟨r', q1, q2⟩ := q_ent_get (off + 2) h.2 hs.2 i v hi hv
        refine ⟨r', List.mem_cons_of_mem _ ?_, q2⟩
        rw [show off + (i + 2) = off + 2 + i by omega]
        exact q1
    · have h1 := hc.1 (q_c1_of hs.1 hl)
      rw [q_entL, if_neg hl] at hi
      rw [lv_args, if_neg (by rw [h1]; decide)]
      match i, hi with
      | 0, hi => cases hi; exact ⟨r, List.mem_cons_self, h.1⟩
      | i + 1, hi =>
        obtain ⟨r', q1, q2⟩ := q_ent_get (off + 1) h.2 hs.2 i v hi hv
        refine ⟨r', List.mem_cons_of_mem _ ?_, q2⟩
        rw [show off + (i + 1) = off + 1 + i by omega]
        exact q1
theorem q_ent_lr {ad adK adV : Nat → Nat} {b n id : Nat} {as : List q_V} {rs : List Value} (h : q_vrs ad adK adV b n as rs) (hs : as.all q_set = true) (hl : (q_entL as).length ≤ q_mL id) :
    q_lr ad adK adV b n (q_mL id) (q_ent id as) ((lg_sl rs ++ List.replicate (q_mL id - (lg_sl rs).length) Slot.unset).toArray) := by
  refine ⟨?_, lv_args 0 rs, lv_entry rs (by rw [q_ent_len h hs]; exact hl), fun i v hi hv => ?_⟩
  · unfold q_ent
    rw [List.length_append, List.length_replicate]
    omega
  · unfold q_ent at hi
    by_cases hlt : i < (q_entL as).length
    · rw [List.getElem?_append_left hlt] at hi
      obtain ⟨r, q1, q2⟩ := q_ent_get 0 h hs i v hi hv
      rw [Nat.zero_add] at q1
      exact ⟨r, q1, q2⟩
    · rw [List.getElem?_append_right (by omega), List.getElem?_replicate] at hi
      split at hi
      · cases hi; cases hv
      · cases hi
/-! THE END OF A METHOD -/
theorem q_rk_sp {op : Instr} {st : List q_V} {v : Option q_V} (h : q_rk op st v) : q_sp op = true := by
  cases op <;> first | rfl | exact h.elim
theorem q_tag_inv {rt : Option FieldType} {t : Nat} (h : q_tag rt = some t) : (rt = some .int ∧ t = 0) ∨ (rt = some .boolean ∧ t = 1) ∨ (rt = some .char ∧ t = 2) ∨ (rt = some .byte ∧ t = 3) := by
  unfold q_tag at h
  split at h
  · cases h; exact Or.inl ⟨rfl, rfl⟩
  · cases h; exact Or.inr (Or.inl ⟨rfl, rfl⟩)
  · cases h; exact Or.inr (Or.inr (Or.inl ⟨rfl, rfl⟩))
  · cases h; exact Or.inr (Or.inr (Or.inr ⟨rfl, rfl⟩))
  · cases h
theorem q_narrow {X : Int32} {t : Nat} {rt : Option FieldType} (h : q_tag rt = some t) (hx : t = 0 ∨ (t = 1 ∧ (X.toInt = 0 ∨ X.toInt = 1)) ∨ (t = 2 ∧ 0 ≤ X.toInt ∧ X.toInt < 65536) ∨ (t = 3 ∧ -128 ≤ X.toInt ∧ X.toInt < 128)) : ∃ ty, rt = some ty ∧ narrow ty (.int X) = .int X := by
  rcases q_tag_inv h with ⟨rfl, rfl⟩ | ⟨rfl, rfl⟩ | ⟨rfl, rfl⟩ | ⟨rfl, rfl⟩
  · exact ⟨.int, rfl, rfl⟩
  · refine ⟨.boolean, rfl, ?_⟩
    rcases hx with h | ⟨-, h⟩ | ⟨h, -⟩ | ⟨h, -⟩
    · cases h
    · rcases h with h | h
      · have e : X = 0 := Int32.toInt_inj.mp (by rw [h]; decide)
        subst e; rfl
      · have e : X = 1 := Int32.toInt_inj.mp (by rw [h]; decide)
        subst e; rfl
    · cases h
    · cases h
  · refine ⟨.char, rfl, ?_⟩
    rcases hx with h | ⟨h, -⟩ | ⟨-, h1, h2⟩ | ⟨h, -⟩
    · cases h
    · cases h
    · show Value.int (X.toUInt32.toUInt16.toUInt32.toInt32) = _
      rw [lg_i2c_small h1 h2]
    · cases h
  · refine ⟨.byte, rfl, ?_⟩
    rcases hx with h | ⟨h, -⟩ | ⟨h, -⟩ | ⟨-, h1, h2⟩
    · cases h
    · cases h
    · cases h
    · show Value.int (X.toInt8.toInt32) = _
      rw [lg_i2b_small h1 h2]
theorem q_rs_nrv {ow : Nat} {rt : Option FieldType} {ini : Bool} {pc i len : Nat} {op : Instr} {st : List q_V} {v : Option q_V} (hrs : q_rs ow rt ini pc (.invokevirtual i) len = some op) (hrk : q_rk op st v) : False := by
  obtain ⟨-, h2⟩ := q_if_inv hrs
  by_cases h53 : ow = 1 ∧ i = 53
  · rw [if_pos h53] at h2
    cases h2
    exact hrk
  · rw [if_neg h53] at h2
    split at h2
    · obtain ⟨-, h3⟩ := q_if_inv h2
      cases h3
      exact hrk
    · cases h2
theorem q_rs_nrs {ow : Nat} {rt : Option FieldType} {ini : Bool} {pc i len : Nat} {op : Instr} {st : List q_V} {v : Option q_V} (hrs : q_rs ow rt ini pc (.invokespecial i) len = some op) (hrk : q_rk op st v) : False := by
  obtain ⟨-, h2⟩ := q_if_inv hrs
  by_cases hot : q_otab.contains (ow, i) = true
  · rw [if_pos hot] at h2
    cases h2
    exact hrk
  · rw [if_neg hot] at h2
    split at h2
    · cases h2
      exact hrk
    · split at h2
      · cases h2
        exact hrk
      · split at h2
        · obtain ⟨-, h3⟩ := q_if_inv h2
          cases h3
          exact hrk
        · cases h2
theorem q_rs_nrt {ow : Nat} {rt : Option FieldType} {ini : Bool} {pc i len : Nat} {op : Instr} {st : List q_V} {v : Option q_V} (hrs : q_rs ow rt ini pc (.invokestatic i) len = some op) (hrk : q_rk op st v) : False := by
  obtain ⟨-, h2⟩ := q_if_inv hrs
  by_cases hat : q_atab.contains (ow, i) = true
  · rw [if_pos hat] at h2
    cases h2
    exact hrk
  · rw [if_neg hat] at h2
    split at h2
    · obtain ⟨-, h3⟩ := q_if_inv h2
      cases h3
      exact hrk
    · cases h2
set_option maxHeartbeats 1000000 in
theorem q_fin {p : Program} {l : Launch} {e : Env} {R : Room} {s : State} {m : MethodId} {args : Array Value} {below : List Frame} {meth : Method} {c : Code} {cc : ByteArray} {D : va_G} {C : q_CI} {b L : Nat} {xs : Nat → Int32} {adK adV : Nat → Nat} {sb md ow : Nat} {rt : Option FieldType} {ini : Bool} {ad ad' : Nat → Nat} {H' : Heap} {locs' : List Loc} {lsr' : Array Slot} {str' : List Value} {cells' slots' pc' len n n' : Nat} {raw op : Instr} {st' : List q_V} {v : Option q_V} {M' : q_M}
    (hx : p.tables.exec = Jvm.exec) (hb : c.code = cc) (hr : meth.sig.returnType = rt) (hlk : meth.locks = false) (hWo : q_Wo D C L xs sb md ad' n' M' s.heap H' locs') (hvr : q_vrs ad' adK adV b n' st' str') (had : ∀ x, x < n → ad' x = ad x)
    (hd : decode cc pc' = .ok (raw, len)) (hrs : q_rs ow rt ini pc' raw len = some op) (hrk : q_rk op st' v) : W p l e R s m args below meth c H' locs' cells' slots' (MQ below (q_MQc D C b L xs adK adV sb md ad n v n' M') args s cells' slots' (q_A sb)) (F0 m pc' lsr' str') := by
  obtain ⟨hP, hD, hok, hscr, hn, hS⟩ := hWo
  have hf : ∀ q ∈ locs', q_A sb q.base := hS.2.2
  have hQ : ∀ rv, q_an ad' adK adV b n' v rv → ∀ t : State, t.heap = H' → s.WarmedH t.vm → q_MQc D C b L xs adK adV sb md ad n v n' M' args s (.returned rv) t := fun rv h t ht _ => ⟨ad', rv, rfl, h, had, by rw [ht]; exact hP, hD, hok, hscr, hn, hS.F ht⟩
  rcases q_rs_sp hrs (q_rk_sp hrk) with rfl | rfl | rfl | rfl | ⟨i, rfl⟩ | ⟨i, rfl⟩ | ⟨i, rfl⟩
  · obtain ⟨hl, h2⟩ := q_if_inv hrs
    split at h2
    · next t ht =>
      cases h2
      subst hl
      obtain ⟨x, rfl, rfl, hx2⟩ := hrk
      obtain ⟨_, str1, rfl, hv1, hs1⟩ := q_vrs_cons hvr
      obtain ⟨X, rfl, rfl⟩ := q_vr_i hv1
      match str1, hs1 with
      | [], _ =>
        obtain ⟨ty, hty, hnar⟩ := q_narrow (X := X) ht hx2
        exact W.zret hx hb (hr.trans hty) hnar (hQ _ ⟨X, rfl, rfl⟩) hf hd hlk
      | _ :: _, h => exact h.elim
    · cases h2
  · obtain ⟨⟨hl, hrt⟩, h2⟩ := q_if_inv hrs
    cases h2
    subst hl
    obtain ⟨x, rfl, rfl⟩ := hrk
    obtain ⟨_, str1, rfl, hv1, hs1⟩ := q_vrs_cons hvr
    obtain ⟨X, rfl, rfl⟩ := q_vr_l hv1
    match str1, hs1 with
    | [], _ => exact W.lret hx hb (hr.trans hrt) (hQ _ ⟨X, rfl, rfl⟩) hf hd hlk
    | _ :: _, h => exact h.elim
  · obtain ⟨⟨hl, hrt⟩, h2⟩ := q_if_inv hrs
    cases h2
    subst hl
    obtain ⟨k, a, rfl, rfl⟩ := hrk
    obtain ⟨_, str1, rfl, hv1, hs1⟩ := q_vrs_cons hvr
    obtain ⟨h1, h2, rfl⟩ := hv1
    match str1, hs1 with
    | [], _ => exact W.aret hx hb (hr.trans hrt) (Or.inl ⟨_, rfl⟩) (Or.inr ⟨_, rfl⟩) (hQ _ ⟨h1, h2, rfl⟩) hf hd hlk
    | _ :: _, h => exact h.elim
  · obtain ⟨⟨hl, hrt⟩, h2⟩ := q_if_inv hrs
    cases h2
    subst hl
    obtain ⟨rfl, rfl⟩ := hrk
    match str', hvr with
    | [], _ => exact W.vret hx hb (hr.trans hrt) (hQ _ trivial) hf hd hlk
    | _ :: _, h => exact h.elim
  · exact (q_rs_nrv hrs hrk).elim
  · exact (q_rs_nrs hrs hrk).elim
  · exact (q_rs_nrt hrs hrk).elim
