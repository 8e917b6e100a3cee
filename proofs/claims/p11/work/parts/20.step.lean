/-! A STEP OF THE PURE MACHINE, AND THE MACHINE -/
def q_Cx (p : Program) (R : Room) (s : State) (m : MethodId) (args : Array Value) (meth : Method) (c : Code) (cc : ByteArray) (D : va_G) (C : q_CI) (b L : Nat) (xs : Nat → Int32) (adK adV : Nat → Nat) (sb d ow nL : Nat) (rt : Option FieldType) (ini : Bool) : Prop :=
  p.tables.exec = Jvm.exec ∧ c.code = cc ∧ c.maxLocals = nL ∧ meth.sig.returnType = rt ∧ meth.locks = false ∧ s.vm.findClass (q_cls ow) = some m.cls ∧ (∀ w ∈ q_Lw, w.before args s = true) ∧ (ini = true → meth.name = "<init>") ∧ q_Env D C b L xs adK adV sb s ∧ d + 1 ≤ R.frames ∧ 64 * (d + 1) ≤ R.locals
def q_At (D : va_G) (C : q_CI) (b L : Nat) (xs : Nat → Int32) (adK adV : Nat → Nat) (sb md ow nL : Nat) (rt : Option FieldType) (ini : Bool) (cc : ByteArray) (k0 k1 n0 : Nat) (ad0 : Nat → Nat) (H0 : Heap)
    (ad : Nat → Nat) (H : Heap) (locs : List Loc) (lsr : Array Slot) (str : List Value) (cells slots pc : Nat) (c : q_C) : Prop :=
  q_Wo D C L xs sb md ad c.2.2.2.2.1.1 c.2.2.2.2.2 H0 H locs ∧ q_lr ad adK adV b c.2.2.2.2.1.1 nL c.2.2.1 lsr ∧ q_vrs ad adK adV b c.2.2.2.2.1.1 c.2.2.2.1 str ∧ k0 + cells = c.2.2.2.2.1.1 ∧ k1 + slots = c.2.2.2.2.1.2 ∧ q_chkB ow rt ini cc pc c.2.1 c.1 = true ∧ n0 ≤ c.2.2.2.2.1.1 ∧ ∀ x, x < n0 → ad x = ad0 x
def q_lim (R : Room) (k0 k1 : Nat) (g : q_G) : Prop := g.1 ≤ 1000000 ∧ g.1 ≤ k0 + R.cells ∧ g.2 ≤ k1 + R.slots
theorem q_blk_mem {pc : Nat} {b : List Instr × Nat} : ∀ {P : q_P}, q_blk P pc = some b → (pc, b) ∈ P
  | [], h => by cases h
  | e :: r, h => by
    unfold q_blk at h
    split at h
    · next hc =>
      obtain ⟨e1, e2⟩ := e
      cases h
      cases hc
      exact List.mem_cons_self
    · exact List.mem_cons_of_mem _ (q_blk_mem h)
theorem q_chkB_nil {ow : Nat} {rt : Option FieldType} {ini : Bool} {cc : ByteArray} {pc nx : Nat} (h : q_chkB ow rt ini cc pc [] nx = true) : pc = nx := by
  unfold q_chkB at h
  exact of_decide_eq_true h
theorem q_chkB_cons {ow : Nat} {rt : Option FieldType} {ini : Bool} {cc : ByteArray} {pc nx : Nat} {op : Instr} {ops : List Instr} (h : q_chkB ow rt ini cc pc (op :: ops) nx = true) :
    ∃ raw len, decode cc pc = .ok (raw, len) ∧ (op = .athrow ∨ q_rs ow rt ini pc raw len = some op) ∧ q_chkB ow rt ini cc (pc + len) ops nx = true := by
  unfold q_chkB at h
  split at h
  · next raw len hd =>
    rw [Bool.and_eq_true, Bool.or_eq_true, decide_eq_true_eq, decide_eq_true_eq] at h
    exact ⟨raw, len, hd, h.1, h.2⟩
  · cases h
section STEP
variable {p : Program} {l : Launch} {e : Env} {R : Room} {s : State} {m : MethodId} {args : Array Value} {below : List Frame} {meth : Method} {c : Code} {cc : ByteArray} {D : va_G} {C : q_CI} {b L : Nat} {xs : Nat → Int32} {adK adV : Nat → Nat} {sb md d ow nL : Nat} {rt : Option FieldType} {ini : Bool} {k0 k1 n0 : Nat} {ad0 : Nat → Nat} {Qz : State → Prop}
  {ad : Nat → Nat} {H : Heap} {locs : List Loc} {lsr : Array Slot} {str : List Value} {cells slots pc : Nat} {P : q_P} {c0 c' : q_C}
theorem q_sd_step (hC : q_Cx p R s m args meth c cc D C b L xs adK adV sb d ow nL rt ini) (hP : q_chk ow rt ini cc P = true)
    (hA : q_At D C b L xs adK adV sb md ow nL rt ini cc k0 k1 n0 ad0 s.heap ad H locs lsr str cells slots pc c0) (hs : q_step md P c0 = some (.inl c')) (hl9 : q_lim R k0 k1 c'.2.2.2.2.1)
    (hK : ∀ (ad' : Nat → Nat) (H' : Heap) (locs' : List Loc) (lsr' : Array Slot) (str' : List Value) (cells' slots' pc' : Nat), q_At D C b L xs adK adV sb md ow nL rt ini cc k0 k1 n0 ad0 s.heap ad' H' locs' lsr' str' cells' slots' pc' c' → W p l e R s m args below meth c H' locs' cells' slots' Qz (F0 m pc' lsr' str')) :
    W p l e R s m args below meth c H locs cells slots Qz (F0 m pc lsr str) := by
  obtain ⟨nx, ops, ls, st, g, M⟩ := c0
  obtain ⟨hWo, hlr, hvr, hc, hsl, hck, hn0, had⟩ := hA
  have hg := q_step_gr hs
  cases ops with
  | nil =>
    have h2 : (q_blk P nx).bind (fun b => q_go b.2 b.1 ls st g M) = some (.inl c') := hs
    have hpc := q_chkB_nil hck
    have hpc : pc = nx := hpc
    subst hpc
    cases hb : q_blk P pc with
    | none => rw [hb] at h2; cases h2
    | some b2 =>
      rw [hb] at h2
      obtain ⟨n2, o2, l2, s2, g2, M2⟩ := c'
      obtain ⟨rfl, rfl, rfl, rfl, rfl, rfl⟩ := q_go_inj (show q_go b2.2 b2.1 ls st g M = _ from h2)
      have hm := (List.all_eq_true.mp hP) _ (q_blk_mem hb)
      exact hK ad H locs lsr str cells slots pc ⟨hWo, hlr, hvr, hc, hsl, hm, hn0, had⟩
  | cons op ops =>
    have h2 : q_op md op nx ops ls st g M = some (.inl c') := hs
    obtain ⟨raw, len, hd, hor, hck2⟩ := q_chkB_cons hck
    rcases hor with rfl | hrs
    · cases h2
    · refine q_sd_all (hB := ⟨hC, hWo, hlr, hvr, hc, hsl, hd⟩) hrs h2 (fun ad' H' locs' lsr' str' cells' slots' pc' w1 w2 w3 w4 w5 w6 w7 => ?_) hl9
      refine hK ad' H' locs' lsr' str' cells' slots' pc' ⟨w1, w2, w3, w4, w5, ?_, Nat.le_trans hn0 hg.1, fun x hx => (w6 x (Nat.lt_of_lt_of_le hx hn0)).trans (had x hx)⟩
      rcases w7 with ⟨q1, q2, q3⟩ | ⟨q1, q2⟩
      · rw [q1, q2, q3]; exact hck2
      · rw [q1, q2]
        unfold q_chkB
        exact decide_eq_true rfl
end STEP
/-! A METHOD'S CONTRACT -/
def q_an (ad adK adV : Nat → Nat) (b n : Nat) (v : Option q_V) (rv : Option Value) : Prop := match v, rv with
  | none, none => True
  | some v, some r => q_vr ad adK adV b n v r
  | _, _ => False
def q_MPc (D : va_G) (C : q_CI) (b L : Nat) (xs : Nat → Int32) (adK adV : Nat → Nat) (sb md : Nat) (ad : Nat → Nat) (as : List q_V) (rs : List Value) (n : Nat) (M : q_M) : Array Value → State → Prop := fun a U =>
  a = rs.toArray ∧ q_vrs ad adK adV b n as rs ∧ q_Env D C b L xs adK adV sb U ∧ va_P D vwCl (q_W md ad C n M) U.heap ∧ va_D (q_A sb) (q_W md ad C n M) ∧ q_ok md n M ∧ q_scr L xs M ∧ n ≤ 1000000
def q_MQc (D : va_G) (C : q_CI) (b L : Nat) (xs : Nat → Int32) (adK adV : Nat → Nat) (sb md : Nat) (ad : Nat → Nat) (n : Nat) (v : Option q_V) (n' : Nat) (M' : q_M) : Array Value → State → Outcome → State → Prop := fun _ st o t =>
  ∃ (ad' : Nat → Nat) (rv : Option Value), o = .returned rv ∧ q_an ad' adK adV b n' v rv ∧ (∀ x, x < n → ad' x = ad x) ∧ va_P D vwCl (q_W md ad' C n' M') t.heap ∧ va_D (q_A sb) (q_W md ad' C n' M') ∧ q_ok md n' M' ∧ q_scr L xs M' ∧ n' ≤ 1000000 ∧ va_F (q_A sb) st t
def q_ws (id : Nat) : List Cond := Cond.code (q_mY id) (q_mC id) (q_mL id) (q_mR id) :: q_Lw
def q_rm (d k n : Nat) : Room := { frames := d + 1, cells := k, slots := n, locals := 64 * (d + 1) }
theorem q_MPc_blind {D : va_G} {C : q_CI} {b L : Nat} {xs : Nat → Int32} {adK adV : Nat → Nat} {sb md : Nat} {ad : Nat → Nat} {as : List q_V} {rs : List Value} {n : Nat} {M : q_M} : FrameBlind (q_MPc D C b L xs adK adV sb md ad as rs n M) := by
  intro a U g mk h
  obtain ⟨h1, h2, h3, h4, h5, h6, h7, h8⟩ := h
  exact ⟨h1, h2, q_Env_moved (U := U.calling g mk a) h3 (State.WarmedH.refl U) (fun _ _ _ => rfl) (Nat.le_refl _), h4, h5, h6, h7, h8⟩
theorem q_vrs_len {ad adK adV : Nat → Nat} {b n : Nat} : ∀ {st : List q_V} {rs : List Value}, q_vrs ad adK adV b n st rs → st.length = rs.length
  | [], [], _ => rfl
  | _ :: _, _ :: _, h => by rw [List.length_cons, List.length_cons, q_vrs_len h.2]
  | [], _ :: _, h => h.elim
  | _ :: _, [], h => h.elim
theorem q_vrs_app {ad adK adV : Nat → Nat} {b n : Nat} : ∀ {st st2 : List q_V} {rs rs2 : List Value}, q_vrs ad adK adV b n st rs → q_vrs ad adK adV b n st2 rs2 → q_vrs ad adK adV b n (st ++ st2) (rs ++ rs2)
  | [], _, [], _, _, h2 => h2
  | _ :: _, _, _ :: _, _, h, h2 => ⟨h.1, q_vrs_app h.2 h2⟩
  | [], _, _ :: _, _, h, _ => h.elim
  | _ :: _, _, [], _, h, _ => h.elim
theorem q_vrs_cut {ad adK adV : Nat → Nat} {b n : Nat} : ∀ (k : Nat) {st : List q_V} {rs : List Value}, q_vrs ad adK adV b n st rs → q_vrs ad adK adV b n (st.take k) (rs.take k) ∧ q_vrs ad adK adV b n (st.drop k) (rs.drop k)
  | 0, _, _, h => ⟨trivial, h⟩
  | k + 1, [], [], _ => ⟨trivial, trivial⟩
  | k + 1, _ :: _, _ :: _, h => ⟨⟨h.1, (q_vrs_cut k h.2).1⟩, (q_vrs_cut k h.2).2⟩
  | _ + 1, [], _ :: _, h => h.elim
  | _ + 1, _ :: _, [], h => h.elim
theorem q_vrs_rev {ad adK adV : Nat → Nat} {b n : Nat} : ∀ {st : List q_V} {rs : List Value}, q_vrs ad adK adV b n st rs → q_vrs ad adK adV b n st.reverse rs.reverse
  | [], [], _ => trivial
  | _ :: _, _ :: _, h => by
    rw [List.reverse_cons, List.reverse_cons]
    exact q_vrs_app (q_vrs_rev h.2) ⟨h.1, trivial⟩
  | [], _ :: _, h => h.elim
  | _ :: _, [], h => h.elim
theorem q_catw_le (v : Value) : v.category ≤ 2 := by cases v <;> first | exact Nat.le_refl 2 | exact Nat.le_succ 1
theorem q_catw_sum : ∀ (st : List Value) (k : Nat), st.length ≤ k → (st.map fun v => v.category).sum ≤ 2 * k
  | [], k, _ => by simp
  | v :: r, k, h => by
    have h1 := q_catw_le v
    rw [List.length_cons] at h
    have h2 := q_catw_sum r (k - 1) (by omega)
    rw [List.map_cons, List.sum_cons]
    omega
/-- behind a call -/
theorem q_sd_ret {p : Program} {l : Launch} {e : Env} {R : Room} {s : State} {m : MethodId} {args : Array Value} {below : List Frame} {meth : Method} {c : Code} {H : Heap} {locs : List Loc} {cells slots mc ms pc : Nat} {Qz : State → Prop} {lsr : Array Slot} {st0 rest : List Value} {Qa : State → Outcome → State → Prop} {A : Nat → Prop}
    (hr : va_Run p l e R s m args below meth c H locs cells slots mc ms (F0 m pc lsr st0) rest Qa A) (hS : va_S A s.heap H locs) (hQ : ∀ st₀ v t, Qa st₀ (.returned v) t → va_F A st₀ t)
    (kk : ∀ (v : Option Value) (st₀ t : State) (H1 : Heap) (locs1 : List Loc), t.heap = H1 → Qa st₀ (.returned v) t → va_S A s.heap H1 locs1 → W p l e R s m args below meth c H1 locs1 (cells + mc) (slots + ms) Qz (F0 m (pc + 3) lsr (v.toList ++ rest))) : W p l e R s m args below meth c H locs cells slots Qz (F0 m pc lsr st0) := by
  intro T hT X
  obtain ⟨v, st₀, t, T', L, h0, X', hL, e1, e2, hq, st⟩ := hr T hT X
  obtain ⟨hz, hk⟩ := hQ st₀ v t hq
  rw [h0] at hz hk
  obtain ⟨t2, a1, b1⟩ := kk v st₀ t T'.heap (locs ++ L) e1.symm hq ⟨Nat.le_trans hS.1 (by rw [e1]; exact hz), fun q h1 h2 => by rw [e1, hk q (Nat.lt_of_lt_of_le h1 hS.1) h2]; exact hS.2.1 q h1 h2, fun q hq => by
      rcases List.mem_append.mp hq with h | h
      · exact hS.2.2 q h
      · exact hL q h⟩ T' rfl X'
  exact ⟨t2, st t2 a1, b1⟩
theorem q_vw_cls : ∀ k, k < 7 → ∃ q : vw_C, vwCl[k]? = some q ∧ q.1 = q_cls k := fun k h => match k, h with
  | 0, _ => ⟨_, rfl, rfl⟩
  | 1, _ => ⟨_, rfl, rfl⟩
  | 2, _ => ⟨_, rfl, rfl⟩
  | 3, _ => ⟨_, rfl, rfl⟩
  | 4, _ => ⟨_, rfl, rfl⟩
  | 5, _ => ⟨_, rfl, rfl⟩
  | 6, _ => ⟨_, rfl, rfl⟩
  | n + 7, h => absurd h (by omega)
theorem q_rcv_obj {k : Nat} {as : List q_V} (h0 : k ≠ 0) (h5 : k ≠ 50) (h : q_rcv k as = true) : ∃ c a r, as = qR c a :: r ∧ c + 1 = k := by
  unfold q_rcv at h
  rw [if_neg h0, if_neg h5] at h
  split at h
  · exact ⟨_, _, _, rfl, by simpa using h⟩
  · cases h
section CALL
variable {p : Program} {l : Launch} {e : Env} {R : Room} {s : State} {m : MethodId} {args : Array Value} {below : List Frame} {meth : Method} {c : Code} {cc : ByteArray} {D : va_G} {C : q_CI} {b L : Nat} {xs : Nat → Int32} {adK adV : Nat → Nat} {sb md d ow nL : Nat} {rt : Option FieldType} {ini : Bool} {k0 k1 n0 : Nat} {ad0 : Nat → Nat} {Qz : State → Prop}
  {ad : Nat → Nat} {H : Heap} {locs : List Loc} {lsr : Array Slot} {str : List Value} {cells slots pc : Nat} {P : q_P} {c0 c' : q_C}
/-- the receiver of a method of the classes here, or of a string -/
theorem q_recv {n : Nat} {M : q_M} (hE : q_Env D C b L xs adK adV sb s) (hWo : q_Wo D C L xs sb md ad n M s.heap H locs) {id : Nat} (hid : id < 209) (hK : (q_mK id = 50 ∧ q_mO id = 7) ∨ (q_mK id = 1 + q_mO id ∧ q_mO id < 7)) {as : List q_V} (hr : q_rcv (q_mK id) as = true) {rs : List Value} (hv : q_vrs ad adK adV b n as rs) :
    ∃ (a : Nat) (rs' : List Value), rs = .ref a :: rs' ∧ ∃ cellB : Cell, H[a]? = some cellB ∧ cellB.vm.isStatics = false ∧ s.vm.findClass (q_mY id).cls = some cellB.cls := by
  rw [q_clsA id hid]
  rcases hK with ⟨hk, ho⟩ | ⟨hk, ho⟩
  · rw [hk] at hr
    rw [ho]
    match as, hr with
    | .inr (.inr (.inr t)) :: r, hr =>
      obtain ⟨r0, rs', rfl, h1, -⟩ := q_vrs_cons hv
      have ht : (decide (16 ≤ t) && decide (t < 29)) = true := hr
      rw [Bool.and_eq_true, decide_eq_true_eq, decide_eq_true_eq] at ht
      have hx : r0 = .ref (adK (t - 16)) := by
        rcases h1 with ⟨q, -⟩ | ⟨q, -⟩ | ⟨q, -⟩ | ⟨-, -, q⟩ | ⟨q, -⟩
        · omega
        · omega
        · omega
        · exact q
        · omega
      subst hx
      exact ⟨_, rs', rfl, vk_recv hE.2.1 (i := t - 16) (by omega) hWo.2.2.2.2.2⟩
  · rw [hk] at hr
    obtain ⟨k, a, r, rfl, hk2⟩ := q_rcv_obj (by omega) (by omega) hr
    · obtain ⟨r0, rs', rfl, ⟨h1, h2, rfl⟩, -⟩ := q_vrs_cons hv
      have hk3 : k = q_mO id := by omega
      subst hk3
      obtain ⟨q, hq1, hq2⟩ := q_vw_cls (q_mO id) ho
      have he := q_W_get (md := md) (ad := ad) (C := C) (M := M) h1
      have hen : q_en md ad C a M = .inr (q_kd a, (List.range (q_nf (q_kd a))).map fun i => q_sv ad (q_ty md (q_kd a) i) a (M a i)) := by
        unfold q_en
        rw [if_pos (by rw [h2]; exact ho)]
      rw [hen, h2] at he
      have h9 := va_recv hE.1 hWo.1 hq1 he
      rw [hq2] at h9
      exact ⟨_, rs', rfl, h9⟩
end CALL
