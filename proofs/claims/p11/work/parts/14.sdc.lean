theorem q_k7 {k : Nat} (h : k < 7) : k = 0 ∨ k = 1 ∨ k = 2 ∨ k = 3 ∨ k = 4 ∨ k = 5 ∨ k = 6 := by omega
theorem q_cl {k : Nat} (h : k < 7) : vwCl[k]? = some (q_cls k, q_Tf k, q_nf k) := by
  rcases q_k7 h with rfl | rfl | rfl | rfl | rfl | rfl | rfl <;> rfl
theorem q_inX {k : Nat} (h : k < 7) : ∀ w ∈ u_ws (q_cls k) (q_Tf k) (q_nf k), w ∈ q_Lw := by
  rcases q_k7 h with rfl | rfl | rfl | rfl | rfl | rfl | rfl
  · exact q_inX_0
  · exact q_inX_1
  · exact q_inX_2
  · exact q_inX_3
  · exact q_inX_4
  · exact q_inX_5
  · exact q_inX_6
theorem q_owns {k : Nat} (h : k < 7) : ∀ i, i < q_nf k → (q_Tf k i).1 = q_cls k := by
  rcases q_k7 h with rfl | rfl | rfl | rfl | rfl | rfl | rfl <;> decide +kernel
theorem q_tyok {k : Nat} (h : k < 7) : ∀ i, i < q_nf k → parseFieldDescriptor (q_Tf k i).2.2.1 = some (q_tyf k i) := by
  rcases q_k7 h with rfl | rfl | rfl | rfl | rfl | rfl | rfl
  · exact tyX0_ok
  · exact tyX1_ok
  · exact tyX2_ok
  · exact tyX3_ok
  · exact tyX4_ok
  · exact tyX5_ok
  · exact tyX6_ok
theorem q_nms {k : Nat} (h : k < 7) : ∀ a, a < q_nf k → ∀ b, b < q_nf k → a ≠ b → (q_Tf k a).2.1 ≠ (q_Tf k b).2.1 := by
  rcases q_k7 h with rfl | rfl | rfl | rfl | rfl | rfl | rfl
  · exact nmX0
  · exact nmX1
  · exact nmX2
  · exact nmX3
  · exact nmX4
  · exact nmX5
  · exact nmX6
def q_isRT (t : FieldType) : Bool := match t with
  | .object _ => true
  | .array _ => true
  | _ => false
def q_tychk (ty : Nat → Nat → Nat × Nat × Nat) (k : Nat) : Bool := (List.range (q_nf k)).all fun i => match (ty k i).1 with
  | 0 => decide (q_tyf k i = .int)
  | 1 => decide (q_tyf k i = .boolean)
  | _ => q_isRT (q_tyf k i)
theorem q_tychk0 : ((List.range 7).all fun k => q_tychk q_ty0 k && q_tychk q_ty1 k) = true := by decide +kernel
theorem q_tyt (md : Nat) {k i : Nat} (h : k < 7) (hi : i < q_nf k) : ((q_ty md k i).1 = 0 → q_tyf k i = .int) ∧ ((q_ty md k i).1 = 1 → q_tyf k i = .boolean) ∧ (2 ≤ (q_ty md k i).1 → q_isRT (q_tyf k i) = true) := by
  have h1 := List.all_eq_true.mp q_tychk0 k (List.mem_range.mpr h)
  rw [Bool.and_eq_true] at h1
  have key : ∀ ty : Nat → Nat → Nat × Nat × Nat, q_tychk ty k = true → ((ty k i).1 = 0 → q_tyf k i = .int) ∧ ((ty k i).1 = 1 → q_tyf k i = .boolean) ∧ (2 ≤ (ty k i).1 → q_isRT (q_tyf k i) = true) := by
    intro ty hty
    have h2 := List.all_eq_true.mp hty i (List.mem_range.mpr hi)
    refine ⟨fun e => ?_, fun e => ?_, fun e => ?_⟩
    · rw [e] at h2; exact of_decide_eq_true h2
    · rw [e] at h2; exact of_decide_eq_true h2
    · split at h2
      · omega
      · omega
      · exact h2
  unfold q_ty
  split
  · exact key _ h1.2
  · exact key _ h1.1
theorem q_ri {md n : Nat} {M : q_M} (h : q_ok md n M) (a i : Nat) : (Int32.ofInt (M a i)).toInt = M a i := q_of (h.1 a i).1 (by have := (h.1 a i).2; omega)
theorem q_vr_gv {md n : Nat} {M : q_M} {ad adK adV : Nat → Nat} {b a i : Nat} (h : q_ok md n M) (ha : a < n) (hi : i < q_sz (q_kd a)) : q_vr ad adK adV b n (q_gv (q_ty md (q_kd a) i) a (M a i)) (q_sv ad (q_ty md (q_kd a) i) a (M a i)) := by
  unfold q_gv q_sv q_rf
  by_cases h2 : (q_ty md (q_kd a) i).1 = 2
  · rw [if_pos h2, if_pos (Or.inl h2), if_pos h2]
    rcases h.2.1 a i ha hi h2 with q | ⟨q1, q2⟩
    · rw [if_pos q, if_pos q]
      exact Or.inl ⟨rfl, rfl⟩
    · by_cases q : M a i < 0
      · rw [if_pos q, if_pos q]
        exact Or.inl ⟨rfl, rfl⟩
      · rw [if_neg q, if_neg q]
        exact ⟨q1, q2, rfl⟩
  · by_cases h3 : (q_ty md (q_kd a) i).1 = 3
    · rw [if_neg h2, if_pos h3, if_pos (Or.inr h3), if_neg h2]
      obtain ⟨q1, q2⟩ := h.2.2.1 a i ha hi h3
      exact ⟨q1, q2, rfl⟩
    · rw [if_neg h2, if_neg h3, if_neg (by omega)]
      exact ⟨_, rfl, q_ri h a i⟩
theorem q_en_obj {md : Nat} {ad : Nat → Nat} {C : q_CI} {a : Nat} {M : q_M} (h : q_kd a < 7) : q_en md ad C a M = .inr (q_kd a, (List.range (q_nf (q_kd a))).map fun i => q_sv ad (q_ty md (q_kd a) i) a (M a i)) := by
  rw [q_en, if_pos h]
theorem q_en_arr {md : Nat} {ad : Nat → Nat} {C : q_CI} {a : Nat} {M : q_M} (h : q_isA (q_kd a) = true) : q_en md ad C a M = .inl (C.1, (q_len (q_kd a) a M).toNat, .inl (q_af (q_len (q_kd a) a M).toNat (M a))) := by
  have hk : q_kd a = 10 ∨ 20 ≤ q_kd a := by
    unfold q_isA at h
    rw [Bool.or_eq_true, beq_iff_eq, decide_eq_true_eq] at h
    exact h
  rw [q_en, if_neg (by omega), if_neg (by omega), if_neg (by omega), if_neg (by omega)]
theorem q_isA_k {k : Nat} (h : q_isA k = true) : k = 10 ∨ 20 ≤ k := by
  unfold q_isA at h
  rw [Bool.or_eq_true, beq_iff_eq, decide_eq_true_eq] at h
  exact h
theorem q_upd_ne {M : q_M} {a i : Nat} {x : Int} : ∀ b j, b ≠ a → q_upd M a i x b j = M b j := fun b j h => by
  unfold q_upd
  rw [if_neg (fun q => h q.1)]
theorem q_upd_eq {M : q_M} {a i : Nat} {x : Int} (j : Nat) : q_upd M a i x a j = if j = i then x else M a j := by
  unfold q_upd
  by_cases h : j = i
  · rw [if_pos ⟨rfl, h⟩, if_pos h]
  · rw [if_neg (fun q => h q.2), if_neg h]
theorem q_scr_upd {L : Nat} {xs : Nat → Int32} {M : q_M} {a i : Nat} {x : Int} (h : q_scr L xs M) (ha : a < 1000000) : q_scr L xs (q_upd M a i x) := by
  refine ⟨?_, fun j hj => ?_⟩
  · rw [q_upd_ne _ _ (by omega)]; exact h.1
  · rw [q_upd_ne _ _ (by omega)]; exact h.2 j hj
/-- one int is written -/
theorem q_ok_int {md n a i : Nat} {M : q_M} {x : Int} (h : q_ok md n M) (hx : -2147483648 ≤ x ∧ x < 2147483648) (ht : i < q_sz (q_kd a) → (q_ty md (q_kd a) i).1 < 2) (h10 : q_kd a = 10 → i ≠ 1000) : q_ok md n (q_upd M a i x) := by
  refine ⟨fun b j => ?_, fun b j hb hj h2 => ?_, h.2.2.1, fun b hb h9 => ?_⟩
  · unfold q_upd
    split
    · exact hx
    · exact h.1 b j
  · unfold q_upd
    by_cases e : b = a ∧ j = i
    · obtain ⟨rfl, rfl⟩ := e
      have := ht hj
      omega
    · rw [if_neg e]
      exact h.2.1 b j hb hj h2
  · unfold q_upd
    by_cases e : b = a ∧ 1000 = i
    · obtain ⟨rfl, e2⟩ := e
      exact absurd e2.symm (h10 h9)
    · rw [if_neg e]
      exact h.2.2.2 b hb h9
/-- one reference is written -/
theorem q_ok_ref {md n a i v : Nat} {M : q_M} (h : q_ok md n M) (hv : v < n) (hn : n ≤ 1000000) (hk : q_kd v = (q_ty md (q_kd a) i).2.1) (h10 : q_kd a ≠ 10) : q_ok md n (q_upd M a i (v : Int)) := by
  refine ⟨fun b j => ?_, fun b j hb hj h2 => ?_, h.2.2.1, fun b hb h9 => ?_⟩
  · unfold q_upd
    split
    · omega
    · exact h.1 b j
  · unfold q_upd
    by_cases e : b = a ∧ j = i
    · rw [if_pos e]
      obtain ⟨rfl, rfl⟩ := e
      exact Or.inr ⟨by simpa using hv, by simpa using hk⟩
    · rw [if_neg e]
      exact h.2.1 b j hb hj h2
  · unfold q_upd
    by_cases e : b = a ∧ 1000 = i
    · obtain ⟨rfl, e2⟩ := e
      exact absurd h9 h10
    · rw [if_neg e]
      exact h.2.2.2 b hb h9
theorem q_fs_set {md : Nat} {ad : Nat → Nat} {a i k : Nat} {M : q_M} {x : Int} (hi : i < q_nf k) : ((List.range (q_nf k)).map fun j => q_sv ad (q_ty md k j) a (M a j)).set i (q_sv ad (q_ty md k i) a x) = (List.range (q_nf k)).map fun j => q_sv ad (q_ty md k j) a (q_upd M a i x a j) := by
  apply List.ext_getElem?
  intro j
  by_cases hj : j = i
  · subst hj
    rw [List.getElem?_set_self (by simpa using hi)]
    simp [hi, q_upd_eq]
  · rw [List.getElem?_set_ne (Ne.symm hj)]
    by_cases hn : j < q_nf k
    · simp [q_upd_eq, hj, hn]
    · simp [hn]
theorem q_af_in {n i : Nat} {f : Nat → Int} (h : i < n) : q_af n f i = Int32.ofInt (f i) := if_pos h
theorem q_nn {X : Int32} : X.toNatClampNeg = X.toInt.toNat := rfl
theorem q_tI {D : va_G} {C : q_CI} {s : State} (h : va_K D vwCl (q_tys C) s) : s.vm.findClass "[I" = some C.1 := (h.2 0 (C.1, .int) rfl).2
theorem q_nf_lt {k i : Nat} (h : i < q_nf k) : k < 7 := by
  rcases Nat.lt_or_ge k 7 with q | q
  · exact q
  · exfalso
    unfold q_nf at h
    split at h <;> omega
theorem q_ft_small {ow i c : Nat} (h : (ow, i, c) ∈ q_ftab) : c < 10000 := by
  have : ∀ e ∈ q_ftab, e.2.2 < 10000 := by decide +kernel
  exact this _ h
theorem q_gf_inv {md c nx : Nat} {ops : List Instr} {ls st : List q_V} {g : q_G} {M : q_M} {r : q_C ⊕ (Option q_V) ⊕ (Nat × List q_V × q_C)} (h : q_op md (.getfield c) nx ops ls st g M = some r) (hc : c < 10000) :
    ∃ k a st2, st = qR k a :: st2 ∧ (k = c / 100 ∧ c % 100 < q_nf k) ∧ q_go nx ops ls (q_gv (q_ty md k (c % 100)) a (M a (c % 100)) :: st2) g M = some r := by
  match st, h with
  | .inr (.inr (.inl (k, a))) :: st2, h =>
    obtain ⟨h1, h2⟩ := q_if_inv (show (if k = c / 100 ∧ c % 100 < q_nf k then _ else none) = some r from h)
    exact ⟨k, a, st2, rfl, h1, h2⟩
  | .inr (.inr (.inr t)) :: st2, h =>
    exfalso
    obtain ⟨h1, h2⟩ := q_if_inv (show (if 16 ≤ t ∧ t < 29 then (if c = 10000 then q_go nx ops ls (qS (48 + t) :: st2) g M else if c = 10001 then q_go nx ops ls (qI 0 :: st2) g M else none) else none) = some r from h)
    rw [if_neg (by omega), if_neg (by omega)] at h2
    cases h2
  | .inl x :: st2, h => cases h
  | .inr (.inl x) :: st2, h => cases h
  | [], h => cases h
theorem q_upd_ne' {M : q_M} {a i : Nat} {x : Int} : ∀ b j, b ≠ a → q_upd M a i x b j = M b j := q_upd_ne
theorem q_nar_rt {t : FieldType} (h : q_isRT t = true) (q : Nat) : narrow t (.ref q) = .ref q ∧ fits t (.ref q) = true := by
  cases t <;> first | exact ⟨rfl, rfl⟩ | cases h
theorem q_sv_int {ad : Nat → Nat} {t : Nat × Nat × Nat} {a : Nat} {x : Int} (h : t.1 < 2) : q_sv ad t a x = .int (Int32.ofInt x) := by
  rw [q_sv, if_neg (by omega)]
theorem q_sv_ref {ad : Nat → Nat} {t : Nat × Nat × Nat} {a v : Nat} (h : t.1 = 2) : q_sv ad t a (v : Int) = .ref (ad v) := by
  rw [q_sv, if_pos (Or.inl h), q_rf, if_pos h, if_neg (by omega)]
  simp [va_rf]
theorem q_bool01 : ∀ X : Int32, (X.toInt = 0 ∨ X.toInt = 1) → narrow .boolean (.int X) = .int X ∧ fits .boolean (.int X) = true := by
  intro X h
  have : X = 0 ∨ X = 1 := by
    rcases h with h | h
    · exact Or.inl (Int32.toInt_inj.mp (by rw [h]; decide))
    · exact Or.inr (Int32.toInt_inj.mp (by rw [h]; decide))
  rcases this with rfl | rfl <;> decide
theorem q_iald_t {nx : Nat} {ops : List Instr} {ls st2 : List q_V} {g : q_G} {M : q_M} {j : Int} {t : Nat} {r : q_C ⊕ (Option q_V) ⊕ (Nat × List q_V × q_C)}
    (h : (match (Sum.inr (Sum.inr (Sum.inr t)) :: st2 : List q_V) with
    | .inr (.inr (.inl (k, a))) :: r => if q_isA k = true ∧ 0 ≤ j ∧ j < q_len k a M then q_go nx ops ls (qI (M a j.toNat) :: r) g M else none
    | .inr (.inr (.inr 2)) :: r => if 0 ≤ j ∧ j < M 1000001 0 then q_go nx ops ls (qI (M 1000000 j.toNat) :: r) g M else none
    | _ => none) = some r) : t = 2 := by
  split at h
  · next e => simp at e
  · next e => simp at e; exact e.1
  · cases h
theorem q_len_ok {md n a : Nat} {M : q_M} (h : q_ok md n M) (ha : a < n) (hq : q_isA (q_kd a) = true) : 0 ≤ q_len (q_kd a) a M ∧ q_len (q_kd a) a M < 2147483648 := by
  have hk := q_isA_k hq
  have hb : q_kd a < 10000 := by
    unfold q_kd
    split
    · next h =>
      have : ∀ i, i < 124 → q_kds.getD i 0 < 10000 := by decide +kernel
      exact this a h
    · split
      · omega
      · split
        · omega
        · split <;> omega
  unfold q_len
  by_cases h10 : q_kd a = 10
  · rw [if_pos h10]
    have := h.2.2.2 a ha h10
    omega
  · rw [if_neg h10, if_neg (by omega), if_neg (by omega), if_neg (by omega)]
    omega
theorem q_slen_ok {j : Nat} (h : j < 13) : q_slen j = (q_lenJ.getD j 0 : Nat) ∧ q_lenJ.getD j 0 < 1000 := by
  have : ∀ j, j < 13 → q_slen j = (q_lenJ.getD j 0 : Nat) ∧ q_lenJ.getD j 0 < 1000 := by decide +kernel
  exact this j h
theorem q_sch_ok {j i : Nat} (h : j < 13) (hi : i < q_lenJ.getD j 0) : ((q_bytJ.getD j []).getD i 0).toInt = q_sch j i := by
  have : ∀ j, j < 13 → ∀ i, i < q_lenJ.getD j 0 → ((q_bytJ.getD j []).getD i 0).toInt = q_sch j i := by decide +kernel
  exact this j h i hi
section SDC
variable {p : Program} {l : Launch} {e : Env} {R : Room} {s : State} {m : MethodId} {args : Array Value} {below : List Frame} {meth : Method} {c : Code} {cc : ByteArray} {D : va_G} {C : q_CI} {b L : Nat} {xs : Nat → Int32} {adK adV : Nat → Nat} {sb md d ow nL : Nat} {rt : Option FieldType} {ini : Bool} {k0 k1 : Nat} {Qz : State → Prop} {nx : Nat} {ops : List Instr} {n0 : Nat}
  {ls st : List q_V} {g : q_G} {M : q_M} {ad : Nat → Nat} {H : Heap} {locs : List Loc} {lsr : Array Slot} {str : List Value} {cells slots pc len : Nat} {op : Instr} {c' : q_C}
theorem q_sd_gfs {i cd : Nat} (hB : q_B p l e R s m args below meth c cc D C b L xs adK adV sb md d ow nL rt ini k0 k1 ls st g M ad H locs lsr str cells slots pc len (.getfield i)) (hown : s.vm.findClass RJ0 = some m.cls) (hl : len = 3) (hi : (i = 9 ∧ cd = 10000) ∨ (i = 15 ∧ cd = 10001))
    (hres : q_op md (.getfield cd) nx ops ls st g M = some (.inl c')) (hK : q_Kt p l e R s m args below meth c D C b L xs adK adV sb md nL k0 k1 Qz nx ops g.1 ad pc len c') : W p l e R s m args below meth c H locs cells slots Qz (F0 m pc lsr str) := by
  have hE := hB.1.2.2.2.2.2.2.2.2.1
  have hdg := hB.2.2.2.2.2.2
  subst hl
  match st, hres, hB.2.2.2.1 with
  | .inr (.inr (.inl (k, a))) :: st2, hres, _ =>
    exfalso
    obtain ⟨h1, -⟩ := q_if_inv (show (if k = cd / 100 ∧ cd % 100 < q_nf k then _ else none) = some _ from hres)
    have hk7 := q_nf_lt h1.2
    omega
  | .inl x :: st2, hres, _ => cases hres
  | .inr (.inl x) :: st2, hres, _ => cases hres
  | [], hres, _ => cases hres
  | .inr (.inr (.inr t)) :: st2, hres, hst =>
    obtain ⟨r, str2, e2, hv, hs⟩ := q_vrs_cons hst
    subst e2
    obtain ⟨h1, h2⟩ := q_if_inv (show (if 16 ≤ t ∧ t < 29 then (if cd = 10000 then q_go nx ops ls (qS (48 + t) :: st2) g M else if cd = 10001 then q_go nx ops ls (qI 0 :: st2) g M else none) else none) = some _ from hres)
    have er : r = .ref (adK (t - 16)) := by
      rcases hv with ⟨h, -⟩ | ⟨h, -⟩ | ⟨h, -⟩ | ⟨-, -, h⟩ | ⟨h, h', -⟩
      · omega
      · omega
      · omega
      · exact h
      · omega
    subst er
    obtain ⟨-, k2, k3, -⟩ := hE.2.1.1 (t - 16) (by omega)
    rcases hi with ⟨rfl, rfl⟩ | ⟨rfl, rfl⟩
    · rw [if_pos rfl] at h2
      exact q_sd_st (str2 := .ref (adV (t - 16)) :: str2) hB h2 hK ⟨Or.inr (Or.inr (Or.inr (Or.inr ⟨by omega, by omega, by rw [show 48 + t - 64 = t - 16 by omega]⟩))), hs⟩ (fun kk => vk_getf hB.1.1 hB.1.2.1 k3 hB.2.1.2.2.2.2.2 hown (hB.1.2.2.2.2.2.2.1 _ q_w_fv) (fun _ h => h) hdg kk)
    · rw [if_neg (by decide), if_pos rfl] at h2
      exact q_sd_st (str2 := .int 0 :: str2) hB h2 hK ⟨⟨0, rfl, by decide⟩, hs⟩ (fun kk => vk_getf hB.1.1 hB.1.2.1 k2 hB.2.1.2.2.2.2.2 hown (hB.1.2.2.2.2.2.2.1 _ q_w_fc) (fun _ h => h) hdg kk)
theorem q_sd_putv {i cd a : Nat} {x : Int} {v : Value} {st2 : List q_V} {str2 : List Value} {w0 : q_V} (hB : q_B p l e R s m args below meth c cc D C b L xs adK adV sb md d ow nL rt ini k0 k1 ls st g M ad H locs lsr str cells slots pc 3 (.putfield i)) (hc : (ow, i, cd) ∈ q_ftab)
    (hf : (q_Tf (cd / 100) (cd % 100)).2.2.2 = false ∨ (ini = true ∧ (q_Tf (cd / 100) (cd % 100)).1 = q_cls ow)) (ha : a < g.1) (hk : q_kd a = cd / 100) (hi : cd % 100 < q_nf (cd / 100)) (hstr : str = v :: .ref (ad a) :: str2)
    (hsv : v = q_sv ad (q_ty md (cd / 100) (cd % 100)) a x) (hn : narrow (q_tyf (cd / 100) (cd % 100)) v = v) (hfit : fits (q_tyf (cd / 100) (cd % 100)) v = true) (hok : q_ok md g.1 (q_upd M a (cd % 100) x)) (hs : q_vrs ad adK adV b g.1 st2 str2)
    (hres : q_go nx ops ls st2 g (q_upd M a (cd % 100) x) = some (.inl c')) (hK : q_Kt p l e R s m args below meth c D C b L xs adK adV sb md nL k0 k1 Qz nx ops g.1 ad pc 3 c') : W p l e R s m args below meth c H locs cells slots Qz (F0 m pc lsr str) := by
  obtain ⟨nx', ops', ls', st', g', M'⟩ := c'
  obtain ⟨rfl, rfl, rfl, rfl, rfl, rfl⟩ := q_go_inj hres
  subst hstr
  have hk7 : cd / 100 < 7 := q_nf_lt hi
  have hk7' : q_kd a < 7 := by rw [hk]; exact hk7
  have hE := hB.1.2.2.2.2.2.2.2.2.1
  have hdg := hB.2.2.2.2.2.2
  have hget := q_W_get (md := md) (ad := ad) (C := C) (M := M) ha
  rw [q_en_obj hk7'] at hget
  have hw := hB.1.2.2.2.2.2.2.1 _ (q_ftab_ok _ hc)
  have hset : ∀ H1 locs1, va_P D vwCl ((q_W md ad C g.1 M).set a (ad a, .inr (q_kd a, ((List.range (q_nf (q_kd a))).map fun j => q_sv ad (q_ty md (q_kd a) j) a (M a j)).set (cd % 100) v))) H1 → va_D (q_A sb) ((q_W md ad C g.1 M).set a (ad a, .inr (q_kd a, ((List.range (q_nf (q_kd a))).map fun j => q_sv ad (q_ty md (q_kd a) j) a (M a j)).set (cd % 100) v))) → va_S (q_A sb) s.heap H1 locs1 →
      W p l e R s m args below meth c H1 locs1 cells slots Qz (F0 m (pc + 3) lsr str2) := by
    intro H1 locs1 hP hD hS
    have e1 : (q_W md ad C g.1 M).set a (ad a, .inr (q_kd a, ((List.range (q_nf (q_kd a))).map fun j => q_sv ad (q_ty md (q_kd a) j) a (M a j)).set (cd % 100) v)) = q_W md ad C g.1 (q_upd M a (cd % 100) x) := by
      refine q_W_set ha q_upd_ne' ?_
      rw [q_en_obj hk7', hsv, ← hk, q_fs_set (by rw [hk]; exact hi)]
    rw [e1] at hP hD
    exact hK ad H1 locs1 lsr str2 cells slots (pc + 3) ⟨hP, hD, hok, q_scr_upd hB.2.1.2.2.2.1 (by have := hB.2.1.2.2.2.2.1; omega), hB.2.1.2.2.2.2.1, hS⟩ hB.2.2.1 hs hB.2.2.2.2.1 hB.2.2.2.2.2.1 (fun _ _ => rfl) (Or.inl ⟨rfl, rfl, rfl⟩)
  by_cases hfin : (q_Tf (cd / 100) (cd % 100)).2.2.2 = false
  · exact va_put (C := q_cls (q_kd a)) (T := q_Tf (q_kd a)) (N := q_nf (q_kd a)) (ref := q_cls (q_kd a)) (index := i) (Ts := q_Lw) (ty := q_tyf (cd / 100) (cd % 100)) hB.1.1 hB.1.2.1 hB.1.2.2.2.2.2.2.1 (q_inX hk7') (q_tyf (q_kd a)) (q_tyok hk7') (q_nms hk7') hB.1.2.2.2.2.2.1 hE.1 hB.2.1.1 hB.2.1.2.1 hB.2.1.2.2.2.2.2 a hget (q_cl hk7') (cd % 100) (by rw [hk]; exact hi) (by rw [hk]; exact hw) (by rw [hk, q_owns hk7 _ hi]; exact fun _ h => h) (by rw [hk]; exact hfin) (by rw [hk]; exact q_tyok hk7 _ hi) hn hfit (by rw [hk]; simp [hi]) hdg (fun H1 locs1 h1 h2 h3 => hset H1 locs1 h1 h2 h3)
  · obtain ⟨f1, f2⟩ := hf.resolve_left hfin
    have hfin2 : (q_Tf (cd / 100) (cd % 100)).2.2.2 = true := by cases h : (q_Tf (cd / 100) (cd % 100)).2.2.2 <;> simp_all
    exact va_putF (C := q_cls (q_kd a)) (T := q_Tf (q_kd a)) (N := q_nf (q_kd a)) (ref := q_cls (q_kd a)) (index := i) (Ts := q_Lw) (ty := q_tyf (cd / 100) (cd % 100)) hB.1.1 hB.1.2.1 hB.1.2.2.2.2.2.2.1 (q_inX hk7') (q_tyf (q_kd a)) (q_tyok hk7') (q_nms hk7') hB.1.2.2.2.2.2.1 hE.1 hB.2.1.1 hB.2.1.2.1 hB.2.1.2.2.2.2.2 a hget (q_cl hk7') (cd % 100) (by rw [hk]; exact hi) (by rw [hk]; exact hw) (by rw [hk, q_owns hk7 _ hi]; exact fun _ h => h) (by rw [hk]; exact hfin2) (hB.1.2.2.2.2.2.2.2.1 f1) (by rw [hk]; exact f2) (by rw [hk]; exact q_tyok hk7 _ hi) hn hfit (by rw [hk]; simp [hi]) hdg (fun H1 locs1 h1 h2 h3 => hset H1 locs1 h1 h2 h3)
theorem q_sd_getfield {i : Nat} (hB : q_B p l e R s m args below meth c cc D C b L xs adK adV sb md d ow nL rt ini k0 k1 ls st g M ad H locs lsr str cells slots pc len (.getfield i)) (hrs : q_rs ow rt ini pc (.getfield i) len = some op)
    (hres : q_op md op nx ops ls st g M = some (.inl c')) (hK : q_Kt p l e R s m args below meth c D C b L xs adK adV sb md nL k0 k1 Qz nx ops g.1 ad pc len c') : W p l e R s m args below meth c H locs cells slots Qz (F0 m pc lsr str) := by
  obtain ⟨hl, hrs1⟩ := q_if_inv hrs
  subst hl
  have hE := hB.1.2.2.2.2.2.2.2.2.1
  by_cases h7 : ow = 7
  · rw [if_pos h7] at hrs1
    have hown : s.vm.findClass RJ0 = some m.cls := by have := hB.1.2.2.2.2.2.1; rw [h7] at this; exact this
    by_cases h9 : i = 9
    · rw [if_pos h9] at hrs1
      cases hrs1
      subst h9
      exact q_sd_gfs hB hown rfl (Or.inl ⟨rfl, rfl⟩) hres hK
    · rw [if_neg h9] at hrs1
      by_cases h15 : i = 15
      · rw [if_pos h15] at hrs1
        cases hrs1
        subst h15
        exact q_sd_gfs hB hown rfl (Or.inr ⟨rfl, rfl⟩) hres hK
      · rw [if_neg h15] at hrs1
        cases hrs1
  · rw [if_neg h7] at hrs1
    split at hrs1
    · next cd hc =>
      cases hrs1
      obtain ⟨k, a, st2, rfl, hkc, hres1⟩ := q_gf_inv hres (q_ft_small (q_look_mem hc))
      obtain ⟨r, str2, e2, hv, hs1⟩ := q_vrs_cons hB.2.2.2.1
      obtain ⟨ha, hk, rfl⟩ := hv
      subst e2
      subst hk
      have hk7 : q_kd a < 7 := q_nf_lt hkc.2
      have hw := hB.1.2.2.2.2.2.2.1 _ (q_ftab_ok _ (q_look_mem hc))
      have hget := q_W_get (md := md) (ad := ad) (C := C) (M := M) ha
      rw [q_en_obj hk7] at hget
      refine q_sd_st (str2 := q_sv ad (q_ty md (q_kd a) (cd % 100)) a (M a (cd % 100)) :: str2) hB hres1 hK ⟨q_vr_gv hB.2.1.2.2.1 ha (by rw [q_sz_lt hk7]; exact hkc.2), hs1⟩ (fun kk => ?_)
      refine va_get (C := q_cls (q_kd a)) (T := q_Tf (q_kd a)) (N := q_nf (q_kd a)) (ref := q_cls (q_kd a)) (index := i) (Ts := q_Lw) hB.1.1 hB.1.2.1 hB.1.2.2.2.2.2.2.1 (q_inX hk7) hB.1.2.2.2.2.2.1 hE.1 hB.2.1.1 a hget (q_cl hk7) (cd % 100) hkc.2 ?_ ?_ ?_ hB.2.2.2.2.2.2 kk
      · rw [hkc.1]; exact hw
      · rw [q_owns hk7 _ hkc.2]; exact fun _ h => h
      · simp [hkc.2]
    · cases hrs1

theorem q_sd_nop {i : Nat} (hB : q_B p l e R s m args below meth c cc D C b L xs adK adV sb md d ow nL rt ini k0 k1 ls st g M ad H locs lsr str cells slots pc len (.checkcast i)) (hrs : q_rs ow rt ini pc (.checkcast i) len = some op)
    (hres : q_op md op nx ops ls st g M = some (.inl c')) (hK : q_Kt p l e R s m args below meth c D C b L xs adK adV sb md nL k0 k1 Qz nx ops g.1 ad pc len c') : W p l e R s m args below meth c H locs cells slots Qz (F0 m pc lsr str) := by
  obtain ⟨⟨hl, h1, h54⟩, h2⟩ := q_if_inv hrs
  cases h2; subst hl; subst h54
  obtain ⟨k, a, st2, rfl, hres1⟩ := q_rr_inv hres
  obtain ⟨hq, hres2⟩ := q_if_inv hres1
  have hst := hB.2.2.2.1
  obtain ⟨r, str2, e2, hv, hs1⟩ := q_vrs_cons hst
  obtain ⟨ha, hk, rfl⟩ := hv
  subst e2; subst hk
  have hget := q_W_get (md := md) (ad := ad) (C := C) (M := M) ha
  rw [q_en_arr hq] at hget
  have hown : s.vm.findClass RX1 = some m.cls := by have := hB.1.2.2.2.2.2.1; rw [h1] at this; exact this
  exact q_sd_st (str2 := .ref (ad a) :: str2) hB hres2 hK hst (fun kk => va_castA hB.1.1 hB.1.2.1 hown (hB.1.2.2.2.2.2.2.1 _ q_w_c1) hB.2.1.1 a hget (q_tI hB.1.2.2.2.2.2.2.2.2.1.1) hB.2.2.2.2.2.2 kk)

theorem q_sd_getstatic {i : Nat} (hB : q_B p l e R s m args below meth c cc D C b L xs adK adV sb md d ow nL rt ini k0 k1 ls st g M ad H locs lsr str cells slots pc len (.getstatic i)) (hrs : q_rs ow rt ini pc (.getstatic i) len = some op)
    (hres : q_op md op nx ops ls st g M = some (.inl c')) (hK : q_Kt p l e R s m args below meth c D C b L xs adK adV sb md nL k0 k1 Qz nx ops g.1 ad pc len c') : W p l e R s m args below meth c H locs cells slots Qz (F0 m pc lsr str) := by
  obtain ⟨⟨hl, h7⟩, hrs1⟩ := q_if_inv hrs
  subst hl
  have hE := hB.1.2.2.2.2.2.2.2.2.1
  have hown : s.vm.findClass RJ0 = some m.cls := by have := hB.1.2.2.2.2.2.1; rw [h7] at this; exact this
  by_cases h9 : i = 38
  · rw [if_pos h9] at hrs1
    cases hrs1
    subst h9
    exact q_sd_st (str2 := .int 1 :: str) hB hres hK ⟨⟨1, rfl, by decide⟩, hB.2.2.2.1⟩ (fun kk => va_gets hB.1.1 hB.1.2.1 hE.2.2.2.2.1 hB.2.1.2.2.2.2.2 hown (hB.1.2.2.2.2.2.2.1 _ q_w_g0) (fun _ h => h) hB.2.2.2.2.2.2 kk)
  · rw [if_neg h9] at hrs1
    by_cases h15 : i = 1053
    · rw [if_pos h15] at hrs1
      cases hrs1
      subst h15
      rcases hE.2.2.2.2.2.1 with hz | ⟨q, hz⟩
      · exact q_sd_st (str2 := .null :: str) hB hres hK ⟨Or.inr (Or.inr (Or.inl ⟨rfl, Or.inl rfl⟩)), hB.2.2.2.1⟩ (fun kk => va_gets hB.1.1 hB.1.2.1 hz hB.2.1.2.2.2.2.2 hown (hB.1.2.2.2.2.2.2.1 _ q_w_g1) (fun _ h => h) hB.2.2.2.2.2.2 kk)
      · exact q_sd_st (str2 := .ref q :: str) hB hres hK ⟨Or.inr (Or.inr (Or.inl ⟨rfl, Or.inr ⟨q, rfl⟩⟩)), hB.2.2.2.1⟩ (fun kk => va_gets hB.1.1 hB.1.2.1 hz hB.2.1.2.2.2.2.2 hown (hB.1.2.2.2.2.2.2.1 _ q_w_g1) (fun _ h => h) hB.2.2.2.2.2.2 kk)
    · rw [if_neg h15] at hrs1
      cases hrs1

theorem q_sd_putfield {i : Nat} (hB : q_B p l e R s m args below meth c cc D C b L xs adK adV sb md d ow nL rt ini k0 k1 ls st g M ad H locs lsr str cells slots pc len (.putfield i)) (hrs : q_rs ow rt ini pc (.putfield i) len = some op)
    (hres : q_op md op nx ops ls st g M = some (.inl c')) (hK : q_Kt p l e R s m args below meth c D C b L xs adK adV sb md nL k0 k1 Qz nx ops g.1 ad pc len c') : W p l e R s m args below meth c H locs cells slots Qz (F0 m pc lsr str) := by
  obtain ⟨hl, hrs1⟩ := q_if_inv hrs
  subst hl
  split at hrs1
  · next cd hc =>
    have hc := q_look_mem hc
    obtain ⟨hf, h2⟩ := q_if_inv hrs1
    cases h2
    obtain ⟨w, st1, rfl, hres1⟩ := q_vv_inv hres
    obtain ⟨k, a, st2, rfl, hres2⟩ := q_rr_inv hres1
    obtain ⟨⟨hkc, hi⟩, hres3⟩ := q_if_inv hres2
    obtain ⟨r1, str1, e1, hv1, hs1⟩ := q_vrs_cons hB.2.2.2.1
    obtain ⟨r2, str2, e2, hv2, hs2⟩ := q_vrs_cons hs1
    obtain ⟨ha, hk, rfl⟩ := hv2
    subst e2
    subst hkc
    have hk7 : cd / 100 < 7 := q_nf_lt hi
    have htt := q_tyt md hk7 hi
    match w, hv1, hres3, hB, e1 with
    | .inl x, hv1, hres3, hB, e1 =>
      obtain ⟨hq, hres9⟩ := q_if_inv (show (if (q_ty md (cd / 100) (cd % 100)).1 = 0 ∨ ((q_ty md (cd / 100) (cd % 100)).1 = 1 ∧ (x = 0 ∨ x = 1)) then q_go nx ops ls st2 g (q_upd M a (cd % 100) x) else none) = some _ from hres3)
      obtain ⟨X, rfl, hX⟩ := hv1
      subst hX
      have ht : (q_ty md (cd / 100) (cd % 100)).1 < 2 := by rcases hq with h | h <;> omega
      have hr : -2147483648 ≤ X.toInt ∧ X.toInt < 2147483648 := ⟨Int32.le_toInt X, Int32.toInt_lt X⟩
      refine q_sd_putv (x := X.toInt) (v := .int X) (w0 := qI 0) hB hc hf ha hk hi e1 ?_ ?_ ?_ (q_ok_int hB.2.1.2.2.1 hr (fun _ => by rw [hk]; exact ht) (fun h => by rw [hk] at h; omega)) hs2 hres9 hK
      · rw [q_sv_int ht, Int32.ofInt_toInt]
      · rcases hq with h | ⟨h, h'⟩
        · rw [htt.1 h]; rfl
        · rw [htt.2.1 h]; exact (q_bool01 X h').1
      · rcases hq with h | ⟨h, h'⟩
        · rw [htt.1 h]; rfl
        · rw [htt.2.1 h]; exact (q_bool01 X h').2
    | .inr (.inr (.inl (k', v))), hv1, hres3, hB, e1 =>
      obtain ⟨⟨h2, h3, hlt⟩, hres9⟩ := q_if_inv (show (if (q_ty md (cd / 100) (cd % 100)).1 = 2 ∧ (q_ty md (cd / 100) (cd % 100)).2.1 = k' ∧ v < 2147483648 then q_go nx ops ls st2 g (q_upd M a (cd % 100) v) else none) = some _ from hres3)
      obtain ⟨hv, hkv, rfl⟩ := hv1
      have hrt := htt.2.2 (by omega)
      refine q_sd_putv (x := (v : Int)) (v := .ref (ad v)) (w0 := qI 0) hB hc hf ha hk hi e1 (q_sv_ref h2).symm (q_nar_rt hrt _).1 (q_nar_rt hrt _).2 (q_ok_ref hB.2.1.2.2.1 hv hB.2.1.2.2.2.2.1 (by rw [hk, h3]; exact hkv) (by omega)) hs2 hres9 hK
    | .inr (.inl x), _, hres3, _, _ => cases hres3
    | .inr (.inr (.inr t)), _, hres3, _, _ => cases hres3
  · cases hrs1

theorem q_sd_iaload  (hB : q_B p l e R s m args below meth c cc D C b L xs adK adV sb md d ow nL rt ini k0 k1 ls st g M ad H locs lsr str cells slots pc len (.iaload)) (hrs : q_rs ow rt ini pc (.iaload) len = some op)
    (hres : q_op md op nx ops ls st g M = some (.inl c')) (hK : q_Kt p l e R s m args below meth c D C b L xs adK adV sb md nL k0 k1 Qz nx ops g.1 ad pc len c') : W p l e R s m args below meth c H locs cells slots Qz (F0 m pc lsr str) := by
  obtain ⟨hl, h2⟩ := q_if_inv hrs
  cases h2; subst hl
  obtain ⟨j, st1, rfl, hres1⟩ := q_ii_inv hres
  obtain ⟨_, str1, e1, hj, hs1⟩ := q_vrs_cons hB.2.2.2.1
  obtain ⟨J, rfl, rfl⟩ := q_vr_i hj
  subst e1
  have hE := hB.1.2.2.2.2.2.2.2.2.1
  match st1, hres1, hs1, hB with
  | .inr (.inr (.inl (k, a))) :: st2, hres1, hs1, hB =>
    obtain ⟨⟨hq, h0, hlt⟩, hres9⟩ := q_if_inv (show (if q_isA k = true ∧ 0 ≤ J.toInt ∧ J.toInt < q_len k a M then q_go nx ops ls (qI (M a J.toInt.toNat) :: st2) g M else none) = some _ from hres1)
    obtain ⟨r, str2, e2, hv, hs2⟩ := q_vrs_cons hs1
    obtain ⟨ha, hk, rfl⟩ := hv
    subst e2; subst hk
    have hget := q_W_get (md := md) (ad := ad) (C := C) (M := M) ha
    rw [q_en_arr hq] at hget
    refine q_sd_st (str2 := .int (Int32.ofInt (M a J.toInt.toNat)) :: str2) hB hres9 hK ⟨⟨_, rfl, q_ri hB.2.1.2.2.1 a _⟩, hs2⟩ (fun kk => ?_)
    rw [← q_af_in (n := (q_len (q_kd a) a M).toNat) (f := M a) (i := J.toInt.toNat) (by omega)] at kk
    exact va_iald hB.1.1 hB.1.2.1 hE.1 hB.2.1.1 a 0 hget rfl (vp_in_iff.mpr ⟨h0, by omega⟩) hB.2.2.2.2.2.2 kk
  | .inr (.inr (.inr t)) :: st2, hres1, hs2, hB =>
    have ht : t = 2 := q_iald_t (M := M) hres1
    subst ht
    obtain ⟨⟨h0, hlt⟩, hres9⟩ := q_if_inv (show (if 0 ≤ J.toInt ∧ J.toInt < M 1000001 0 then q_go nx ops ls (qI (M 1000000 J.toInt.toNat) :: st2) g M else none) = some _ from hres1)
    obtain ⟨r, str2, e2, hv, hs3⟩ := q_vrs_cons hs2
    have er : r = .ref b := by
      rcases hv with ⟨h, -⟩ | ⟨-, h⟩ | ⟨h, -⟩ | ⟨h, -⟩ | ⟨h, -⟩
      · omega
      · exact h
      · omega
      · omega
      · omega
    subst e2; subst er
    have hL := hB.2.1.2.2.2.1.1
    have hx := hB.2.1.2.2.2.1.2 J.toInt.toNat (by omega)
    rw [hx] at hres9
    refine q_sd_st (str2 := .int (xs J.toInt.toNat) :: str2) hB hres9 hK ⟨q_mk_i _, hs3⟩ (fun kk => ?_)
    exact va_sld hB.1.1 hB.1.2.1 hE.2.2.1 hE.2.2.2.1.1 (Nat.not_le.mpr hE.2.2.2.1.2.1) hB.2.1.2.2.2.2.2 (vp_in_iff.mpr ⟨h0, by omega⟩) hB.2.2.2.2.2.2 kk
  | .inl x :: st2, hres1, _, _ => cases hres1
  | .inr (.inl x) :: st2, hres1, _, _ => cases hres1
  | [], hres1, _, _ => cases hres1

theorem q_sd_iastore  (hB : q_B p l e R s m args below meth c cc D C b L xs adK adV sb md d ow nL rt ini k0 k1 ls st g M ad H locs lsr str cells slots pc len (.iastore)) (hrs : q_rs ow rt ini pc (.iastore) len = some op)
    (hres : q_op md op nx ops ls st g M = some (.inl c')) (hK : q_Kt p l e R s m args below meth c D C b L xs adK adV sb md nL k0 k1 Qz nx ops g.1 ad pc len c') : W p l e R s m args below meth c H locs cells slots Qz (F0 m pc lsr str) := by
  obtain ⟨hl, h2⟩ := q_if_inv hrs
  cases h2; subst hl
  obtain ⟨x, st1, rfl, hres1⟩ := q_ii_inv hres
  obtain ⟨j, st2, rfl, hres2⟩ := q_ii_inv hres1
  obtain ⟨k, a, st3, rfl, hres3⟩ := q_rr_inv hres2
  obtain ⟨⟨hq, h0, hlt⟩, hres4⟩ := q_if_inv hres3
  obtain ⟨_, str1, e1, hx, hs1⟩ := q_vrs_cons hB.2.2.2.1
  obtain ⟨_, str2, e2, hj, hs2⟩ := q_vrs_cons hs1
  obtain ⟨_, str3, e3, hv, hs3⟩ := q_vrs_cons hs2
  obtain ⟨X, rfl, rfl⟩ := q_vr_i hx
  obtain ⟨J, rfl, rfl⟩ := q_vr_i hj
  obtain ⟨ha, hk, rfl⟩ := hv
  subst e3; subst e2; subst e1; subst hk
  have hE := hB.1.2.2.2.2.2.2.2.2.1
  obtain ⟨nx', ops', ls', st', g', M'⟩ := c'
  obtain ⟨rfl, rfl, rfl, rfl, rfl, rfl⟩ := q_go_inj hres4
  have hget := q_W_get (md := md) (ad := ad) (C := C) (M := M) ha
  rw [q_en_arr hq] at hget
  have hk20 := q_isA_k hq
  have h1000 : q_kd a = 10 → J.toInt.toNat ≠ 1000 := fun h => by
    have hb := (hB.2.1.2.2.1.2.2.2 a ha h).2
    have e : q_len (q_kd a) a M = M a 1000 := by rw [q_len, if_pos h]
    rw [e] at hlt
    omega
  refine va_iast hB.1.1 hB.1.2.1 hE.1 hB.2.1.1 hB.2.1.2.1 hB.2.1.2.2.2.2.2 a 0 hget rfl (vp_in_iff.mpr ⟨h0, by omega⟩) hB.2.2.2.2.2.2 (fun H1 locs1 h1 h2 h3 => ?_)
  have e1 : (q_W md ad C g.1 M).set a (ad a, .inl (C.1, (q_len (q_kd a) a M).toNat, .inl (upd (q_af (q_len (q_kd a) a M).toNat (M a)) J.toNatClampNeg X))) = q_W md ad C g.1 (q_upd M a J.toInt.toNat X.toInt) := by
    refine q_W_set ha q_upd_ne' ?_
    rw [q_en_arr hq]
    have e2 : q_len (q_kd a) a (q_upd M a J.toInt.toNat X.toInt) = q_len (q_kd a) a M := by
      unfold q_len
      by_cases h : q_kd a = 10
      · rw [if_pos h, if_pos h, q_upd_eq, if_neg (fun q => h1000 h q.symm)]
      · rw [if_neg h, if_neg h]
    rw [e2]
    congr 3
    congr 1
    funext i
    show (if i = J.toInt.toNat then X else q_af _ (M a) i) = _
    unfold q_af
    rw [q_upd_eq]
    by_cases e : i = J.toInt.toNat
    · rw [if_pos e, if_pos e, if_pos (by omega), Int32.ofInt_toInt]
    · rw [if_neg e, if_neg e]
  rw [e1] at h1 h2
  exact hK ad H1 locs1 lsr str3 cells slots (pc + 1) ⟨h1, h2, q_ok_int hB.2.1.2.2.1 ⟨Int32.le_toInt X, Int32.toInt_lt X⟩ (fun h => by exfalso; unfold q_sz at h; rw [if_neg (by omega), if_neg (by omega), if_neg (by omega), if_neg (by omega)] at h; omega) h1000, q_scr_upd hB.2.1.2.2.2.1 (by have := hB.2.1.2.2.2.2.1; omega), hB.2.1.2.2.2.2.1, h3⟩ hB.2.2.1 hs3 hB.2.2.2.2.1 hB.2.2.2.2.2.1 (fun _ _ => rfl) (Or.inl ⟨rfl, rfl, rfl⟩)

theorem q_sd_arraylength  (hB : q_B p l e R s m args below meth c cc D C b L xs adK adV sb md d ow nL rt ini k0 k1 ls st g M ad H locs lsr str cells slots pc len (.arraylength)) (hrs : q_rs ow rt ini pc (.arraylength) len = some op)
    (hres : q_op md op nx ops ls st g M = some (.inl c')) (hK : q_Kt p l e R s m args below meth c D C b L xs adK adV sb md nL k0 k1 Qz nx ops g.1 ad pc len c') : W p l e R s m args below meth c H locs cells slots Qz (F0 m pc lsr str) := by
  obtain ⟨hl, h2⟩ := q_if_inv hrs
  cases h2; subst hl
  have hE := hB.1.2.2.2.2.2.2.2.2.1
  have hdg := hB.2.2.2.2.2.2
  match st, hres, hB.2.2.2.1 with
  | .inr (.inr (.inl (k, a))) :: st2, hres, hst =>
    obtain ⟨hq, hres9⟩ := q_if_inv (show (if q_isA k = true then q_go nx ops ls (qI (q_len k a M) :: st2) g M else none) = some _ from hres)
    obtain ⟨r, str2, e2, hv, hs1⟩ := q_vrs_cons hst
    obtain ⟨ha, hk, rfl⟩ := hv
    subst e2; subst hk
    have hget := q_W_get (md := md) (ad := ad) (C := C) (M := M) ha
    rw [q_en_arr hq] at hget
    have hlen := q_len_ok hB.2.1.2.2.1 ha hq
    refine q_sd_st (str2 := .int (Int32.ofNat (q_len (q_kd a) a M).toNat) :: str2) hB hres9 hK ⟨⟨_, rfl, ?_⟩, hs1⟩ (fun kk => va_alen hB.1.1 hB.1.2.1 hE.1 hB.2.1.1 a 0 hget rfl rfl hdg kk)
    rw [Int32.toInt_ofNat_small (by omega)]
    omega
  | .inr (.inr (.inr t)) :: st2, hres, hst =>
    obtain ⟨r, str2, e2, hv, hs2⟩ := q_vrs_cons hst
    subst e2
    by_cases ht : t = 2
    · have hres9 : q_go nx ops ls (qI (M 1000001 0) :: st2) g M = some _ := (if_pos ht).symm.trans (show (if t = 2 then q_go nx ops ls (qI (M 1000001 0) :: st2) g M else if 64 ≤ t ∧ t < 77 then q_go nx ops ls (qI (q_slen (t - 64)) :: st2) g M else none) = some _ from hres)
      subst ht
      have er : r = .ref b := by
        rcases hv with ⟨h, -⟩ | ⟨-, h⟩ | ⟨h, -⟩ | ⟨h, -⟩ | ⟨h, -⟩
        · omega
        · exact h
        · omega
        · omega
        · omega
      subst er
      have hL := hB.2.1.2.2.2.1.1
      have hr := (hB.2.1.2.2.1.1 1000001 0)
      rw [hL] at hr
      refine q_sd_st (str2 := .int (Int32.ofNat L) :: str2) hB hres9 hK ⟨⟨_, rfl, ?_⟩, hs2⟩ (fun kk => va_slen hB.1.1 hB.1.2.1 hE.2.2.1 hE.2.2.2.1.1 (Nat.not_le.mpr hE.2.2.2.1.2.1) hB.2.1.2.2.2.2.2 hdg kk)
      rw [Int32.toInt_ofNat_small (by omega), hL]
    · have hres8 := (if_neg ht).symm.trans (show (if t = 2 then q_go nx ops ls (qI (M 1000001 0) :: st2) g M else if 64 ≤ t ∧ t < 77 then q_go nx ops ls (qI (q_slen (t - 64)) :: st2) g M else none) = some _ from hres)
      obtain ⟨h64, hres9⟩ := q_if_inv hres8
      have er : r = .ref (adV (t - 64)) := by
        rcases hv with ⟨h, -⟩ | ⟨h, -⟩ | ⟨h, -⟩ | ⟨-, h, -⟩ | ⟨-, -, h⟩
        · omega
        · omega
        · omega
        · omega
        · exact h
      subst er
      obtain ⟨-, -, -, cell, z1, z2, z3, z4, z5, z6, z7⟩ := hE.2.1.1 (t - 64) (by omega)
      obtain ⟨l1, l2⟩ := q_slen_ok (j := t - 64) (by omega)
      refine q_sd_st (str2 := .int (Int32.ofNat (q_lenJ.getD (t - 64) 0)) :: str2) hB hres9 hK ⟨⟨_, rfl, ?_⟩, hs2⟩ (fun kk => W.alen (n := Int32.ofNat (q_lenJ.getD (t - 64) 0)) hB.1.1 hB.1.2.1 (by rw [hB.2.1.2.2.2.2.2.2.1 (adV (t - 64)) (Array.getElem?_eq_some_iff.mp z1).1 z7]; exact z1) z2 z5 rfl rfl hdg kk)
      rw [Int32.toInt_ofNat_small (by omega), l1]
  | .inl x :: st2, hres, _ => cases hres
  | .inr (.inl x) :: st2, hres, _ => cases hres
  | [], hres, _ => cases hres

theorem q_sd_baload  (hB : q_B p l e R s m args below meth c cc D C b L xs adK adV sb md d ow nL rt ini k0 k1 ls st g M ad H locs lsr str cells slots pc len (.baload)) (hrs : q_rs ow rt ini pc (.baload) len = some op)
    (hres : q_op md op nx ops ls st g M = some (.inl c')) (hK : q_Kt p l e R s m args below meth c D C b L xs adK adV sb md nL k0 k1 Qz nx ops g.1 ad pc len c') : W p l e R s m args below meth c H locs cells slots Qz (F0 m pc lsr str) := by
  obtain ⟨hl, h2⟩ := q_if_inv hrs
  cases h2; subst hl
  have hE := hB.1.2.2.2.2.2.2.2.2.1
  have hdg := hB.2.2.2.2.2.2
  obtain ⟨j, st1, rfl, hres1⟩ := q_ii_inv hres
  obtain ⟨_, str1, e1, hj, hs1⟩ := q_vrs_cons hB.2.2.2.1
  obtain ⟨J, rfl, rfl⟩ := q_vr_i hj
  subst e1
  match st1, hres1, hs1, hB with
  | .inr (.inr (.inr t)) :: st2, hres1, hs1, hB =>
    obtain ⟨⟨h64, h77, h0, hlt⟩, hres9⟩ := q_if_inv (show (if 64 ≤ t ∧ t < 77 ∧ 0 ≤ J.toInt ∧ J.toInt < q_slen (t - 64) then q_go nx ops ls (qI (q_sch (t - 64) J.toInt.toNat) :: st2) g M else none) = some _ from hres1)
    obtain ⟨r, str2, e2, hv, hs2⟩ := q_vrs_cons hs1
    subst e2
    have er : r = .ref (adV (t - 64)) := by
      rcases hv with ⟨h, -⟩ | ⟨h, -⟩ | ⟨h, -⟩ | ⟨-, h, -⟩ | ⟨-, -, h⟩
      · omega
      · omega
      · omega
      · omega
      · exact h
    subst er
    obtain ⟨-, -, -, cell, z1, z2, z3, z4, z5, z6, z7⟩ := hE.2.1.1 (t - 64) (by omega)
    obtain ⟨l1, l2⟩ := q_slen_ok (j := t - 64) (by omega)
    have hlt2 : J.toInt.toNat < q_lenJ.getD (t - 64) 0 := by omega
    have hch := q_sch_ok (j := t - 64) (i := J.toInt.toNat) (by omega) hlt2
    refine q_sd_st (str2 := .int ((q_bytJ.getD (t - 64) []).getD J.toInt.toNat 0) :: str2) hB hres9 hK ⟨⟨_, rfl, hch⟩, hs2⟩ (fun kk => ?_)
    exact W.bald hB.1.1 hB.1.2.1 (by rw [hB.2.1.2.2.2.2.2.2.1 (adV (t - 64)) (Array.getElem?_eq_some_iff.mp z1).1 z7]; exact z1) z2 z3 (vp_in_iff.mpr ⟨h0, by omega⟩ : vp_in J cell.slots.size) (z6 _ hlt2) rfl rfl hdg kk
  | .inr (.inr (.inl x)) :: st2, hres1, _, _ => cases hres1
  | .inl x :: st2, hres1, _, _ => cases hres1
  | .inr (.inl x) :: st2, hres1, _, _ => cases hres1
  | [], hres1, _, _ => cases hres1
end SDC
