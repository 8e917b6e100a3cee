theorem q_vr_lit {ad adK adV : Nat → Nat} {b n j : Nat} (h : j < 13) : q_vr ad adK adV b n (qS (16 + j)) (.ref (adK j)) := by
  have e : 16 + j - 16 = j := by omega
  exact Or.inr (Or.inr (Or.inr (Or.inl ⟨by omega, by omega, by rw [e]⟩)))
theorem q_env_lit {D : va_G} {C : q_CI} {b L : Nat} {xs : Nat → Int32} {adK adV : Nat → Nat} {sb : Nat} {U : State} (h : q_Env D C b L xs adK adV sb U) {ow i j : Nat} (hm : (ow, i, j) ∈ q_stab) : vk_R (q_cls ow) i (q_lit j) (adK j) U := h.2.2.2.2.2.2.1 (ow, i, j) hm
theorem q_set_of_rf {v : q_V} (h : q_isRf v = true) : q_set v = true := by
  match v, h with
  | .inr (.inr (.inl _)), _ => rfl
  | .inr (.inr (.inr t)), h => exact h
theorem q_vr_isL {ad adK adV : Nat → Nat} {b n : Nat} {v : q_V} {r : Value} (h : q_vr ad adK adV b n v r) (hl : q_isL v = true) : ∃ X : Int64, r = .long X := by
  match v, h with
  | .inr (.inl x), h => exact ⟨_, h.choose_spec.1⟩
theorem q_st2_isL {ls ls' : List q_V} {k : Nat} {v : q_V} (h : q_st2 ls k v = some ls') : q_isL v = true := by
  unfold q_st2 at h
  split at h
  · next hc =>
    simp only [Bool.and_eq_true] at hc
    exact hc.2
  · cases h
theorem q_of64 {x : Int} (h1 : -9223372036854775808 ≤ x) (h2 : x ≤ 9223372036854775807) : (Int64.ofInt x).toInt = x := by
  rw [Int64.toInt_ofInt, show ((Int64.size : Nat) : Nat) = 18446744073709551616 from rfl, Int.bmod_def]
  split <;> omega
section SDB
variable {p : Program} {l : Launch} {e : Env} {R : Room} {s : State} {m : MethodId} {args : Array Value} {below : List Frame} {meth : Method} {c : Code} {cc : ByteArray} {D : va_G} {C : q_CI} {b L : Nat} {xs : Nat → Int32} {adK adV : Nat → Nat} {sb md d ow nL : Nat} {rt : Option FieldType} {ini : Bool} {k0 k1 : Nat} {Qz : State → Prop} {nx : Nat} {ops : List Instr} {n0 : Nat}
  {ls st : List q_V} {g : q_G} {M : q_M} {ad : Nat → Nat} {H : Heap} {locs : List Loc} {lsr : Array Slot} {str : List Value} {cells slots pc len : Nat} {op : Instr} {c' : q_C}
theorem q_sd_iconst {n : Int} (hB : q_B p l e R s m args below meth c cc D C b L xs adK adV sb md d ow nL rt ini k0 k1 ls st g M ad H locs lsr str cells slots pc len (.iconst n)) (hrs : q_rs ow rt ini pc (.iconst n) len = some op)
    (hres : q_op md op nx ops ls st g M = some (.inl c')) (hK : q_Kt p l e R s m args below meth c D C b L xs adK adV sb md nL k0 k1 Qz nx ops g.1 ad pc len c') : W p l e R s m args below meth c H locs cells slots Qz (F0 m pc lsr str) := by
  obtain ⟨⟨hl, hr⟩, h2⟩ := q_if_inv hrs
  cases h2; subst hl
  simp only [q_rng, Bool.and_eq_true, decide_eq_true_eq] at hr
  have e1 : n = (Int32.ofInt n).toInt := (q_of (by omega) (by omega)).symm
  refine q_sd_int (X := Int32.ofInt n) hB (by rw [← e1]; exact hres) hK (fun k => ?_)
  exact lv_iconst hB.1.1 hB.1.2.1 hB.2.2.2.2.2.2 rfl k
theorem q_sd_bipush {n : Int} (hB : q_B p l e R s m args below meth c cc D C b L xs adK adV sb md d ow nL rt ini k0 k1 ls st g M ad H locs lsr str cells slots pc len (.bipush n)) (hrs : q_rs ow rt ini pc (.bipush n) len = some op)
    (hres : q_op md op nx ops ls st g M = some (.inl c')) (hK : q_Kt p l e R s m args below meth c D C b L xs adK adV sb md nL k0 k1 Qz nx ops g.1 ad pc len c') : W p l e R s m args below meth c H locs cells slots Qz (F0 m pc lsr str) := by
  obtain ⟨⟨hl, hr⟩, h2⟩ := q_if_inv hrs
  cases h2; subst hl
  simp only [q_rng, Bool.and_eq_true, decide_eq_true_eq] at hr
  have e1 : n = ((Int8.ofInt n).toInt32).toInt := by
    rw [Int8.toInt_toInt32, Int8.toInt_ofInt, show (Int8.size : Nat) = 256 from rfl, Int.bmod_def]
    split <;> omega
  refine q_sd_int (X := (Int8.ofInt n).toInt32) hB (by rw [← e1]; exact hres) hK (fun k => ?_)
  exact lv_bipush hB.1.1 hB.1.2.1 hB.2.2.2.2.2.2 rfl k
theorem q_sd_sipush {n : Int} (hB : q_B p l e R s m args below meth c cc D C b L xs adK adV sb md d ow nL rt ini k0 k1 ls st g M ad H locs lsr str cells slots pc len (.sipush n)) (hrs : q_rs ow rt ini pc (.sipush n) len = some op)
    (hres : q_op md op nx ops ls st g M = some (.inl c')) (hK : q_Kt p l e R s m args below meth c D C b L xs adK adV sb md nL k0 k1 Qz nx ops g.1 ad pc len c') : W p l e R s m args below meth c H locs cells slots Qz (F0 m pc lsr str) := by
  obtain ⟨⟨hl, hr⟩, h2⟩ := q_if_inv hrs
  cases h2; subst hl
  simp only [q_rng, Bool.and_eq_true, decide_eq_true_eq] at hr
  have e1 : n = ((Int16.ofInt n).toInt32).toInt := by
    rw [Int16.toInt_toInt32, Int16.toInt_ofInt, show (Int16.size : Nat) = 65536 from rfl, Int.bmod_def]
    split <;> omega
  refine q_sd_int (X := (Int16.ofInt n).toInt32) hB (by rw [← e1]; exact hres) hK (fun k => ?_)
  exact lv_sipush hB.1.1 hB.1.2.1 hB.2.2.2.2.2.2 rfl k
theorem q_sd_lconst {n : Fin 2} (hB : q_B p l e R s m args below meth c cc D C b L xs adK adV sb md d ow nL rt ini k0 k1 ls st g M ad H locs lsr str cells slots pc len (.lconst n)) (hrs : q_rs ow rt ini pc (.lconst n) len = some op)
    (hres : q_op md op nx ops ls st g M = some (.inl c')) (hK : q_Kt p l e R s m args below meth c D C b L xs adK adV sb md nL k0 k1 Qz nx ops g.1 ad pc len c') : W p l e R s m args below meth c H locs cells slots Qz (F0 m pc lsr str) := by
  obtain ⟨hl, h2⟩ := q_if_inv hrs
  cases h2; subst hl
  have e1 : ((n.val : Nat) : Int) = (Int64.ofNat n.val).toInt := by
    have : ∀ k : Fin 2, ((k.val : Nat) : Int) = (Int64.ofNat k.val).toInt := by decide
    exact this n
  exact q_sd_st (str2 := .long (Int64.ofNat n.val) :: str) hB hres hK ⟨by rw [e1]; exact q_mk_l _, hB.2.2.2.1⟩ (fun k => lv_lconst hB.1.1 hB.1.2.1 hB.2.2.2.2.2.2 rfl k)
theorem q_sd_iadd  (hB : q_B p l e R s m args below meth c cc D C b L xs adK adV sb md d ow nL rt ini k0 k1 ls st g M ad H locs lsr str cells slots pc len (.iadd)) (hrs : q_rs ow rt ini pc (.iadd) len = some op)
    (hres : q_op md op nx ops ls st g M = some (.inl c')) (hK : q_Kt p l e R s m args below meth c D C b L xs adK adV sb md nL k0 k1 Qz nx ops g.1 ad pc len c') : W p l e R s m args below meth c H locs cells slots Qz (F0 m pc lsr str) := by
  obtain ⟨hl, h2⟩ := q_if_inv hrs
  cases h2; subst hl
  obtain ⟨y, st1, rfl, hres1⟩ := q_ii_inv hres
  obtain ⟨x, st2, rfl, hres2⟩ := q_ii_inv hres1
  obtain ⟨_, str1, e1, hy, hs1⟩ := q_vrs_cons hB.2.2.2.1
  obtain ⟨_, str2, e2, hx, hs2⟩ := q_vrs_cons hs1
  obtain ⟨Y, rfl, rfl⟩ := q_vr_i hy
  obtain ⟨X, rfl, rfl⟩ := q_vr_i hx
  subst e2; subst e1
  simp only [q_add, q_sub, q_mul, q_and, q_or, q_shl, q_shr, Int32.ofInt_toInt] at hres2
  exact q_sd_st (str2 := .int (X + Y) :: str2) hB hres2 hK ⟨q_mk_i _, hs2⟩ (fun k => lv_iadd hB.1.1 hB.1.2.1 hB.2.2.2.2.2.2 k)

theorem q_sd_isub  (hB : q_B p l e R s m args below meth c cc D C b L xs adK adV sb md d ow nL rt ini k0 k1 ls st g M ad H locs lsr str cells slots pc len (.isub)) (hrs : q_rs ow rt ini pc (.isub) len = some op)
    (hres : q_op md op nx ops ls st g M = some (.inl c')) (hK : q_Kt p l e R s m args below meth c D C b L xs adK adV sb md nL k0 k1 Qz nx ops g.1 ad pc len c') : W p l e R s m args below meth c H locs cells slots Qz (F0 m pc lsr str) := by
  obtain ⟨hl, h2⟩ := q_if_inv hrs
  cases h2; subst hl
  obtain ⟨y, st1, rfl, hres1⟩ := q_ii_inv hres
  obtain ⟨x, st2, rfl, hres2⟩ := q_ii_inv hres1
  obtain ⟨_, str1, e1, hy, hs1⟩ := q_vrs_cons hB.2.2.2.1
  obtain ⟨_, str2, e2, hx, hs2⟩ := q_vrs_cons hs1
  obtain ⟨Y, rfl, rfl⟩ := q_vr_i hy
  obtain ⟨X, rfl, rfl⟩ := q_vr_i hx
  subst e2; subst e1
  simp only [q_add, q_sub, q_mul, q_and, q_or, q_shl, q_shr, Int32.ofInt_toInt] at hres2
  exact q_sd_st (str2 := .int (X - Y) :: str2) hB hres2 hK ⟨q_mk_i _, hs2⟩ (fun k => lv_isub hB.1.1 hB.1.2.1 hB.2.2.2.2.2.2 k)

theorem q_sd_imul  (hB : q_B p l e R s m args below meth c cc D C b L xs adK adV sb md d ow nL rt ini k0 k1 ls st g M ad H locs lsr str cells slots pc len (.imul)) (hrs : q_rs ow rt ini pc (.imul) len = some op)
    (hres : q_op md op nx ops ls st g M = some (.inl c')) (hK : q_Kt p l e R s m args below meth c D C b L xs adK adV sb md nL k0 k1 Qz nx ops g.1 ad pc len c') : W p l e R s m args below meth c H locs cells slots Qz (F0 m pc lsr str) := by
  obtain ⟨hl, h2⟩ := q_if_inv hrs
  cases h2; subst hl
  obtain ⟨y, st1, rfl, hres1⟩ := q_ii_inv hres
  obtain ⟨x, st2, rfl, hres2⟩ := q_ii_inv hres1
  obtain ⟨_, str1, e1, hy, hs1⟩ := q_vrs_cons hB.2.2.2.1
  obtain ⟨_, str2, e2, hx, hs2⟩ := q_vrs_cons hs1
  obtain ⟨Y, rfl, rfl⟩ := q_vr_i hy
  obtain ⟨X, rfl, rfl⟩ := q_vr_i hx
  subst e2; subst e1
  simp only [q_add, q_sub, q_mul, q_and, q_or, q_shl, q_shr, Int32.ofInt_toInt] at hres2
  exact q_sd_st (str2 := .int (X * Y) :: str2) hB hres2 hK ⟨q_mk_i _, hs2⟩ (fun k => lv_imul hB.1.1 hB.1.2.1 hB.2.2.2.2.2.2 k)

theorem q_sd_iand  (hB : q_B p l e R s m args below meth c cc D C b L xs adK adV sb md d ow nL rt ini k0 k1 ls st g M ad H locs lsr str cells slots pc len (.iand)) (hrs : q_rs ow rt ini pc (.iand) len = some op)
    (hres : q_op md op nx ops ls st g M = some (.inl c')) (hK : q_Kt p l e R s m args below meth c D C b L xs adK adV sb md nL k0 k1 Qz nx ops g.1 ad pc len c') : W p l e R s m args below meth c H locs cells slots Qz (F0 m pc lsr str) := by
  obtain ⟨hl, h2⟩ := q_if_inv hrs
  cases h2; subst hl
  obtain ⟨y, st1, rfl, hres1⟩ := q_ii_inv hres
  obtain ⟨x, st2, rfl, hres2⟩ := q_ii_inv hres1
  obtain ⟨_, str1, e1, hy, hs1⟩ := q_vrs_cons hB.2.2.2.1
  obtain ⟨_, str2, e2, hx, hs2⟩ := q_vrs_cons hs1
  obtain ⟨Y, rfl, rfl⟩ := q_vr_i hy
  obtain ⟨X, rfl, rfl⟩ := q_vr_i hx
  subst e2; subst e1
  simp only [q_add, q_sub, q_mul, q_and, q_or, q_shl, q_shr, Int32.ofInt_toInt] at hres2
  exact q_sd_st (str2 := .int (X &&& Y) :: str2) hB hres2 hK ⟨q_mk_i _, hs2⟩ (fun k => lv_iand hB.1.1 hB.1.2.1 hB.2.2.2.2.2.2 k)

theorem q_sd_ior  (hB : q_B p l e R s m args below meth c cc D C b L xs adK adV sb md d ow nL rt ini k0 k1 ls st g M ad H locs lsr str cells slots pc len (.ior)) (hrs : q_rs ow rt ini pc (.ior) len = some op)
    (hres : q_op md op nx ops ls st g M = some (.inl c')) (hK : q_Kt p l e R s m args below meth c D C b L xs adK adV sb md nL k0 k1 Qz nx ops g.1 ad pc len c') : W p l e R s m args below meth c H locs cells slots Qz (F0 m pc lsr str) := by
  obtain ⟨hl, h2⟩ := q_if_inv hrs
  cases h2; subst hl
  obtain ⟨y, st1, rfl, hres1⟩ := q_ii_inv hres
  obtain ⟨x, st2, rfl, hres2⟩ := q_ii_inv hres1
  obtain ⟨_, str1, e1, hy, hs1⟩ := q_vrs_cons hB.2.2.2.1
  obtain ⟨_, str2, e2, hx, hs2⟩ := q_vrs_cons hs1
  obtain ⟨Y, rfl, rfl⟩ := q_vr_i hy
  obtain ⟨X, rfl, rfl⟩ := q_vr_i hx
  subst e2; subst e1
  simp only [q_add, q_sub, q_mul, q_and, q_or, q_shl, q_shr, Int32.ofInt_toInt] at hres2
  exact q_sd_st (str2 := .int (X ||| Y) :: str2) hB hres2 hK ⟨q_mk_i _, hs2⟩ (fun k => lv_ior hB.1.1 hB.1.2.1 hB.2.2.2.2.2.2 k)

theorem q_sd_ishl  (hB : q_B p l e R s m args below meth c cc D C b L xs adK adV sb md d ow nL rt ini k0 k1 ls st g M ad H locs lsr str cells slots pc len (.ishl)) (hrs : q_rs ow rt ini pc (.ishl) len = some op)
    (hres : q_op md op nx ops ls st g M = some (.inl c')) (hK : q_Kt p l e R s m args below meth c D C b L xs adK adV sb md nL k0 k1 Qz nx ops g.1 ad pc len c') : W p l e R s m args below meth c H locs cells slots Qz (F0 m pc lsr str) := by
  obtain ⟨hl, h2⟩ := q_if_inv hrs
  cases h2; subst hl
  obtain ⟨y, st1, rfl, hres1⟩ := q_ii_inv hres
  obtain ⟨x, st2, rfl, hres2⟩ := q_ii_inv hres1
  obtain ⟨_, str1, e1, hy, hs1⟩ := q_vrs_cons hB.2.2.2.1
  obtain ⟨_, str2, e2, hx, hs2⟩ := q_vrs_cons hs1
  obtain ⟨Y, rfl, rfl⟩ := q_vr_i hy
  obtain ⟨X, rfl, rfl⟩ := q_vr_i hx
  subst e2; subst e1
  simp only [q_add, q_sub, q_mul, q_and, q_or, q_shl, q_shr, Int32.ofInt_toInt] at hres2
  exact q_sd_st (str2 := .int (X <<< (Y &&& 31)) :: str2) hB hres2 hK ⟨q_mk_i _, hs2⟩ (fun k => lv_ishl hB.1.1 hB.1.2.1 hB.2.2.2.2.2.2 k)

theorem q_sd_ishr  (hB : q_B p l e R s m args below meth c cc D C b L xs adK adV sb md d ow nL rt ini k0 k1 ls st g M ad H locs lsr str cells slots pc len (.ishr)) (hrs : q_rs ow rt ini pc (.ishr) len = some op)
    (hres : q_op md op nx ops ls st g M = some (.inl c')) (hK : q_Kt p l e R s m args below meth c D C b L xs adK adV sb md nL k0 k1 Qz nx ops g.1 ad pc len c') : W p l e R s m args below meth c H locs cells slots Qz (F0 m pc lsr str) := by
  obtain ⟨hl, h2⟩ := q_if_inv hrs
  cases h2; subst hl
  obtain ⟨y, st1, rfl, hres1⟩ := q_ii_inv hres
  obtain ⟨x, st2, rfl, hres2⟩ := q_ii_inv hres1
  obtain ⟨_, str1, e1, hy, hs1⟩ := q_vrs_cons hB.2.2.2.1
  obtain ⟨_, str2, e2, hx, hs2⟩ := q_vrs_cons hs1
  obtain ⟨Y, rfl, rfl⟩ := q_vr_i hy
  obtain ⟨X, rfl, rfl⟩ := q_vr_i hx
  subst e2; subst e1
  simp only [q_add, q_sub, q_mul, q_and, q_or, q_shl, q_shr, Int32.ofInt_toInt] at hres2
  exact q_sd_st (str2 := .int (X >>> (Y &&& 31)) :: str2) hB hres2 hK ⟨q_mk_i _, hs2⟩ (fun k => lv_ishr hB.1.1 hB.1.2.1 hB.2.2.2.2.2.2 k)

theorem q_sd_idiv  (hB : q_B p l e R s m args below meth c cc D C b L xs adK adV sb md d ow nL rt ini k0 k1 ls st g M ad H locs lsr str cells slots pc len (.idiv)) (hrs : q_rs ow rt ini pc (.idiv) len = some op)
    (hres : q_op md op nx ops ls st g M = some (.inl c')) (hK : q_Kt p l e R s m args below meth c D C b L xs adK adV sb md nL k0 k1 Qz nx ops g.1 ad pc len c') : W p l e R s m args below meth c H locs cells slots Qz (F0 m pc lsr str) := by
  obtain ⟨hl, h2⟩ := q_if_inv hrs
  cases h2; subst hl
  obtain ⟨y, st1, rfl, hres1⟩ := q_ii_inv hres
  obtain ⟨x, st2, rfl, hres2⟩ := q_ii_inv hres1
  obtain ⟨_, str1, e1, hy, hs1⟩ := q_vrs_cons hB.2.2.2.1
  obtain ⟨_, str2, e2, hx, hs2⟩ := q_vrs_cons hs1
  obtain ⟨Y, rfl, rfl⟩ := q_vr_i hy
  obtain ⟨X, rfl, rfl⟩ := q_vr_i hx
  subst e2; subst e1
  by_cases h0 : Y.toInt = 0
  · rw [if_pos h0] at hres2; cases hres2
  · rw [if_neg h0] at hres2
    simp only [q_div, q_rem, Int32.ofInt_toInt] at hres2
    exact q_sd_st (str2 := .int (X / Y) :: str2) hB hres2 hK ⟨q_mk_i _, hs2⟩ (fun k => lv_idiv hB.1.1 hB.1.2.1 hB.2.2.2.2.2.2 (fun q => h0 (by rw [q]; rfl)) k)

theorem q_sd_irem  (hB : q_B p l e R s m args below meth c cc D C b L xs adK adV sb md d ow nL rt ini k0 k1 ls st g M ad H locs lsr str cells slots pc len (.irem)) (hrs : q_rs ow rt ini pc (.irem) len = some op)
    (hres : q_op md op nx ops ls st g M = some (.inl c')) (hK : q_Kt p l e R s m args below meth c D C b L xs adK adV sb md nL k0 k1 Qz nx ops g.1 ad pc len c') : W p l e R s m args below meth c H locs cells slots Qz (F0 m pc lsr str) := by
  obtain ⟨hl, h2⟩ := q_if_inv hrs
  cases h2; subst hl
  obtain ⟨y, st1, rfl, hres1⟩ := q_ii_inv hres
  obtain ⟨x, st2, rfl, hres2⟩ := q_ii_inv hres1
  obtain ⟨_, str1, e1, hy, hs1⟩ := q_vrs_cons hB.2.2.2.1
  obtain ⟨_, str2, e2, hx, hs2⟩ := q_vrs_cons hs1
  obtain ⟨Y, rfl, rfl⟩ := q_vr_i hy
  obtain ⟨X, rfl, rfl⟩ := q_vr_i hx
  subst e2; subst e1
  by_cases h0 : Y.toInt = 0
  · rw [if_pos h0] at hres2; cases hres2
  · rw [if_neg h0] at hres2
    simp only [q_div, q_rem, Int32.ofInt_toInt] at hres2
    exact q_sd_st (str2 := .int (X - X / Y * Y) :: str2) hB hres2 hK ⟨q_mk_i _, hs2⟩ (fun k => lv_irem hB.1.1 hB.1.2.1 hB.2.2.2.2.2.2 (fun q => h0 (by rw [q]; rfl)) k)

theorem q_sd_ladd  (hB : q_B p l e R s m args below meth c cc D C b L xs adK adV sb md d ow nL rt ini k0 k1 ls st g M ad H locs lsr str cells slots pc len (.ladd)) (hrs : q_rs ow rt ini pc (.ladd) len = some op)
    (hres : q_op md op nx ops ls st g M = some (.inl c')) (hK : q_Kt p l e R s m args below meth c D C b L xs adK adV sb md nL k0 k1 Qz nx ops g.1 ad pc len c') : W p l e R s m args below meth c H locs cells slots Qz (F0 m pc lsr str) := by
  obtain ⟨hl, h2⟩ := q_if_inv hrs
  cases h2; subst hl
  obtain ⟨y, st1, rfl, hres1⟩ := q_ll_inv hres
  obtain ⟨x, st2, rfl, hres2⟩ := q_ll_inv hres1
  obtain ⟨_, str1, e1, hy, hs1⟩ := q_vrs_cons hB.2.2.2.1
  obtain ⟨_, str2, e2, hx, hs2⟩ := q_vrs_cons hs1
  obtain ⟨Y, rfl, rfl⟩ := q_vr_l hy
  obtain ⟨X, rfl, rfl⟩ := q_vr_l hx
  subst e2; subst e1
  simp only [q_ladd, q_lmul, Int64.ofInt_toInt] at hres2
  exact q_sd_st (str2 := .long (X + Y) :: str2) hB hres2 hK ⟨q_mk_l _, hs2⟩ (fun k => lv_ladd hB.1.1 hB.1.2.1 hB.2.2.2.2.2.2 k)

theorem q_sd_lmul  (hB : q_B p l e R s m args below meth c cc D C b L xs adK adV sb md d ow nL rt ini k0 k1 ls st g M ad H locs lsr str cells slots pc len (.lmul)) (hrs : q_rs ow rt ini pc (.lmul) len = some op)
    (hres : q_op md op nx ops ls st g M = some (.inl c')) (hK : q_Kt p l e R s m args below meth c D C b L xs adK adV sb md nL k0 k1 Qz nx ops g.1 ad pc len c') : W p l e R s m args below meth c H locs cells slots Qz (F0 m pc lsr str) := by
  obtain ⟨hl, h2⟩ := q_if_inv hrs
  cases h2; subst hl
  obtain ⟨y, st1, rfl, hres1⟩ := q_ll_inv hres
  obtain ⟨x, st2, rfl, hres2⟩ := q_ll_inv hres1
  obtain ⟨_, str1, e1, hy, hs1⟩ := q_vrs_cons hB.2.2.2.1
  obtain ⟨_, str2, e2, hx, hs2⟩ := q_vrs_cons hs1
  obtain ⟨Y, rfl, rfl⟩ := q_vr_l hy
  obtain ⟨X, rfl, rfl⟩ := q_vr_l hx
  subst e2; subst e1
  simp only [q_ladd, q_lmul, Int64.ofInt_toInt] at hres2
  exact q_sd_st (str2 := .long (X * Y) :: str2) hB hres2 hK ⟨q_mk_l _, hs2⟩ (fun k => lv_lmul hB.1.1 hB.1.2.1 hB.2.2.2.2.2.2 k)

theorem q_sd_ldiv  (hB : q_B p l e R s m args below meth c cc D C b L xs adK adV sb md d ow nL rt ini k0 k1 ls st g M ad H locs lsr str cells slots pc len (.ldiv)) (hrs : q_rs ow rt ini pc (.ldiv) len = some op)
    (hres : q_op md op nx ops ls st g M = some (.inl c')) (hK : q_Kt p l e R s m args below meth c D C b L xs adK adV sb md nL k0 k1 Qz nx ops g.1 ad pc len c') : W p l e R s m args below meth c H locs cells slots Qz (F0 m pc lsr str) := by
  obtain ⟨hl, h2⟩ := q_if_inv hrs
  cases h2; subst hl
  obtain ⟨y, st1, rfl, hres1⟩ := q_ll_inv hres
  obtain ⟨x, st2, rfl, hres2⟩ := q_ll_inv hres1
  obtain ⟨_, str1, e1, hy, hs1⟩ := q_vrs_cons hB.2.2.2.1
  obtain ⟨_, str2, e2, hx, hs2⟩ := q_vrs_cons hs1
  obtain ⟨Y, rfl, rfl⟩ := q_vr_l hy
  obtain ⟨X, rfl, rfl⟩ := q_vr_l hx
  subst e2; subst e1
  by_cases h0 : Y.toInt = 0
  · rw [if_pos h0] at hres2; cases hres2
  · rw [if_neg h0] at hres2
    simp only [q_ldiv, q_lrem, Int64.ofInt_toInt] at hres2
    exact q_sd_st (str2 := .long (X / Y) :: str2) hB hres2 hK ⟨q_mk_l _, hs2⟩ (fun k => lv_ldiv hB.1.1 hB.1.2.1 hB.2.2.2.2.2.2 (fun q => h0 (by rw [q]; rfl)) k)

theorem q_sd_lrem  (hB : q_B p l e R s m args below meth c cc D C b L xs adK adV sb md d ow nL rt ini k0 k1 ls st g M ad H locs lsr str cells slots pc len (.lrem)) (hrs : q_rs ow rt ini pc (.lrem) len = some op)
    (hres : q_op md op nx ops ls st g M = some (.inl c')) (hK : q_Kt p l e R s m args below meth c D C b L xs adK adV sb md nL k0 k1 Qz nx ops g.1 ad pc len c') : W p l e R s m args below meth c H locs cells slots Qz (F0 m pc lsr str) := by
  obtain ⟨hl, h2⟩ := q_if_inv hrs
  cases h2; subst hl
  obtain ⟨y, st1, rfl, hres1⟩ := q_ll_inv hres
  obtain ⟨x, st2, rfl, hres2⟩ := q_ll_inv hres1
  obtain ⟨_, str1, e1, hy, hs1⟩ := q_vrs_cons hB.2.2.2.1
  obtain ⟨_, str2, e2, hx, hs2⟩ := q_vrs_cons hs1
  obtain ⟨Y, rfl, rfl⟩ := q_vr_l hy
  obtain ⟨X, rfl, rfl⟩ := q_vr_l hx
  subst e2; subst e1
  by_cases h0 : Y.toInt = 0
  · rw [if_pos h0] at hres2; cases hres2
  · rw [if_neg h0] at hres2
    simp only [q_ldiv, q_lrem, Int64.ofInt_toInt] at hres2
    exact q_sd_st (str2 := .long (X - X / Y * Y) :: str2) hB hres2 hK ⟨q_mk_l _, hs2⟩ (fun k => lv_lrem hB.1.1 hB.1.2.1 hB.2.2.2.2.2.2 (fun q => h0 (by rw [q]; rfl)) k)

theorem q_sd_ineg  (hB : q_B p l e R s m args below meth c cc D C b L xs adK adV sb md d ow nL rt ini k0 k1 ls st g M ad H locs lsr str cells slots pc len (.ineg)) (hrs : q_rs ow rt ini pc (.ineg) len = some op)
    (hres : q_op md op nx ops ls st g M = some (.inl c')) (hK : q_Kt p l e R s m args below meth c D C b L xs adK adV sb md nL k0 k1 Qz nx ops g.1 ad pc len c') : W p l e R s m args below meth c H locs cells slots Qz (F0 m pc lsr str) := by
  obtain ⟨hl, h2⟩ := q_if_inv hrs
  cases h2; subst hl
  obtain ⟨x, st2, rfl, hres1⟩ := q_ii_inv hres
  obtain ⟨_, str2, e2, hx, hs1⟩ := q_vrs_cons hB.2.2.2.1
  obtain ⟨X, rfl, rfl⟩ := q_vr_i hx
  subst e2
  simp only [q_neg, q_i2b, q_i2s, q_i2c, Int32.ofInt_toInt] at hres1
  exact q_sd_st (str2 := .int (-X) :: str2) hB hres1 hK ⟨q_mk_i _, hs1⟩ (fun k => lv_ineg hB.1.1 hB.1.2.1 hB.2.2.2.2.2.2 k)

theorem q_sd_i2b  (hB : q_B p l e R s m args below meth c cc D C b L xs adK adV sb md d ow nL rt ini k0 k1 ls st g M ad H locs lsr str cells slots pc len (.i2b)) (hrs : q_rs ow rt ini pc (.i2b) len = some op)
    (hres : q_op md op nx ops ls st g M = some (.inl c')) (hK : q_Kt p l e R s m args below meth c D C b L xs adK adV sb md nL k0 k1 Qz nx ops g.1 ad pc len c') : W p l e R s m args below meth c H locs cells slots Qz (F0 m pc lsr str) := by
  obtain ⟨hl, h2⟩ := q_if_inv hrs
  cases h2; subst hl
  obtain ⟨x, st2, rfl, hres1⟩ := q_ii_inv hres
  obtain ⟨_, str2, e2, hx, hs1⟩ := q_vrs_cons hB.2.2.2.1
  obtain ⟨X, rfl, rfl⟩ := q_vr_i hx
  subst e2
  simp only [q_neg, q_i2b, q_i2s, q_i2c, Int32.ofInt_toInt] at hres1
  exact q_sd_st (str2 := .int (X.toInt8.toInt32) :: str2) hB hres1 hK ⟨q_mk_i _, hs1⟩ (fun k => lv_i2b hB.1.1 hB.1.2.1 hB.2.2.2.2.2.2 rfl k)

theorem q_sd_i2s  (hB : q_B p l e R s m args below meth c cc D C b L xs adK adV sb md d ow nL rt ini k0 k1 ls st g M ad H locs lsr str cells slots pc len (.i2s)) (hrs : q_rs ow rt ini pc (.i2s) len = some op)
    (hres : q_op md op nx ops ls st g M = some (.inl c')) (hK : q_Kt p l e R s m args below meth c D C b L xs adK adV sb md nL k0 k1 Qz nx ops g.1 ad pc len c') : W p l e R s m args below meth c H locs cells slots Qz (F0 m pc lsr str) := by
  obtain ⟨hl, h2⟩ := q_if_inv hrs
  cases h2; subst hl
  obtain ⟨x, st2, rfl, hres1⟩ := q_ii_inv hres
  obtain ⟨_, str2, e2, hx, hs1⟩ := q_vrs_cons hB.2.2.2.1
  obtain ⟨X, rfl, rfl⟩ := q_vr_i hx
  subst e2
  simp only [q_neg, q_i2b, q_i2s, q_i2c, Int32.ofInt_toInt] at hres1
  exact q_sd_st (str2 := .int (X.toInt16.toInt32) :: str2) hB hres1 hK ⟨q_mk_i _, hs1⟩ (fun k => lv_i2s hB.1.1 hB.1.2.1 hB.2.2.2.2.2.2 rfl k)

theorem q_sd_i2c  (hB : q_B p l e R s m args below meth c cc D C b L xs adK adV sb md d ow nL rt ini k0 k1 ls st g M ad H locs lsr str cells slots pc len (.i2c)) (hrs : q_rs ow rt ini pc (.i2c) len = some op)
    (hres : q_op md op nx ops ls st g M = some (.inl c')) (hK : q_Kt p l e R s m args below meth c D C b L xs adK adV sb md nL k0 k1 Qz nx ops g.1 ad pc len c') : W p l e R s m args below meth c H locs cells slots Qz (F0 m pc lsr str) := by
  obtain ⟨hl, h2⟩ := q_if_inv hrs
  cases h2; subst hl
  obtain ⟨x, st2, rfl, hres1⟩ := q_ii_inv hres
  obtain ⟨_, str2, e2, hx, hs1⟩ := q_vrs_cons hB.2.2.2.1
  obtain ⟨X, rfl, rfl⟩ := q_vr_i hx
  subst e2
  simp only [q_neg, q_i2b, q_i2s, q_i2c, Int32.ofInt_toInt] at hres1
  exact q_sd_st (str2 := .int ((X.toUInt32 % 65536).toInt32) :: str2) hB hres1 hK ⟨q_mk_i _, hs1⟩ (fun k => lv_i2c hB.1.1 hB.1.2.1 hB.2.2.2.2.2.2 rfl k)

theorem q_sd_i2l  (hB : q_B p l e R s m args below meth c cc D C b L xs adK adV sb md d ow nL rt ini k0 k1 ls st g M ad H locs lsr str cells slots pc len (.i2l)) (hrs : q_rs ow rt ini pc (.i2l) len = some op)
    (hres : q_op md op nx ops ls st g M = some (.inl c')) (hK : q_Kt p l e R s m args below meth c D C b L xs adK adV sb md nL k0 k1 Qz nx ops g.1 ad pc len c') : W p l e R s m args below meth c H locs cells slots Qz (F0 m pc lsr str) := by
  obtain ⟨hl, h2⟩ := q_if_inv hrs
  cases h2; subst hl
  obtain ⟨x, st2, rfl, hres1⟩ := q_ii_inv hres
  obtain ⟨_, str2, e2, hx, hs1⟩ := q_vrs_cons hB.2.2.2.1
  obtain ⟨X, rfl, rfl⟩ := q_vr_i hx
  subst e2
  simp only [q_i2l, Int32.ofInt_toInt] at hres1
  exact q_sd_st (str2 := .long X.toInt64 :: str2) hB hres1 hK ⟨q_mk_l _, hs1⟩ (fun k => lv_i2l hB.1.1 hB.1.2.1 hB.2.2.2.2.2.2 rfl k)

theorem q_sd_l2i  (hB : q_B p l e R s m args below meth c cc D C b L xs adK adV sb md d ow nL rt ini k0 k1 ls st g M ad H locs lsr str cells slots pc len (.l2i)) (hrs : q_rs ow rt ini pc (.l2i) len = some op)
    (hres : q_op md op nx ops ls st g M = some (.inl c')) (hK : q_Kt p l e R s m args below meth c D C b L xs adK adV sb md nL k0 k1 Qz nx ops g.1 ad pc len c') : W p l e R s m args below meth c H locs cells slots Qz (F0 m pc lsr str) := by
  obtain ⟨hl, h2⟩ := q_if_inv hrs
  cases h2; subst hl
  obtain ⟨x, st2, rfl, hres1⟩ := q_ll_inv hres
  obtain ⟨_, str2, e2, hx, hs1⟩ := q_vrs_cons hB.2.2.2.1
  obtain ⟨X, rfl, rfl⟩ := q_vr_l hx
  subst e2
  simp only [q_l2i, Int64.ofInt_toInt] at hres1
  exact q_sd_st (str2 := .int X.toInt32 :: str2) hB hres1 hK ⟨q_mk_i _, hs1⟩ (fun k => lv_l2i hB.1.1 hB.1.2.1 hB.2.2.2.2.2.2 rfl k)

theorem q_sd_iload_n {k : Fin 4} (hB : q_B p l e R s m args below meth c cc D C b L xs adK adV sb md d ow nL rt ini k0 k1 ls st g M ad H locs lsr str cells slots pc len (.iload_n k)) (hrs : q_rs ow rt ini pc (.iload_n k) len = some op)
    (hres : q_op md op nx ops ls st g M = some (.inl c')) (hK : q_Kt p l e R s m args below meth c D C b L xs adK adV sb md nL k0 k1 Qz nx ops g.1 ad pc len c') : W p l e R s m args below meth c H locs cells slots Qz (F0 m pc lsr str) := by
  obtain ⟨hl, h2⟩ := q_if_inv hrs
  cases h2; subst hl
  obtain ⟨x, st9, e, hres1⟩ := q_ii_inv hres
  simp only [List.cons.injEq] at e
  obtain ⟨r, hr, hv⟩ := q_lr_get hB.2.2.1 (by rw [e.1]; rfl)
  rw [e.1] at hv
  obtain ⟨X, rfl, rfl⟩ := q_vr_i hv
  exact q_sd_st (str2 := .int X :: str) hB hres1 hK ⟨q_mk_i _, hB.2.2.2.1⟩ (fun k2 => lv_iload_n hB.1.1 hB.1.2.1 hB.2.2.2.2.2.2 rfl hr k2)

theorem q_sd_iload {k : Nat} (hB : q_B p l e R s m args below meth c cc D C b L xs adK adV sb md d ow nL rt ini k0 k1 ls st g M ad H locs lsr str cells slots pc len (.iload k)) (hrs : q_rs ow rt ini pc (.iload k) len = some op)
    (hres : q_op md op nx ops ls st g M = some (.inl c')) (hK : q_Kt p l e R s m args below meth c D C b L xs adK adV sb md nL k0 k1 Qz nx ops g.1 ad pc len c') : W p l e R s m args below meth c H locs cells slots Qz (F0 m pc lsr str) := by
  obtain ⟨hl, h2⟩ := q_if_inv hrs
  cases h2; subst hl
  obtain ⟨x, st9, e, hres1⟩ := q_ii_inv hres
  simp only [List.cons.injEq] at e
  obtain ⟨r, hr, hv⟩ := q_lr_get hB.2.2.1 (by rw [e.1]; rfl)
  rw [e.1] at hv
  obtain ⟨X, rfl, rfl⟩ := q_vr_i hv
  exact q_sd_st (str2 := .int X :: str) hB hres1 hK ⟨q_mk_i _, hB.2.2.2.1⟩ (fun k2 => lv_iload hB.1.1 hB.1.2.1 hB.2.2.2.2.2.2 hr k2)

theorem q_sd_lload_n {k : Fin 4} (hB : q_B p l e R s m args below meth c cc D C b L xs adK adV sb md d ow nL rt ini k0 k1 ls st g M ad H locs lsr str cells slots pc len (.lload_n k)) (hrs : q_rs ow rt ini pc (.lload_n k) len = some op)
    (hres : q_op md op nx ops ls st g M = some (.inl c')) (hK : q_Kt p l e R s m args below meth c D C b L xs adK adV sb md nL k0 k1 Qz nx ops g.1 ad pc len c') : W p l e R s m args below meth c H locs cells slots Qz (F0 m pc lsr str) := by
  obtain ⟨hl, h2⟩ := q_if_inv hrs
  cases h2; subst hl
  obtain ⟨x, st9, e, hres1⟩ := q_ll_inv hres
  simp only [List.cons.injEq] at e
  obtain ⟨r, hr, hv⟩ := q_lr_get hB.2.2.1 (by rw [e.1]; rfl)
  rw [e.1] at hv
  obtain ⟨X, rfl, rfl⟩ := q_vr_l hv
  exact q_sd_st (str2 := .long X :: str) hB hres1 hK ⟨q_mk_l _, hB.2.2.2.1⟩ (fun k2 => lv_lload_n hB.1.1 hB.1.2.1 hB.2.2.2.2.2.2 rfl hr k2)

theorem q_sd_lload {k : Nat} (hB : q_B p l e R s m args below meth c cc D C b L xs adK adV sb md d ow nL rt ini k0 k1 ls st g M ad H locs lsr str cells slots pc len (.lload k)) (hrs : q_rs ow rt ini pc (.lload k) len = some op)
    (hres : q_op md op nx ops ls st g M = some (.inl c')) (hK : q_Kt p l e R s m args below meth c D C b L xs adK adV sb md nL k0 k1 Qz nx ops g.1 ad pc len c') : W p l e R s m args below meth c H locs cells slots Qz (F0 m pc lsr str) := by
  obtain ⟨hl, h2⟩ := q_if_inv hrs
  cases h2; subst hl
  obtain ⟨x, st9, e, hres1⟩ := q_ll_inv hres
  simp only [List.cons.injEq] at e
  obtain ⟨r, hr, hv⟩ := q_lr_get hB.2.2.1 (by rw [e.1]; rfl)
  rw [e.1] at hv
  obtain ⟨X, rfl, rfl⟩ := q_vr_l hv
  exact q_sd_st (str2 := .long X :: str) hB hres1 hK ⟨q_mk_l _, hB.2.2.2.1⟩ (fun k2 => lv_lload hB.1.1 hB.1.2.1 hB.2.2.2.2.2.2 hr k2)

theorem q_sd_aload_n {k : Fin 4} (hB : q_B p l e R s m args below meth c cc D C b L xs adK adV sb md d ow nL rt ini k0 k1 ls st g M ad H locs lsr str cells slots pc len (.aload_n k)) (hrs : q_rs ow rt ini pc (.aload_n k) len = some op)
    (hres : q_op md op nx ops ls st g M = some (.inl c')) (hK : q_Kt p l e R s m args below meth c D C b L xs adK adV sb md nL k0 k1 Qz nx ops g.1 ad pc len c') : W p l e R s m args below meth c H locs cells slots Qz (F0 m pc lsr str) := by
  obtain ⟨hl, h2⟩ := q_if_inv hrs
  cases h2; subst hl
  obtain ⟨hq, hres1⟩ := q_if_inv hres
  obtain ⟨r, hr, hv⟩ := q_lr_get hB.2.2.1 (q_set_of_rf hq)
  rcases q_vr_rf hv hq with e | ⟨q, e⟩
  · subst e
    exact q_sd_st (str2 := .null :: str) hB hres1 hK ⟨hv, hB.2.2.2.1⟩ (fun k2 => lv_aload_nN hB.1.1 hB.1.2.1 hB.2.2.2.2.2.2 rfl hr k2)
  · subst e
    exact q_sd_st (str2 := .ref q :: str) hB hres1 hK ⟨hv, hB.2.2.2.1⟩ (fun k2 => lv_aload_n hB.1.1 hB.1.2.1 hB.2.2.2.2.2.2 rfl hr k2)

theorem q_sd_aload {k : Nat} (hB : q_B p l e R s m args below meth c cc D C b L xs adK adV sb md d ow nL rt ini k0 k1 ls st g M ad H locs lsr str cells slots pc len (.aload k)) (hrs : q_rs ow rt ini pc (.aload k) len = some op)
    (hres : q_op md op nx ops ls st g M = some (.inl c')) (hK : q_Kt p l e R s m args below meth c D C b L xs adK adV sb md nL k0 k1 Qz nx ops g.1 ad pc len c') : W p l e R s m args below meth c H locs cells slots Qz (F0 m pc lsr str) := by
  obtain ⟨hl, h2⟩ := q_if_inv hrs
  cases h2; subst hl
  obtain ⟨hq, hres1⟩ := q_if_inv hres
  obtain ⟨r, hr, hv⟩ := q_lr_get hB.2.2.1 (q_set_of_rf hq)
  rcases q_vr_rf hv hq with e | ⟨q, e⟩
  · subst e
    exact q_sd_st (str2 := .null :: str) hB hres1 hK ⟨hv, hB.2.2.2.1⟩ (fun k2 => lv_aloadN hB.1.1 hB.1.2.1 hB.2.2.2.2.2.2 hr k2)
  · subst e
    exact q_sd_st (str2 := .ref q :: str) hB hres1 hK ⟨hv, hB.2.2.2.1⟩ (fun k2 => lv_aload hB.1.1 hB.1.2.1 hB.2.2.2.2.2.2 hr k2)

theorem q_sd_istore_n {k : Fin 4} (hB : q_B p l e R s m args below meth c cc D C b L xs adK adV sb md d ow nL rt ini k0 k1 ls st g M ad H locs lsr str cells slots pc len (.istore_n k)) (hrs : q_rs ow rt ini pc (.istore_n k) len = some op)
    (hres : q_op md op nx ops ls st g M = some (.inl c')) (hK : q_Kt p l e R s m args below meth c D C b L xs adK adV sb md nL k0 k1 Qz nx ops g.1 ad pc len c') : W p l e R s m args below meth c H locs cells slots Qz (F0 m pc lsr str) := by
  obtain ⟨hl, h2⟩ := q_if_inv hrs
  cases h2; subst hl
  obtain ⟨x, st2, rfl, hres1⟩ := q_ii_inv hres
  obtain ⟨ls', h1, hres2⟩ := Option.bind_eq_some_iff.mp hres1
  obtain ⟨_, str2, e2, hx, hs1⟩ := q_vrs_cons hB.2.2.2.1
  obtain ⟨X, rfl, rfl⟩ := q_vr_i hx
  subst e2
  obtain ⟨hlen, lv, hlv, h3⟩ := hB.2.2.1
  exact lv_istore_n hB.1.1 hB.1.2.1 hB.2.2.2.2.2.2 rfl hlv (by have := q_st1_lt h1; omega) rfl (fun lsr' hl' => q_sd_lo hB hres2 hK hs1 (q_lr_set1 h1 (q_mk_i X) hlen h3 hl'))

theorem q_sd_istore {k : Nat} (hB : q_B p l e R s m args below meth c cc D C b L xs adK adV sb md d ow nL rt ini k0 k1 ls st g M ad H locs lsr str cells slots pc len (.istore k)) (hrs : q_rs ow rt ini pc (.istore k) len = some op)
    (hres : q_op md op nx ops ls st g M = some (.inl c')) (hK : q_Kt p l e R s m args below meth c D C b L xs adK adV sb md nL k0 k1 Qz nx ops g.1 ad pc len c') : W p l e R s m args below meth c H locs cells slots Qz (F0 m pc lsr str) := by
  obtain ⟨hl, h2⟩ := q_if_inv hrs
  cases h2; subst hl
  obtain ⟨x, st2, rfl, hres1⟩ := q_ii_inv hres
  obtain ⟨ls', h1, hres2⟩ := Option.bind_eq_some_iff.mp hres1
  obtain ⟨_, str2, e2, hx, hs1⟩ := q_vrs_cons hB.2.2.2.1
  obtain ⟨X, rfl, rfl⟩ := q_vr_i hx
  subst e2
  obtain ⟨hlen, lv, hlv, h3⟩ := hB.2.2.1
  exact lv_istore hB.1.1 hB.1.2.1 hB.2.2.2.2.2.2 hlv (by have := q_st1_lt h1; omega) rfl (fun lsr' hl' => q_sd_lo hB hres2 hK hs1 (q_lr_set1 h1 (q_mk_i X) hlen h3 hl'))

theorem q_sd_lstore_n {k : Fin 4} (hB : q_B p l e R s m args below meth c cc D C b L xs adK adV sb md d ow nL rt ini k0 k1 ls st g M ad H locs lsr str cells slots pc len (.lstore_n k)) (hrs : q_rs ow rt ini pc (.lstore_n k) len = some op)
    (hres : q_op md op nx ops ls st g M = some (.inl c')) (hK : q_Kt p l e R s m args below meth c D C b L xs adK adV sb md nL k0 k1 Qz nx ops g.1 ad pc len c') : W p l e R s m args below meth c H locs cells slots Qz (F0 m pc lsr str) := by
  obtain ⟨hl, h2⟩ := q_if_inv hrs
  cases h2; subst hl
  obtain ⟨v, st2, rfl, hres1⟩ := q_vv_inv hres
  obtain ⟨ls', h1, hres2⟩ := Option.bind_eq_some_iff.mp hres1
  obtain ⟨r, str2, e2, hx, hs1⟩ := q_vrs_cons hB.2.2.2.1
  subst e2
  obtain ⟨X, rfl⟩ := q_vr_isL hx (q_st2_isL h1)
  obtain ⟨hlen, lv, hlv, h3⟩ := hB.2.2.1
  exact lv_lstore_n hB.1.1 hB.1.2.1 hB.2.2.2.2.2.2 rfl hlv (by have := q_st2_lt h1; omega) rfl (fun lsr' hl' => q_sd_lo hB hres2 hK hs1 (q_lr_set2 h1 hx hlen h3 hl'))

theorem q_sd_lstore {k : Nat} (hB : q_B p l e R s m args below meth c cc D C b L xs adK adV sb md d ow nL rt ini k0 k1 ls st g M ad H locs lsr str cells slots pc len (.lstore k)) (hrs : q_rs ow rt ini pc (.lstore k) len = some op)
    (hres : q_op md op nx ops ls st g M = some (.inl c')) (hK : q_Kt p l e R s m args below meth c D C b L xs adK adV sb md nL k0 k1 Qz nx ops g.1 ad pc len c') : W p l e R s m args below meth c H locs cells slots Qz (F0 m pc lsr str) := by
  obtain ⟨hl, h2⟩ := q_if_inv hrs
  cases h2; subst hl
  obtain ⟨v, st2, rfl, hres1⟩ := q_vv_inv hres
  obtain ⟨ls', h1, hres2⟩ := Option.bind_eq_some_iff.mp hres1
  obtain ⟨r, str2, e2, hx, hs1⟩ := q_vrs_cons hB.2.2.2.1
  subst e2
  obtain ⟨X, rfl⟩ := q_vr_isL hx (q_st2_isL h1)
  obtain ⟨hlen, lv, hlv, h3⟩ := hB.2.2.1
  exact lv_lstore hB.1.1 hB.1.2.1 hB.2.2.2.2.2.2 hlv (by have := q_st2_lt h1; omega) rfl (fun lsr' hl' => q_sd_lo hB hres2 hK hs1 (q_lr_set2 h1 hx hlen h3 hl'))

theorem q_sd_astore_n {k : Fin 4} (hB : q_B p l e R s m args below meth c cc D C b L xs adK adV sb md d ow nL rt ini k0 k1 ls st g M ad H locs lsr str cells slots pc len (.astore_n k)) (hrs : q_rs ow rt ini pc (.astore_n k) len = some op)
    (hres : q_op md op nx ops ls st g M = some (.inl c')) (hK : q_Kt p l e R s m args below meth c D C b L xs adK adV sb md nL k0 k1 Qz nx ops g.1 ad pc len c') : W p l e R s m args below meth c H locs cells slots Qz (F0 m pc lsr str) := by
  obtain ⟨hl, h2⟩ := q_if_inv hrs
  cases h2; subst hl
  obtain ⟨v, st2, rfl, hres1⟩ := q_vv_inv hres
  obtain ⟨hq, hres2⟩ := q_if_inv hres1
  obtain ⟨ls', h1, hres3⟩ := Option.bind_eq_some_iff.mp hres2
  obtain ⟨r, str2, e2, hx, hs1⟩ := q_vrs_cons hB.2.2.2.1
  subst e2
  obtain ⟨hlen, lv, hlv, h3⟩ := hB.2.2.1
  rcases q_vr_rf hx hq with e | ⟨q, e⟩
  · subst e
    exact lv_astore_nN hB.1.1 hB.1.2.1 hB.2.2.2.2.2.2 rfl hlv (by have := q_st1_lt h1; omega) rfl (fun lsr' hl' => q_sd_lo hB hres3 hK hs1 (q_lr_set1 h1 hx hlen h3 hl'))
  · subst e
    exact lv_astore_n hB.1.1 hB.1.2.1 hB.2.2.2.2.2.2 rfl hlv (by have := q_st1_lt h1; omega) rfl (fun lsr' hl' => q_sd_lo hB hres3 hK hs1 (q_lr_set1 h1 hx hlen h3 hl'))

theorem q_sd_astore {k : Nat} (hB : q_B p l e R s m args below meth c cc D C b L xs adK adV sb md d ow nL rt ini k0 k1 ls st g M ad H locs lsr str cells slots pc len (.astore k)) (hrs : q_rs ow rt ini pc (.astore k) len = some op)
    (hres : q_op md op nx ops ls st g M = some (.inl c')) (hK : q_Kt p l e R s m args below meth c D C b L xs adK adV sb md nL k0 k1 Qz nx ops g.1 ad pc len c') : W p l e R s m args below meth c H locs cells slots Qz (F0 m pc lsr str) := by
  obtain ⟨hl, h2⟩ := q_if_inv hrs
  cases h2; subst hl
  obtain ⟨v, st2, rfl, hres1⟩ := q_vv_inv hres
  obtain ⟨hq, hres2⟩ := q_if_inv hres1
  obtain ⟨ls', h1, hres3⟩ := Option.bind_eq_some_iff.mp hres2
  obtain ⟨r, str2, e2, hx, hs1⟩ := q_vrs_cons hB.2.2.2.1
  subst e2
  obtain ⟨hlen, lv, hlv, h3⟩ := hB.2.2.1
  rcases q_vr_rf hx hq with e | ⟨q, e⟩
  · subst e
    exact lv_astoreN hB.1.1 hB.1.2.1 hB.2.2.2.2.2.2 hlv (by have := q_st1_lt h1; omega) rfl (fun lsr' hl' => q_sd_lo hB hres3 hK hs1 (q_lr_set1 h1 hx hlen h3 hl'))
  · subst e
    exact lv_astore hB.1.1 hB.1.2.1 hB.2.2.2.2.2.2 hlv (by have := q_st1_lt h1; omega) rfl (fun lsr' hl' => q_sd_lo hB hres3 hK hs1 (q_lr_set1 h1 hx hlen h3 hl'))

theorem q_sd_iinc {k : Nat} {n : Int} (hB : q_B p l e R s m args below meth c cc D C b L xs adK adV sb md d ow nL rt ini k0 k1 ls st g M ad H locs lsr str cells slots pc len (.iinc k n)) (hrs : q_rs ow rt ini pc (.iinc k n) len = some op)
    (hres : q_op md op nx ops ls st g M = some (.inl c')) (hK : q_Kt p l e R s m args below meth c D C b L xs adK adV sb md nL k0 k1 Qz nx ops g.1 ad pc len c') : W p l e R s m args below meth c H locs cells slots Qz (F0 m pc lsr str) := by
  obtain ⟨⟨hl, hr⟩, h2⟩ := q_if_inv hrs
  cases h2; subst hl
  obtain ⟨x, st9, e, hres1⟩ := q_ii_inv hres
  simp only [List.cons.injEq] at e
  obtain ⟨ls', h1, hres2⟩ := Option.bind_eq_some_iff.mp hres1
  obtain ⟨hlen, lv, hlv, h3⟩ := hB.2.2.1
  have hk0 := q_st1_lt h1
  have hk1 : ls[k]? = some (qI x) := by
    rw [← e.1, List.getD_eq_getElem?_getD, List.getElem?_eq_getElem hk0]
    rfl
  obtain ⟨r, hm, hv⟩ := h3 k _ hk1 rfl
  obtain ⟨X, rfl, rfl⟩ := q_vr_i hv
  obtain ⟨j, hj⟩ := List.getElem?_of_mem hm
  have ea : q_add X.toInt n = (X + Int32.ofInt n).toInt := by rw [q_add, Int32.ofInt_toInt]
  rw [ea] at h1
  exact lv_iinc hB.1.1 hB.1.2.1 hB.2.2.2.2.2.2 hlv hj rfl (by omega) rfl (fun lsr' hl' => q_sd_lo hB hres2 hK hB.2.2.2.1 (q_lr_set1 h1 (q_mk_i _) hlen h3 hl'))

theorem q_sd_pop  (hB : q_B p l e R s m args below meth c cc D C b L xs adK adV sb md d ow nL rt ini k0 k1 ls st g M ad H locs lsr str cells slots pc len (.pop)) (hrs : q_rs ow rt ini pc (.pop) len = some op)
    (hres : q_op md op nx ops ls st g M = some (.inl c')) (hK : q_Kt p l e R s m args below meth c D C b L xs adK adV sb md nL k0 k1 Qz nx ops g.1 ad pc len c') : W p l e R s m args below meth c H locs cells slots Qz (F0 m pc lsr str) := by
  obtain ⟨hl, h2⟩ := q_if_inv hrs
  cases h2; subst hl
  obtain ⟨v, st2, rfl, hres1⟩ := q_vv_inv hres
  obtain ⟨hq, hres2⟩ := q_if_inv hres1
  obtain ⟨r, str2, e2, hx, hs1⟩ := q_vrs_cons hB.2.2.2.1
  subst e2
  exact q_sd_st (str2 := str2) hB hres2 hK hs1 (fun k => lv_pop hB.1.1 hB.1.2.1 hB.2.2.2.2.2.2 ((q_vr_cat hx).1 hq) k)

theorem q_sd_pop2  (hB : q_B p l e R s m args below meth c cc D C b L xs adK adV sb md d ow nL rt ini k0 k1 ls st g M ad H locs lsr str cells slots pc len (.pop2)) (hrs : q_rs ow rt ini pc (.pop2) len = some op)
    (hres : q_op md op nx ops ls st g M = some (.inl c')) (hK : q_Kt p l e R s m args below meth c D C b L xs adK adV sb md nL k0 k1 Qz nx ops g.1 ad pc len c') : W p l e R s m args below meth c H locs cells slots Qz (F0 m pc lsr str) := by
  obtain ⟨hl, h2⟩ := q_if_inv hrs
  cases h2; subst hl
  obtain ⟨x, st2, rfl, hres1⟩ := q_ll_inv hres
  obtain ⟨r, str2, e2, hx, hs1⟩ := q_vrs_cons hB.2.2.2.1
  subst e2
  exact q_sd_st (str2 := str2) hB hres1 hK hs1 (fun k => lv_pop2_2 hB.1.1 hB.1.2.1 hB.2.2.2.2.2.2 ((q_vr_cat hx).2 rfl) k)

theorem q_sd_dup  (hB : q_B p l e R s m args below meth c cc D C b L xs adK adV sb md d ow nL rt ini k0 k1 ls st g M ad H locs lsr str cells slots pc len (.dup)) (hrs : q_rs ow rt ini pc (.dup) len = some op)
    (hres : q_op md op nx ops ls st g M = some (.inl c')) (hK : q_Kt p l e R s m args below meth c D C b L xs adK adV sb md nL k0 k1 Qz nx ops g.1 ad pc len c') : W p l e R s m args below meth c H locs cells slots Qz (F0 m pc lsr str) := by
  obtain ⟨hl, h2⟩ := q_if_inv hrs
  cases h2; subst hl
  obtain ⟨v, st2, rfl, hres1⟩ := q_vv_inv hres
  obtain ⟨hq, hres2⟩ := q_if_inv hres1
  obtain ⟨r, str2, e2, hx, hs1⟩ := q_vrs_cons hB.2.2.2.1
  subst e2
  exact q_sd_st (str2 := r :: r :: str2) hB hres2 hK ⟨hx, hx, hs1⟩ (fun k => lv_dup hB.1.1 hB.1.2.1 hB.2.2.2.2.2.2 ((q_vr_cat hx).1 hq) k)

theorem q_sd_dup2  (hB : q_B p l e R s m args below meth c cc D C b L xs adK adV sb md d ow nL rt ini k0 k1 ls st g M ad H locs lsr str cells slots pc len (.dup2)) (hrs : q_rs ow rt ini pc (.dup2) len = some op)
    (hres : q_op md op nx ops ls st g M = some (.inl c')) (hK : q_Kt p l e R s m args below meth c D C b L xs adK adV sb md nL k0 k1 Qz nx ops g.1 ad pc len c') : W p l e R s m args below meth c H locs cells slots Qz (F0 m pc lsr str) := by
  obtain ⟨hl, h2⟩ := q_if_inv hrs
  cases h2; subst hl
  obtain ⟨v, st2, rfl, hres1⟩ := q_vv_inv hres
  obtain ⟨w, st3, rfl, hres2⟩ := q_vv_inv hres1
  obtain ⟨hq, hres3⟩ := q_if_inv hres2
  rw [Bool.and_eq_true] at hq
  obtain ⟨r, str2, e2, hx, hs1⟩ := q_vrs_cons hB.2.2.2.1
  obtain ⟨r3, str3, e3, hx3, hs2⟩ := q_vrs_cons hs1
  subst e3; subst e2
  exact q_sd_st (str2 := r :: r3 :: r :: r3 :: str3) hB hres3 hK ⟨hx, hx3, hx, hx3, hs2⟩ (fun k => lv_dup2_11 hB.1.1 hB.1.2.1 hB.2.2.2.2.2.2 ((q_vr_cat hx).1 hq.1) ((q_vr_cat hx3).1 hq.2) k)

theorem q_sd_lcmp  (hB : q_B p l e R s m args below meth c cc D C b L xs adK adV sb md d ow nL rt ini k0 k1 ls st g M ad H locs lsr str cells slots pc len (.lcmp)) (hrs : q_rs ow rt ini pc (.lcmp) len = some op)
    (hres : q_op md op nx ops ls st g M = some (.inl c')) (hK : q_Kt p l e R s m args below meth c D C b L xs adK adV sb md nL k0 k1 Qz nx ops g.1 ad pc len c') : W p l e R s m args below meth c H locs cells slots Qz (F0 m pc lsr str) := by
  obtain ⟨hl, h2⟩ := q_if_inv hrs
  cases h2; subst hl
  obtain ⟨y, st1, rfl, hres1⟩ := q_ll_inv hres
  obtain ⟨x, st2, rfl, hres2⟩ := q_ll_inv hres1
  obtain ⟨_, str1, e1, hy, hs1⟩ := q_vrs_cons hB.2.2.2.1
  obtain ⟨_, str2, e2, hx, hs2⟩ := q_vrs_cons hs1
  obtain ⟨Y, rfl, rfl⟩ := q_vr_l hy
  obtain ⟨X, rfl, rfl⟩ := q_vr_l hx
  subst e2; subst e1
  rw [← q_c_cmp] at hres2
  exact q_sd_st (str2 := .int (lg_cmp X Y) :: str2) hB hres2 hK ⟨q_mk_i _, hs2⟩ (fun k => W.lcmp hB.1.1 hB.1.2.1 hB.2.2.2.2.2.2 k)

theorem q_sd_ifCond {cd : Jvm.ClassFile.Cond} {off : Int} (hB : q_B p l e R s m args below meth c cc D C b L xs adK adV sb md d ow nL rt ini k0 k1 ls st g M ad H locs lsr str cells slots pc len (.ifCond cd off)) (hrs : q_rs ow rt ini pc (.ifCond cd off) len = some op)
    (hres : q_op md op nx ops ls st g M = some (.inl c')) (hK : q_Kt p l e R s m args below meth c D C b L xs adK adV sb md nL k0 k1 Qz nx ops g.1 ad pc len c') : W p l e R s m args below meth c H locs cells slots Qz (F0 m pc lsr str) := by
  obtain ⟨⟨hl, h0⟩, h2⟩ := q_if_inv hrs
  cases h2; subst hl
  cases ops with
  | cons _ _ => cases hres
  | nil =>
    obtain ⟨x, st2, rfl, hres1⟩ := q_ii_inv hres
    obtain ⟨_, str2, e2, hx, hs1⟩ := q_vrs_cons hB.2.2.2.1
    obtain ⟨X, rfl, rfl⟩ := q_vr_i hx
    subst e2
    have ht : (pc : Int) + off = ((((pc : Int) + off).toNat : Nat) : Int) := (Int.toNat_of_nonneg h0).symm
    have kt : q_cmp cd X.toInt 0 = true → W p l e R s m args below meth c H locs cells slots Qz (F0 m ((pc : Int) + off).toNat lsr str2) := fun hc => q_sd_jp hB (by rw [if_pos hc] at hres1; exact hres1) hK hs1
    have kf : ¬ q_cmp cd X.toInt 0 = true → W p l e R s m args below meth c H locs cells slots Qz (F0 m (pc + 3) lsr str2) := fun hc => q_sd_go hB (by rw [if_neg hc] at hres1; exact hres1) hK hs1
    have z0 : (0 : Int32).toInt = 0 := by decide
    cases cd
    · refine lv_if_eq hB.1.1 hB.1.2.1 hB.2.2.2.2.2.2 ht (fun q => kt ?_) (fun q => kf ?_)
      · simp only [q_c_eq, z0] at q
        simp only [q_cmp, decide_eq_true_eq]
        exact q
      · simp only [q_c_eq, z0] at q
        simp only [q_cmp, decide_eq_true_eq]
        exact q
    · refine lv_if_ne hB.1.1 hB.1.2.1 hB.2.2.2.2.2.2 ht (fun q => kt ?_) (fun q => kf ?_)
      · simp only [q_c_eq, z0] at q
        simp only [q_cmp, decide_eq_true_eq]
        exact q
      · simp only [q_c_eq, z0] at q
        simp only [q_cmp, decide_eq_true_eq]
        exact fun h => h q
    · refine lv_if_lt hB.1.1 hB.1.2.1 hB.2.2.2.2.2.2 ht (fun q => kt ?_) (fun q => kf ?_)
      · simp only [q_c_lt, z0] at q
        simp only [q_cmp, decide_eq_true_eq]
        exact q
      · simp only [q_c_lt, z0] at q
        simp only [q_cmp, decide_eq_true_eq]
        exact q
    · refine lv_if_ge hB.1.1 hB.1.2.1 hB.2.2.2.2.2.2 ht (fun q => kt ?_) (fun q => kf ?_)
      · simp only [q_c_le, z0] at q
        simp only [q_cmp, decide_eq_true_eq]
        exact q
      · simp only [q_c_le, z0] at q
        simp only [q_cmp, decide_eq_true_eq]
        exact q
    · refine lv_if_gt hB.1.1 hB.1.2.1 hB.2.2.2.2.2.2 ht (fun q => kt ?_) (fun q => kf ?_)
      · simp only [q_c_lt, z0] at q
        simp only [q_cmp, decide_eq_true_eq]
        exact q
      · simp only [q_c_lt, z0] at q
        simp only [q_cmp, decide_eq_true_eq]
        exact q
    · refine lv_if_le hB.1.1 hB.1.2.1 hB.2.2.2.2.2.2 ht (fun q => kt ?_) (fun q => kf ?_)
      · simp only [q_c_le, z0] at q
        simp only [q_cmp, decide_eq_true_eq]
        exact q
      · simp only [q_c_le, z0] at q
        simp only [q_cmp, decide_eq_true_eq]
        exact q

theorem q_sd_if_icmp {cd : Jvm.ClassFile.Cond} {off : Int} (hB : q_B p l e R s m args below meth c cc D C b L xs adK adV sb md d ow nL rt ini k0 k1 ls st g M ad H locs lsr str cells slots pc len (.if_icmp cd off)) (hrs : q_rs ow rt ini pc (.if_icmp cd off) len = some op)
    (hres : q_op md op nx ops ls st g M = some (.inl c')) (hK : q_Kt p l e R s m args below meth c D C b L xs adK adV sb md nL k0 k1 Qz nx ops g.1 ad pc len c') : W p l e R s m args below meth c H locs cells slots Qz (F0 m pc lsr str) := by
  obtain ⟨⟨hl, h0⟩, h2⟩ := q_if_inv hrs
  cases h2; subst hl
  cases ops with
  | cons _ _ => cases hres
  | nil =>
    obtain ⟨y, st1, rfl, hres1⟩ := q_ii_inv hres
    obtain ⟨x, st2, rfl, hres2⟩ := q_ii_inv hres1
    obtain ⟨_, str1, e1, hy, hs1⟩ := q_vrs_cons hB.2.2.2.1
    obtain ⟨_, str2, e2, hx, hs2⟩ := q_vrs_cons hs1
    obtain ⟨Y, rfl, rfl⟩ := q_vr_i hy
    obtain ⟨X, rfl, rfl⟩ := q_vr_i hx
    subst e2; subst e1
    have ht : (pc : Int) + off = ((((pc : Int) + off).toNat : Nat) : Int) := (Int.toNat_of_nonneg h0).symm
    have kt : q_cmp cd X.toInt Y.toInt = true → W p l e R s m args below meth c H locs cells slots Qz (F0 m ((pc : Int) + off).toNat lsr str2) := fun hc => q_sd_jp hB (by rw [if_pos hc] at hres2; exact hres2) hK hs2
    have kf : ¬ q_cmp cd X.toInt Y.toInt = true → W p l e R s m args below meth c H locs cells slots Qz (F0 m (pc + 3) lsr str2) := fun hc => q_sd_go hB (by rw [if_neg hc] at hres2; exact hres2) hK hs2
    cases cd
    · refine lv_icmp_eq hB.1.1 hB.1.2.1 hB.2.2.2.2.2.2 ht (fun q => kt ?_) (fun q => kf ?_)
      · simp only [q_c_eq] at q
        simp only [q_cmp, decide_eq_true_eq]
        exact q
      · simp only [q_c_eq] at q
        simp only [q_cmp, decide_eq_true_eq]
        exact q
    · refine lv_icmp_ne hB.1.1 hB.1.2.1 hB.2.2.2.2.2.2 ht (fun q => kt ?_) (fun q => kf ?_)
      · simp only [q_c_eq] at q
        simp only [q_cmp, decide_eq_true_eq]
        exact q
      · simp only [q_c_eq] at q
        simp only [q_cmp, decide_eq_true_eq]
        exact fun h => h q
    · refine lv_icmp_lt hB.1.1 hB.1.2.1 hB.2.2.2.2.2.2 ht (fun q => kt ?_) (fun q => kf ?_)
      · simp only [q_c_lt] at q
        simp only [q_cmp, decide_eq_true_eq]
        exact q
      · simp only [q_c_lt] at q
        simp only [q_cmp, decide_eq_true_eq]
        exact q
    · refine lv_icmp_ge hB.1.1 hB.1.2.1 hB.2.2.2.2.2.2 ht (fun q => kt ?_) (fun q => kf ?_)
      · simp only [q_c_le] at q
        simp only [q_cmp, decide_eq_true_eq]
        exact q
      · simp only [q_c_le] at q
        simp only [q_cmp, decide_eq_true_eq]
        exact q
    · refine lv_icmp_gt hB.1.1 hB.1.2.1 hB.2.2.2.2.2.2 ht (fun q => kt ?_) (fun q => kf ?_)
      · simp only [q_c_lt] at q
        simp only [q_cmp, decide_eq_true_eq]
        exact q
      · simp only [q_c_lt] at q
        simp only [q_cmp, decide_eq_true_eq]
        exact q
    · refine lv_icmp_le hB.1.1 hB.1.2.1 hB.2.2.2.2.2.2 ht (fun q => kt ?_) (fun q => kf ?_)
      · simp only [q_c_le] at q
        simp only [q_cmp, decide_eq_true_eq]
        exact q
      · simp only [q_c_le] at q
        simp only [q_cmp, decide_eq_true_eq]
        exact q

theorem q_sd_goto {off : Int} (hB : q_B p l e R s m args below meth c cc D C b L xs adK adV sb md d ow nL rt ini k0 k1 ls st g M ad H locs lsr str cells slots pc len (.goto off)) (hrs : q_rs ow rt ini pc (.goto off) len = some op)
    (hres : q_op md op nx ops ls st g M = some (.inl c')) (hK : q_Kt p l e R s m args below meth c D C b L xs adK adV sb md nL k0 k1 Qz nx ops g.1 ad pc len c') : W p l e R s m args below meth c H locs cells slots Qz (F0 m pc lsr str) := by
  obtain ⟨⟨hl, h0⟩, h2⟩ := q_if_inv hrs
  cases h2; subst hl
  cases ops with
  | cons _ _ => cases hres
  | nil => exact lv_goto hB.1.1 hB.1.2.1 hB.2.2.2.2.2.2 (Int.toNat_of_nonneg h0).symm (q_sd_jp hB hres hK hB.2.2.2.1)

theorem q_sd_tableswitch {dd lo hi : Int} {offs : Array Int} (hB : q_B p l e R s m args below meth c cc D C b L xs adK adV sb md d ow nL rt ini k0 k1 ls st g M ad H locs lsr str cells slots pc len (.tableswitch dd lo hi offs)) (hrs : q_rs ow rt ini pc (.tableswitch dd lo hi offs) len = some op)
    (hres : q_op md op nx ops ls st g M = some (.inl c')) (hK : q_Kt p l e R s m args below meth c D C b L xs adK adV sb md nL k0 k1 Qz nx ops g.1 ad pc len c') : W p l e R s m args below meth c H locs cells slots Qz (F0 m pc lsr str) := by
  obtain ⟨⟨h0, hsz, hall⟩, h2⟩ := q_if_inv hrs
  cases h2
  cases ops with
  | cons _ _ => cases hres
  | nil =>
    obtain ⟨x, st2, rfl, hres1⟩ := q_ii_inv hres
    obtain ⟨_, str2, e2, hx, hs1⟩ := q_vrs_cons hB.2.2.2.1
    obtain ⟨X, rfl, rfl⟩ := q_vr_i hx
    subst e2
    by_cases hc : X.toInt < lo ∨ hi < X.toInt
    · rw [if_pos hc] at hres1
      exact lv_tableOut hB.1.1 hB.1.2.1 hB.2.2.2.2.2.2 hc (Int.toNat_of_nonneg h0).symm (q_sd_jp hB hres1 hK hs1)
    · rw [if_neg hc] at hres1
      have hlt : (X.toInt - lo).toNat < offs.size := by omega
      have hget : offs[(X.toInt - lo).toNat]? = some offs[(X.toInt - lo).toNat] := Array.getElem?_eq_getElem hlt
      have h1 : 0 ≤ (pc : Int) + offs[(X.toInt - lo).toNat] := by
        have := List.all_eq_true.mp hall offs[(X.toInt - lo).toNat] (by simp)
        exact of_decide_eq_true this
      have h3 : (offs.toList.map (fun o => (pc : Int) + o)).getD (X.toInt - lo).toNat ((pc : Int) + dd) = (pc : Int) + offs[(X.toInt - lo).toNat] := by
        rw [List.getD_eq_getElem?_getD, List.getElem?_map, Array.getElem?_toList, hget]
        rfl
      rw [show (offs.toList.map (fun o => (pc : Int) + o)).toArray.toList = offs.toList.map (fun o => (pc : Int) + o) from rfl, h3] at hres1
      exact lv_tableIn hB.1.1 hB.1.2.1 hB.2.2.2.2.2.2 (fun q => hc (Or.inl q)) (fun q => hc (Or.inr q)) hget (Int.toNat_of_nonneg h1).symm (q_sd_jp hB hres1 hK hs1)

theorem q_sd_lookupswitch {dd : Int} {ps : Array (Int × Int)} (hB : q_B p l e R s m args below meth c cc D C b L xs adK adV sb md d ow nL rt ini k0 k1 ls st g M ad H locs lsr str cells slots pc len (.lookupswitch dd ps)) (hrs : q_rs ow rt ini pc (.lookupswitch dd ps) len = some op)
    (hres : q_op md op nx ops ls st g M = some (.inl c')) (hK : q_Kt p l e R s m args below meth c D C b L xs adK adV sb md nL k0 k1 Qz nx ops g.1 ad pc len c') : W p l e R s m args below meth c H locs cells slots Qz (F0 m pc lsr str) := by
  obtain ⟨⟨h0, hall, hsort⟩, h2⟩ := q_if_inv hrs
  cases h2
  cases ops with
  | cons _ _ => cases hres
  | nil =>
    obtain ⟨x, st2, rfl, hres1⟩ := q_ii_inv hres
    obtain ⟨_, str2, e2, hx, hs1⟩ := q_vrs_cons hB.2.2.2.1
    obtain ⟨X, rfl, rfl⟩ := q_vr_i hx
    subst e2
    rw [show (ps.toList.map (fun q => (q.1, (pc : Int) + q.2))).toArray.toList = ps.toList.map (fun q => (q.1, (pc : Int) + q.2)) from rfl, q_sw_off] at hres1
    exact lv_lookup hB.1.1 hB.1.2.1 hB.2.2.2.2.2.2 hsort rfl (Int.toNat_of_nonneg (q_sw_nn pc dd X.toInt ps.toList h0 hall)).symm (q_sd_jp hB hres1 hK hs1)

theorem q_sd_ldc {i : Nat} (hB : q_B p l e R s m args below meth c cc D C b L xs adK adV sb md d ow nL rt ini k0 k1 ls st g M ad H locs lsr str cells slots pc len (.ldc i)) (hrs : q_rs ow rt ini pc (.ldc i) len = some op)
    (hres : q_op md op nx ops ls st g M = some (.inl c')) (hK : q_Kt p l e R s m args below meth c D C b L xs adK adV sb md nL k0 k1 Qz nx ops g.1 ad pc len c') : W p l e R s m args below meth c H locs cells slots Qz (F0 m pc lsr str) := by
  obtain ⟨hl, hrs1⟩ := q_if_inv hrs
  subst hl
  split at hrs1
  · next v hv =>
    obtain ⟨hr, h2⟩ := q_if_inv hrs1
    cases h2
    simp only [q_rng, Bool.and_eq_true, decide_eq_true_eq] at hr
    have e1 : v = (Int32.ofInt v).toInt := (q_of (by omega) (by omega)).symm
    refine q_sd_int (X := Int32.ofInt v) hB (by rw [← e1]; exact hres) hK (fun k => ?_)
    exact lv_ldc hB.1.1 hB.1.2.1 hB.1.2.2.2.2.2.1 (hB.1.2.2.2.2.2.2.1 _ (q_ktab_ok _ (q_look_mem hv))) hB.2.2.2.2.2.2 k
  · split at hrs1
    · next j hj =>
      obtain ⟨hr, h2⟩ := q_if_inv hrs1
      cases h2
      have hv : q_vr ad adK adV b g.1 (qS (16 + j)) (.ref (adK j)) := q_vr_lit hr
      have hZ := q_env_lit hB.1.2.2.2.2.2.2.2.2.1 (q_look_mem hj)
      exact q_sd_st (str2 := .ref (adK j) :: str) hB hres hK ⟨hv, hB.2.2.2.1⟩ (fun k => va_ldcS hB.1.1 hB.1.2.1 hB.1.2.2.2.2.2.1 hZ hB.2.2.2.2.2.2 k)
    · cases hrs1

theorem q_sd_ldc_w {i : Nat} (hB : q_B p l e R s m args below meth c cc D C b L xs adK adV sb md d ow nL rt ini k0 k1 ls st g M ad H locs lsr str cells slots pc len (.ldc_w i)) (hrs : q_rs ow rt ini pc (.ldc_w i) len = some op)
    (hres : q_op md op nx ops ls st g M = some (.inl c')) (hK : q_Kt p l e R s m args below meth c D C b L xs adK adV sb md nL k0 k1 Qz nx ops g.1 ad pc len c') : W p l e R s m args below meth c H locs cells slots Qz (F0 m pc lsr str) := by
  obtain ⟨hl, hrs1⟩ := q_if_inv hrs
  subst hl
  split at hrs1
  · next v hv =>
    obtain ⟨hr, h2⟩ := q_if_inv hrs1
    cases h2
    simp only [q_rng, Bool.and_eq_true, decide_eq_true_eq] at hr
    have e1 : v = (Int32.ofInt v).toInt := (q_of (by omega) (by omega)).symm
    refine q_sd_int (X := Int32.ofInt v) hB (by rw [← e1]; exact hres) hK (fun k => ?_)
    exact lv_ldcw hB.1.1 hB.1.2.1 hB.1.2.2.2.2.2.1 (hB.1.2.2.2.2.2.2.1 _ (q_ktab_ok _ (q_look_mem hv))) hB.2.2.2.2.2.2 k
  · cases hrs1

theorem q_sd_ldc2_w {i : Nat} (hB : q_B p l e R s m args below meth c cc D C b L xs adK adV sb md d ow nL rt ini k0 k1 ls st g M ad H locs lsr str cells slots pc len (.ldc2_w i)) (hrs : q_rs ow rt ini pc (.ldc2_w i) len = some op)
    (hres : q_op md op nx ops ls st g M = some (.inl c')) (hK : q_Kt p l e R s m args below meth c D C b L xs adK adV sb md nL k0 k1 Qz nx ops g.1 ad pc len c') : W p l e R s m args below meth c H locs cells slots Qz (F0 m pc lsr str) := by
  obtain ⟨hl, hrs1⟩ := q_if_inv hrs
  subst hl
  split at hrs1
  · next v hv =>
    obtain ⟨hr, h2⟩ := q_if_inv hrs1
    cases h2
    simp only [q_rng, Bool.and_eq_true, decide_eq_true_eq] at hr
    have e1 : v = (Int64.ofInt v).toInt := (q_of64 (by omega) (by omega)).symm
    refine q_sd_st (str2 := .long (Int64.ofInt v) :: str) hB hres hK ⟨by rw (occs := .pos [1]) [e1]; exact q_mk_l _, hB.2.2.2.1⟩ (fun k => ?_)
    exact lv_ldc2 hB.1.1 hB.1.2.1 hB.1.2.2.2.2.2.1 (hB.1.2.2.2.2.2.2.1 _ (q_ltab_ok _ (q_look_mem hv))) hB.2.2.2.2.2.2 k
  · cases hrs1
end SDB
