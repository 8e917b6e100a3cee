theorem q_en_q {md : Nat} {ad : Nat → Nat} {C : q_CI} {a : Nat} {M : q_M} (h : q_kd a = 7 ∨ q_kd a = 8 ∨ q_kd a = 9) : q_en md ad C a M = .inl ((if q_kd a = 7 then C.2.1 else if q_kd a = 8 then C.2.2.1 else C.2.2.2), (q_sz (q_kd a), .inr (.inr (.inr (.inr (q_rfs md ad (q_kd a) a M)))))) := by
  unfold q_en
  rcases h with h | h | h <;> rw [h] <;> rfl
def q_tyq (k : Nat) : FieldType := if k = 7 then .array .int else if k = 8 then .object RX3 else .object RX2
theorem q_tyq_ref (k : Nat) : (q_tyq k).isReference = true := by
  unfold q_tyq
  split
  · rfl
  · split <;> rfl
def q_ixq (k : Nat) : Nat := if k = 7 then 1 else if k = 8 then 2 else 3
theorem q_tys_q {C : q_CI} {k : Nat} (h : k = 7 ∨ k = 8 ∨ k = 9) : (q_tys C)[q_ixq k]? = some ((if k = 7 then C.2.1 else if k = 8 then C.2.2.1 else C.2.2.2), q_tyq k) := by
  rcases h with rfl | rfl | rfl <;> rfl
theorem q_len_q {k a : Nat} {M : q_M} (h : k = 7 ∨ k = 8 ∨ k = 9) : q_len k a M = (q_sz k : Nat) := by
  rcases h with rfl | rfl | rfl <;> rfl
theorem q_ty_no3 {md k : Nat} (h : md = 0 ∨ k = 3) : ∀ i, (q_ty md k i).1 ≠ 3 := by
  intro i
  rcases h with rfl | rfl
  · show (q_ty0 k i).1 ≠ 3
    unfold q_ty0
    split <;> (try split) <;> decide
  · unfold q_ty
    split
    · match i with
      | 0 => decide
      | 1 => decide
      | 2 => decide
      | 3 => decide
      | n + 4 => exact show (0 : Nat) ≠ 3 by decide
    · match i with
      | 0 => decide
      | 1 => decide
      | 2 => decide
      | 3 => decide
      | n + 4 => exact show (0 : Nat) ≠ 3 by decide
theorem q_ok_new {md n : Nat} {M M' : q_M} (h : q_ok md n M) (hM : ∀ b i, b ≠ n → M' b i = M b i) (hr : ∀ i, -2147483648 ≤ M' n i ∧ M' n i < 2147483648) (h2 : ∀ i, i < q_sz (q_kd n) → (q_ty md (q_kd n) i).1 = 2 → M' n i < 0)
    (h3 : ∀ i, i < q_sz (q_kd n) → (q_ty md (q_kd n) i).1 ≠ 3) (h10 : q_kd n = 10 → 0 ≤ M' n 1000 ∧ M' n 1000 ≤ 1000) : q_ok md (n + 1) M' := by
  refine ⟨fun a i => ?_, fun a i ha hi ht => ?_, fun a i ha hi ht => ?_, fun a ha hk => ?_⟩
  · by_cases e : a = n
    · subst e; exact hr i
    · rw [hM a i e]; exact h.1 a i
  · by_cases e : a = n
    · subst e; exact Or.inl (h2 i hi ht)
    · rw [hM a i e]
      rcases h.2.1 a i (by omega) hi ht with q | ⟨q1, q2⟩
      · exact Or.inl q
      · exact Or.inr ⟨by omega, q2⟩
  · by_cases e : a = n
    · subst e; exact absurd ht (h3 i hi)
    · obtain ⟨q1, q2⟩ := h.2.2.1 a i (by omega) hi ht
      exact ⟨by omega, q2⟩
  · by_cases e : a = n
    · subst e; exact h10 hk
    · rw [hM a 1000 e]; exact h.2.2.2 a (by omega) hk
theorem q_scr_new {L n : Nat} {xs : Nat → Int32} {M M' : q_M} (h : q_scr L xs M) (hM : ∀ b i, b ≠ n → M' b i = M b i) (hn : n < 1000000) : q_scr L xs M' := by
  refine ⟨?_, fun j hj => ?_⟩
  · rw [hM _ _ (by omega)]; exact h.1
  · rw [hM _ _ (by omega)]; exact h.2 j hj
def q_adn (ad : Nat → Nat) (n q : Nat) : Nat → Nat := fun x => if x = n then q else ad x
theorem q_adn_n {ad : Nat → Nat} {n q : Nat} : q_adn ad n q n = q := if_pos rfl
theorem q_adn_lt {ad : Nat → Nat} {n q : Nat} : ∀ x, x < n → q_adn ad n q x = ad x := fun x h => if_neg (by omega)
theorem q_same_cls {a b : Option ClassId} {x y : ClassId} (h1 : a = some x) (h2 : b = some y) (e : a = b) : x = y := Option.some.inj (h1.symm.trans (e.trans h2))
theorem q_instw {k : Nat} (h : k < 7) : Cond.instantiable (q_cls k) (q_nf k) ∈ q_Lw := by
  rcases q_k7 h with rfl | rfl | rfl | rfl | rfl | rfl | rfl
  · exact q_inst_0
  · exact q_inst_1
  · exact q_inst_2
  · exact q_inst_3
  · exact q_inst_4
  · exact q_inst_5
  · exact q_inst_6
theorem q_iniw {k : Nat} (h : k < 7) : Cond.initialized (q_cls k) ∈ q_Lw := by
  rcases q_k7 h with rfl | rfl | rfl | rfl | rfl | rfl | rfl
  · exact q_ini_0
  · exact q_ini_1
  · exact q_ini_2
  · exact q_ini_3
  · exact q_ini_4
  · exact q_ini_5
  · exact q_ini_6
theorem q_dflt {md k j : Nat} {ad : Nat → Nat} (h7 : k < 7) (hj : j < q_nf k) (hmd : md = 0 ∨ k = 3) (a : Nat) : defaultValue (q_tyf k j) = q_sv ad (q_ty md k j) a (if (q_ty md k j).1 = 2 then -1 else 0) := by
  have htt := q_tyt md h7 hj
  have h3 := q_ty_no3 hmd j
  by_cases h2 : (q_ty md k j).1 = 2
  · have hrt := htt.2.2 (by omega)
    rw [if_pos h2, q_sv, if_pos (Or.inl h2), q_rf, if_pos h2, if_pos (by omega)]
    cases hq : q_tyf k j <;> rw [hq] at hrt <;> first | rfl | cases hrt
  · rw [if_neg h2]
    have hlt : (q_ty md k j).1 = 0 ∨ (q_ty md k j).1 = 1 ∨ 4 ≤ (q_ty md k j).1 := by omega
    rcases hlt with h | h | h
    · rw [htt.1 h, q_sv_int (by omega)]; decide
    · rw [htt.2.1 h, q_sv_int (by omega)]; decide
    · exfalso
      have : ∀ md k j, (q_ty md k j).1 < 4 := by
        intro md k j
        unfold q_ty
        split
        · unfold q_ty1
          split <;> (try split) <;> simp
        · unfold q_ty0
          split <;> (try split) <;> simp
      have := this md k j
      omega
theorem q_cat_le (v : Value) : v.category ≤ 2 := by cases v <;> simp [Value.category]
theorem q_cat_sum {ad adK adV : Nat → Nat} {b n : Nat} : ∀ {st : List q_V} {rs : List Value}, q_vrs ad adK adV b n st rs → (rs.map fun v => v.category).sum ≤ 2 * st.length
  | [], [], _ => by simp
  | v :: st, r :: rs, h => by
    have h1 := q_cat_sum h.2
    have h2 := q_cat_le r
    simp only [List.map_cons, List.sum_cons, List.length_cons]
    omega
  | [], _ :: _, h => h.elim
  | _ :: _, [], h => h.elim
section SDE
variable {p : Program} {l : Launch} {e : Env} {R : Room} {s : State} {m : MethodId} {args : Array Value} {below : List Frame} {meth : Method} {c : Code} {cc : ByteArray} {D : va_G} {C : q_CI} {b L : Nat} {xs : Nat → Int32} {adK adV : Nat → Nat} {sb md d ow nL : Nat} {rt : Option FieldType} {ini : Bool} {k0 k1 : Nat} {Qz : State → Prop} {nx : Nat} {ops : List Instr} {n0 : Nat}
  {ls st : List q_V} {g : q_G} {M : q_M} {ad : Nat → Nat} {H : Heap} {locs : List Loc} {lsr : Array Slot} {str : List Value} {cells slots pc len : Nat} {op : Instr} {c' : q_C}
theorem q_sd_new0 {raw : Instr} {st2 : List q_V} {str2 : List Value} {M2 : q_M} {sz q : Nat} {e9 : va_E} {H1 : Heap} (hB : q_B p l e R s m args below meth c cc D C b L xs adK adV sb md d ow nL rt ini k0 k1 ls st g M ad H locs lsr str cells slots pc len raw)
    (hres : q_go nx ops ls (qR (q_kd g.1) g.1 :: st2) (g.1 + 1, g.2 + sz) M2 = some (.inl c')) (hK : q_Kt p l e R s m args below meth c D C b L xs adK adV sb md nL k0 k1 Qz nx ops g.1 ad pc len c') (hl9 : c'.2.2.2.2.1.1 ≤ 1000000 ∧ c'.2.2.2.2.1.1 ≤ k0 + R.cells ∧ c'.2.2.2.2.1.2 ≤ k1 + R.slots)
    (hs : q_vrs ad adK adV b g.1 st2 str2) (hM : ∀ b i, b ≠ g.1 → M2 b i = M b i) (hok : q_ok md (g.1 + 1) M2) (he : e9 = q_en md (q_adn ad g.1 q) C g.1 M2)
    (hP : va_P D vwCl (q_W md ad C g.1 M ++ [(q, e9)]) H1) (hD : va_D (q_A sb) (q_W md ad C g.1 M ++ [(q, e9)])) (hS : va_S (q_A sb) s.heap H1 locs) : W p l e R s m args below meth c H1 locs (cells + 1) (slots + sz) Qz (F0 m (pc + len) lsr (.ref q :: str2)) := by
  obtain ⟨nx', ops', ls', st', g', M'⟩ := c'
  obtain ⟨rfl, rfl, rfl, rfl, rfl, rfl⟩ := q_go_inj hres
  have hW := q_W_succ (C := C) hB.2.1.2.2.1 (q_adn_lt (ad := ad) (n := g.1) (q := q)) hM
  rw [q_adn_n, ← he] at hW
  rw [← hW] at hP hD
  have hl1 : g.1 + 1 ≤ 1000000 := hl9.1
  refine hK (q_adn ad g.1 q) H1 locs lsr (.ref q :: str2) (cells + 1) (slots + sz) (pc + len) ⟨hP, hD, hok, q_scr_new hB.2.1.2.2.2.1 hM (by omega), hl1, hS⟩ (q_lr_ext hB.2.2.1 (Nat.le_succ _) q_adn_lt) ⟨⟨Nat.lt_succ_self _, rfl, by rw [q_adn_n]⟩, q_vrs_ext (Nat.le_succ _) q_adn_lt hs⟩ ?_ ?_ q_adn_lt (Or.inl ⟨rfl, rfl, rfl⟩)
  · have := hB.2.2.2.2.1; show k0 + (cells + 1) = g.1 + 1; omega
  · have := hB.2.2.2.2.2.1; show k1 + (slots + sz) = g.2 + sz; omega
theorem q_sd_aaload  (hB : q_B p l e R s m args below meth c cc D C b L xs adK adV sb md d ow nL rt ini k0 k1 ls st g M ad H locs lsr str cells slots pc len (.aaload)) (hrs : q_rs ow rt ini pc (.aaload) len = some op)
    (hres : q_op md op nx ops ls st g M = some (.inl c')) (hK : q_Kt p l e R s m args below meth c D C b L xs adK adV sb md nL k0 k1 Qz nx ops g.1 ad pc len c') : W p l e R s m args below meth c H locs cells slots Qz (F0 m pc lsr str) := by
  obtain ⟨hl, h2⟩ := q_if_inv hrs
  cases h2; subst hl
  obtain ⟨j, st1, rfl, hres1⟩ := q_ii_inv hres
  obtain ⟨k, a, st2, rfl, hres2⟩ := q_rr_inv hres1
  obtain ⟨⟨hk9, h0, hlt⟩, hres3⟩ := q_if_inv hres2
  obtain ⟨_, str1, e1, hj, hs1⟩ := q_vrs_cons hB.2.2.2.1
  obtain ⟨_, str2, e2, hv, hs2⟩ := q_vrs_cons hs1
  obtain ⟨J, rfl, rfl⟩ := q_vr_i hj
  obtain ⟨ha, hk, rfl⟩ := hv
  subst e2; subst e1; subst hk
  have hE := hB.1.2.2.2.2.2.2.2.2.1
  have hget := q_W_get (md := md) (ad := ad) (C := C) (M := M) ha
  rw [q_en_q hk9] at hget
  rw [q_len_q hk9] at hlt
  have hlt2 : J.toInt.toNat < q_sz (q_kd a) := by omega
  have hcell := hB.2.1.1 a _ hget
  have hv := q_vr_gv (adK := adK) (adV := adV) (b := b) (ad := ad) hB.2.1.2.2.1 ha hlt2
  rw [q_sv, if_pos (q_ty_arr md _ hk9 _)] at hv
  refine q_sd_st (str2 := va_rf (q_rf ad (q_ty md (q_kd a) J.toInt.toNat) a (M a J.toInt.toNat)) :: str2) hB hres3 hK ⟨hv, hs2⟩ (fun kk => ?_)
  have hrf : q_rfs md ad (q_kd a) a M J.toNatClampNeg = q_rf ad (q_ty md (q_kd a) J.toInt.toNat) a (M a J.toInt.toNat) := if_pos hlt2
  rw [← hrf] at kk
  have hin : vp_in J (q_sz (q_kd a)) := vp_in_iff.mpr ⟨h0, by omega⟩
  exact W.aald (ty := q_tyq (q_kd a)) hB.1.1 hB.1.2.1 hcell ((hE.1.2 _ _ (q_tys_q hk9)).1 _ (fun j => va_rf (q_rfs md ad (q_kd a) a M j))) (q_tyq_ref _) (fun q => by cases q) (by show ¬ (J < 0 ∨ (arrV _ _ _).slots.size ≤ _); rw [arrV_size]; exact hin) (by show (arrV _ (q_sz (q_kd a)) (fun j => va_rf (q_rfs md ad (q_kd a) a M j))).slots[J.toNatClampNeg]? = _; rw [arrV_read _ _ (show J.toNatClampNeg < q_sz (q_kd a) from hlt2)]) rfl rfl hB.2.2.2.2.2.2 kk

theorem q_sd_aastore  (hB : q_B p l e R s m args below meth c cc D C b L xs adK adV sb md d ow nL rt ini k0 k1 ls st g M ad H locs lsr str cells slots pc len (.aastore)) (hrs : q_rs ow rt ini pc (.aastore) len = some op)
    (hres : q_op md op nx ops ls st g M = some (.inl c')) (hK : q_Kt p l e R s m args below meth c D C b L xs adK adV sb md nL k0 k1 Qz nx ops g.1 ad pc len c') : W p l e R s m args below meth c H locs cells slots Qz (F0 m pc lsr str) := by
  obtain ⟨hl, h2⟩ := q_if_inv hrs
  cases h2; subst hl
  obtain ⟨k', v, st1, rfl, hres1⟩ := q_rr_inv hres
  obtain ⟨j, st2, rfl, hres2⟩ := q_ii_inv hres1
  obtain ⟨k, a, st3, rfl, hres3⟩ := q_rr_inv hres2
  obtain ⟨⟨hk8, h0, hlt, ht2, htk, hb⟩, hres4⟩ := q_if_inv hres3
  have hk9 : k = 7 ∨ k = 8 ∨ k = 9 := Or.inr hk8
  obtain ⟨_, str1, e1, hv, hs1⟩ := q_vrs_cons hB.2.2.2.1
  obtain ⟨_, str2, e2, hj, hs2⟩ := q_vrs_cons hs1
  obtain ⟨_, str3, e3, hva, hs3⟩ := q_vrs_cons hs2
  obtain ⟨J, rfl, rfl⟩ := q_vr_i hj
  obtain ⟨ha, hk, rfl⟩ := hva
  obtain ⟨hvn, hkv, rfl⟩ := hv
  subst e3; subst e2; subst e1; subst hk
  have hE := hB.1.2.2.2.2.2.2.2.2.1
  obtain ⟨nx', ops', ls', st', g', M'⟩ := c'
  obtain ⟨rfl, rfl, rfl, rfl, rfl, rfl⟩ := q_go_inj hres4
  have hget := q_W_get (md := md) (ad := ad) (C := C) (M := M) ha
  rw [q_en_q hk9] at hget
  rw [q_len_q hk9] at hlt
  have hlt2 : J.toInt.toNat < q_sz (q_kd a) := by omega
  have hin : vp_in J (q_sz (q_kd a)) := vp_in_iff.mpr ⟨h0, by omega⟩
  have hkv7 : q_kd v < 7 := by
    rw [hkv, ← htk]
    rcases hk8 with h | h <;> rw [h] <;> unfold q_ty <;> split <;> simp [q_ty0, q_ty1]
  have hgetv := q_W_get (md := md) (ad := ad) (C := C) (M := M) hvn
  rw [q_en_obj hkv7] at hgetv
  have hobj : q_tyq (q_kd a) = .object (q_cls (q_kd v)) := by
    rw [hkv, ← htk]
    rcases hk8 with h | h <;> rw [h]
    · unfold q_ty; split <;> rfl
    · by_cases hmd : md = 1
      · exfalso
        rw [h] at ht2
        unfold q_ty at ht2
        rw [if_pos hmd] at ht2
        simp [q_ty1] at ht2
      · unfold q_ty; rw [if_neg hmd]; rfl
  have htys := q_tys_q (C := C) hk9
  rw [hobj] at htys
  refine va_astq (r := (q_cls (q_kd v), q_Tf (q_kd v), q_nf (q_kd v))) hB.1.1 hB.1.2.1 hE.1 hB.2.1.1 hB.2.1.2.1 hB.2.1.2.2.2.2.2 a _ v (q_kd v) hget htys hgetv (q_cl hkv7) hin hB.2.2.2.2.2.2 (fun H1 locs1 h1 h2 h3 => ?_)
  have e1 : (q_W md ad C g.1 M).set a (ad a, .inl ((if q_kd a = 7 then C.2.1 else if q_kd a = 8 then C.2.2.1 else C.2.2.2), (q_sz (q_kd a), .inr (.inr (.inr (.inr (va_up (q_rfs md ad (q_kd a) a M) J.toNatClampNeg (some (ad v))))))))) = q_W md ad C g.1 (q_upd M a J.toInt.toNat (v : Int)) := by
    refine q_W_set ha q_upd_ne' ?_
    rw [q_en_q hk9]
    congr 7
    funext i
    show (if i = J.toInt.toNat then some (ad v) else q_rfs md ad (q_kd a) a M i) = _
    unfold q_rfs
    rw [q_upd_eq]
    by_cases e : i = J.toInt.toNat
    · subst e
      rw [if_pos rfl, if_pos hlt2, if_pos rfl, q_rf, if_pos ht2, if_neg (by omega)]
      simp
    · rw [if_neg e, if_neg e]
  rw [e1] at h1 h2
  exact hK ad H1 locs1 lsr str3 cells slots (pc + 1) ⟨h1, h2, q_ok_ref hB.2.1.2.2.1 hvn hB.2.1.2.2.2.2.1 (by rw [hkv, htk]) (by omega), q_scr_upd hB.2.1.2.2.2.1 (by have := hB.2.1.2.2.2.2.1; omega), hB.2.1.2.2.2.2.1, h3⟩ hB.2.2.1 hs3 hB.2.2.2.2.1 hB.2.2.2.2.2.1 (fun _ _ => rfl) (Or.inl ⟨rfl, rfl, rfl⟩)

theorem q_sd_new {i : Nat} (hB : q_B p l e R s m args below meth c cc D C b L xs adK adV sb md d ow nL rt ini k0 k1 ls st g M ad H locs lsr str cells slots pc len (.new i)) (hrs : q_rs ow rt ini pc (.new i) len = some op)
    (hres : q_op md op nx ops ls st g M = some (.inl c')) (hK : q_Kt p l e R s m args below meth c D C b L xs adK adV sb md nL k0 k1 Qz nx ops g.1 ad pc len c') (hl9 : c'.2.2.2.2.1.1 ≤ 1000000 ∧ c'.2.2.2.2.1.1 ≤ k0 + R.cells ∧ c'.2.2.2.2.1.2 ≤ k1 + R.slots) : W p l e R s m args below meth c H locs cells slots Qz (F0 m pc lsr str) := by
  obtain ⟨hl, hrs1⟩ := q_if_inv hrs
  subst hl
  split at hrs1
  · next k hc =>
    obtain ⟨hk7, h2⟩ := q_if_inv hrs1
    cases h2
    have hE := hB.1.2.2.2.2.2.2.2.2.1
    have hdg := hB.2.2.2.2.2.2
    obtain ⟨⟨-, hkd, hmd⟩, hres1⟩ := q_if_inv (show (if k < 7 ∧ q_kd g.1 = k ∧ (md = 0 ∨ k = 3) then q_go nx ops ls (qR k g.1 :: st) (g.1 + 1, g.2 + q_nf k) (fun b i => if b = g.1 then (if (q_ty md k i).1 = 2 then -1 else 0) else M b i) else none) = some _ from hres)
    subst hkd
    have hM : ∀ b i, b ≠ g.1 → (fun b i => if b = g.1 then (if (q_ty md (q_kd g.1) i).1 = 2 then (-1 : Int) else 0) else M b i) b i = M b i := fun b i h => if_neg h
    have hw := hB.1.2.2.2.2.2.2.1 _ (q_ctab_ok _ (q_look_mem hc))
    have hlim1 : g.1 + 1 ≤ k0 + R.cells := by obtain ⟨_, _, _, _, _, _⟩ := c'; obtain ⟨rfl, rfl, rfl, rfl, rfl, rfl⟩ := q_go_inj hres1; exact hl9.2.1
    have hlim2 : g.2 + q_nf (q_kd g.1) ≤ k1 + R.slots := by obtain ⟨_, _, _, _, _, _⟩ := c'; obtain ⟨rfl, rfl, rfl, rfl, rfl, rfl⟩ := q_go_inj hres1; exact hl9.2.2
    refine va_new (C := q_cls (q_kd g.1)) (T := q_Tf (q_kd g.1)) (N := q_nf (q_kd g.1)) (index := i) (Ts := q_Lw) (fs := (List.range (q_nf (q_kd g.1))).map fun j => q_sv ad (q_ty md (q_kd g.1) j) g.1 (if (q_ty md (q_kd g.1) j).1 = 2 then -1 else 0)) hB.1.1 hB.1.2.1 hB.1.2.2.2.2.2.2.1 (q_inX hk7) (q_tyf (q_kd g.1)) (q_tyok hk7) hB.1.2.2.2.2.2.1 hw (hB.1.2.2.2.2.2.2.1 _ (q_instw hk7)) (hB.1.2.2.2.2.2.2.1 _ (q_iniw hk7)) hE.1 hB.2.1.1 hB.2.1.2.1 hB.2.1.2.2.2.2.2 (fun q hq => Nat.le_trans hE.2.2.2.1.2.2 hq) (q_cl hk7) ?_ (by have := hB.2.2.2.2.1; omega) (by have := hB.2.2.2.2.2.1; omega) hdg (fun q H1 hP hD hS => ?_)
    · intro j hj
      rw [vp_V, List.getD_eq_getElem?_getD, List.getElem?_map, List.getElem?_range hj]
      exact q_dflt hk7 hj hmd g.1
    · refine q_sd_new0 hB hres1 hK hl9 hB.2.2.2.1 hM ?_ ?_ hP hD hS
      · refine q_ok_new hB.2.1.2.2.1 hM (fun j => ?_) (fun j hj ht => ?_) (fun j _ => q_ty_no3 hmd j) (fun h => by omega)
        · show -2147483648 ≤ (if g.1 = g.1 then _ else _) ∧ (if g.1 = g.1 then _ else _) < (2147483648 : Int)
          rw [if_pos rfl]
          split <;> omega
        · show (if g.1 = g.1 then _ else _) < (0 : Int)
          rw [if_pos rfl, if_pos ht]
          omega
      · rw [q_en_obj hk7]
        congr 2
        apply List.map_congr_left
        intro j hj
        have e : (if g.1 = g.1 then (if (q_ty md (q_kd g.1) j).1 = 2 then (-1 : Int) else 0) else M g.1 j) = (if (q_ty md (q_kd g.1) j).1 = 2 then (-1 : Int) else 0) := if_pos rfl
        show _ = q_sv _ _ _ (if g.1 = g.1 then (if (q_ty md (q_kd g.1) j).1 = 2 then (-1 : Int) else 0) else M g.1 j)
        rw [e]
        unfold q_sv q_rf
        have h3 := q_ty_no3 (k := q_kd g.1) hmd j
        by_cases ht : (q_ty md (q_kd g.1) j).1 = 2
        · rw [if_pos (Or.inl ht), if_pos (Or.inl ht), if_pos ht, if_pos ht, if_pos ht, if_pos (by omega), if_pos (by omega)]
        · simp [ht, h3]
  · cases hrs1

theorem q_sd_newarray  (hB : q_B p l e R s m args below meth c cc D C b L xs adK adV sb md d ow nL rt ini k0 k1 ls st g M ad H locs lsr str cells slots pc len (.newarray .int)) (hrs : q_rs ow rt ini pc (.newarray .int) len = some op)
    (hres : q_op md op nx ops ls st g M = some (.inl c')) (hK : q_Kt p l e R s m args below meth c D C b L xs adK adV sb md nL k0 k1 Qz nx ops g.1 ad pc len c') (hl9 : c'.2.2.2.2.1.1 ≤ 1000000 ∧ c'.2.2.2.2.1.1 ≤ k0 + R.cells ∧ c'.2.2.2.2.1.2 ≤ k1 + R.slots) : W p l e R s m args below meth c H locs cells slots Qz (F0 m pc lsr str) := by
  obtain ⟨hl, h2⟩ := q_if_inv hrs
  cases h2; subst hl
  have hE := hB.1.2.2.2.2.2.2.2.2.1
  have hdg := hB.2.2.2.2.2.2
  obtain ⟨x, st1, rfl, hres1⟩ := q_ii_inv hres
  obtain ⟨⟨hq, h0, hbig, hn⟩, hres2⟩ := q_if_inv hres1
  obtain ⟨_, str1, e1, hx, hs1⟩ := q_vrs_cons hB.2.2.2.1
  obtain ⟨X, rfl, rfl⟩ := q_vr_i hx
  subst e1
  have hk20 := q_isA_k hq
  have hM : ∀ b i, b ≠ g.1 → (fun b i => if b = g.1 then (if i = 1000 ∧ q_kd g.1 = 10 then X.toInt else 0) else M b i) b i = M b i := fun b i h => if_neg h
  have hlim1 : g.1 + 1 ≤ k0 + R.cells := by obtain ⟨_, _, _, _, _, _⟩ := c'; obtain ⟨rfl, rfl, rfl, rfl, rfl, rfl⟩ := q_go_inj hres2; exact hl9.2.1
  have hlim2 : g.2 + X.toInt.toNat ≤ k1 + R.slots := by obtain ⟨_, _, _, _, _, _⟩ := c'; obtain ⟨rfl, rfl, rfl, rfl, rfl, rfl⟩ := q_go_inj hres2; exact hl9.2.2
  have hlen : q_len (q_kd g.1) g.1 (fun b i => if b = g.1 then (if i = 1000 ∧ q_kd g.1 = 10 then X.toInt else 0) else M b i) = X.toInt := by
    unfold q_len
    by_cases h : q_kd g.1 = 10
    · rw [if_pos h]
      show (if g.1 = g.1 then (if 1000 = 1000 ∧ q_kd g.1 = 10 then X.toInt else 0) else M g.1 1000) = _
      rw [if_pos rfl, if_pos ⟨rfl, h⟩]
    · rw [if_neg h, if_neg (by omega), if_neg (by omega), if_neg (by omega)]
      rw [if_neg h] at hn
      exact hn.symm
  refine va_newa (atype := .int) (ty := .int) (N' := X.toInt.toNat) (a0 := (X.toInt.toNat, .inl (fun _ => 0))) hB.1.1 hB.1.2.1 (hB.1.2.2.2.2.2.2.1 _ q_w_ac) rfl hE.1 hB.2.1.1 hB.2.1.2.1 hB.2.1.2.2.2.2.2 (fun q hq => Nat.le_trans hE.2.2.2.1.2.2 hq) (fun cA => rfl) (fun h => by have := Int32.lt_iff_toInt_lt.mp h; rw [show (0 : Int32).toInt = 0 from by decide] at this; omega) rfl (by show X.toInt.toNat * 4 ≤ _; omega) (by have := hB.2.2.2.2.1; omega) (by have := hB.2.2.2.2.2.1; omega) hdg (fun q cA H1 hK1 hP hD hS => ?_)
  have ec : cA = C.1 := q_same_cls (hK1.2 4 (cA, .int) rfl).2 (hE.1.2 0 (C.1, .int) rfl).2 rfl
  subst ec
  refine q_sd_new0 hB hres2 hK hl9 hs1 hM ?_ ?_ hP hD hS
  · refine q_ok_new hB.2.1.2.2.1 hM (fun j => ?_) (fun j hj _ => ?_) (fun j hj => ?_) (fun h => ?_)
    · show -2147483648 ≤ (if g.1 = g.1 then _ else _) ∧ (if g.1 = g.1 then _ else _) < (2147483648 : Int)
      rw [if_pos rfl]
      split <;> omega
    · exfalso; unfold q_sz at hj; rw [if_neg (by omega), if_neg (by omega), if_neg (by omega), if_neg (by omega)] at hj; omega
    · exfalso; unfold q_sz at hj; rw [if_neg (by omega), if_neg (by omega), if_neg (by omega), if_neg (by omega)] at hj; omega
    · show 0 ≤ (if g.1 = g.1 then (if 1000 = 1000 ∧ q_kd g.1 = 10 then X.toInt else 0) else M g.1 1000) ∧ (if g.1 = g.1 then (if 1000 = 1000 ∧ q_kd g.1 = 10 then X.toInt else 0) else M g.1 1000) ≤ 1000
      rw [if_pos rfl, if_pos ⟨rfl, h⟩]
      rw [if_pos h] at hn
      exact ⟨h0, hn⟩
  · rw [q_en_arr hq, hlen]
    congr 3
    congr 1
    funext i
    unfold q_af
    by_cases hi : i < X.toInt.toNat
    · rw [if_pos hi]
      show 0 = Int32.ofInt (if g.1 = g.1 then (if i = 1000 ∧ q_kd g.1 = 10 then X.toInt else 0) else M g.1 i)
      have hne : ¬ (i = 1000 ∧ q_kd g.1 = 10) := fun h => by
        rw [if_pos h.2] at hn
        omega
      rw [if_pos rfl, if_neg hne]
      decide
    · rw [if_neg hi]

theorem q_sd_anewarray {i : Nat} (hB : q_B p l e R s m args below meth c cc D C b L xs adK adV sb md d ow nL rt ini k0 k1 ls st g M ad H locs lsr str cells slots pc len (.anewarray i)) (hrs : q_rs ow rt ini pc (.anewarray i) len = some op)
    (hres : q_op md op nx ops ls st g M = some (.inl c')) (hK : q_Kt p l e R s m args below meth c D C b L xs adK adV sb md nL k0 k1 Qz nx ops g.1 ad pc len c') (hl9 : c'.2.2.2.2.1.1 ≤ 1000000 ∧ c'.2.2.2.2.1.1 ≤ k0 + R.cells ∧ c'.2.2.2.2.1.2 ≤ k1 + R.slots) : W p l e R s m args below meth c H locs cells slots Qz (F0 m pc lsr str) := by
  obtain ⟨⟨hl, h5⟩, hrs1⟩ := q_if_inv hrs
  subst hl
  have hE := hB.1.2.2.2.2.2.2.2.2.1
  have hdg := hB.2.2.2.2.2.2
  have key : ∀ k : Nat, (k = 8 ∨ k = 9) → op = .anewarray k → (∃ X9 : String, q_tyq k = .object X9 ∧ va_AO X9 s ∧ (Cond.classLink RX5 i X9).before args s = true) → W p l e R s m args below meth c H locs cells slots Qz (F0 m pc lsr str) := by
    intro k hk8 hop hX
    subst hop
    obtain ⟨X9, ht9, hao, hcl⟩ := hX
    have hk9 : k = 7 ∨ k = 8 ∨ k = 9 := Or.inr hk8
    obtain ⟨x, st1, rfl, hres1⟩ := q_ii_inv hres
    obtain ⟨⟨-, hkd, hn, hmd⟩, hres2⟩ := q_if_inv hres1
    obtain ⟨_, str1, e1, hx, hs1⟩ := q_vrs_cons hB.2.2.2.1
    obtain ⟨X, rfl, rfl⟩ := q_vr_i hx
    subst e1
    subst hkd
    have hsz : X.toInt.toNat = q_sz (q_kd g.1) := by rw [hn, q_len_q hk9]; rfl
    have hsz6 : q_sz (q_kd g.1) ≤ 6 := by rcases hk8 with h | h <;> rw [h] <;> decide
    have h0 : 0 ≤ X.toInt := by rw [hn, q_len_q hk9]; omega
    have hM : ∀ b i, b ≠ g.1 → (fun b i => if b = g.1 then (-1 : Int) else M b i) b i = M b i := fun b i h => if_neg h
    have hlim1 : g.1 + 1 ≤ k0 + R.cells := by obtain ⟨_, _, _, _, _, _⟩ := c'; obtain ⟨rfl, rfl, rfl, rfl, rfl, rfl⟩ := q_go_inj hres2; exact hl9.2.1
    have hlim2 : g.2 + X.toInt.toNat ≤ k1 + R.slots := by obtain ⟨_, _, _, _, _, _⟩ := c'; obtain ⟨rfl, rfl, rfl, rfl, rfl, rfl⟩ := q_go_inj hres2; exact hl9.2.2
    have hown : s.vm.findClass RX5 = some m.cls := by have := hB.1.2.2.2.2.2.1; rw [h5] at this; exact this
    refine va_newq (N' := X.toInt.toNat) hB.1.1 hB.1.2.1 hown hcl hao hE.1 hB.2.1.1 hB.2.1.2.1 hB.2.1.2.2.2.2.2 (fun q hq => Nat.le_trans hE.2.2.2.1.2.2 hq) (fun h => by have := Int32.lt_iff_toInt_lt.mp h; rw [show (0 : Int32).toInt = 0 from by decide] at this; omega) rfl (by omega) (by have := hB.2.2.2.2.1; omega) (by have := hB.2.2.2.2.2.1; omega) hdg (fun q cA H1 hK1 hP hD hS => ?_)
    have htys := hE.1.2 _ _ (q_tys_q (C := C) hk9)
    rw [ht9] at htys
    obtain ⟨-, _, _, -, -, -, f1⟩ := hK1.2 4 (cA, .object X9) rfl
    obtain ⟨-, _, _, -, -, -, f2⟩ := htys
    have ec := q_same_cls f1 f2 rfl
    subst ec
    refine q_sd_new0 hB hres2 hK hl9 hs1 hM ?_ ?_ hP hD hS
    · refine q_ok_new hB.2.1.2.2.1 hM (fun j => ?_) (fun j hj _ => ?_) (fun j hj => q_ty_no3 (Or.inl hmd) j) (fun h => by omega)
      · show -2147483648 ≤ (if g.1 = g.1 then (-1 : Int) else _) ∧ (if g.1 = g.1 then (-1 : Int) else _) < (2147483648 : Int)
        rw [if_pos rfl]
        omega
      · show (if g.1 = g.1 then (-1 : Int) else _) < (0 : Int)
        rw [if_pos rfl]
        omega
    · rw [q_en_q hk9, hsz]
      congr 7
      funext i
      unfold q_rfs
      by_cases hi : i < q_sz (q_kd g.1)
      · rw [if_pos hi, q_rf]
        have h2 : (q_ty md (q_kd g.1) i).1 = 2 := by
          rcases q_ty_arr md _ hk9 i with h | h
          · exact h
          · exact absurd h (q_ty_no3 (Or.inl hmd) i)
        rw [if_pos h2, if_pos (by show (if g.1 = g.1 then (-1 : Int) else _) < 0; rw [if_pos rfl]; omega)]
      · rw [if_neg hi]
  by_cases h16 : i = 16
  · rw [if_pos h16] at hrs1
    cases hrs1
    subst h16
    exact key 8 (Or.inl rfl) rfl ⟨RX3, rfl, hE.2.2.2.2.2.2.2.2.2.2.1, hB.1.2.2.2.2.2.2.1 _ q_w_cT⟩
  · rw [if_neg h16] at hrs1
    by_cases h22 : i = 22
    · rw [if_pos h22] at hrs1
      cases hrs1
      subst h22
      exact key 9 (Or.inr rfl) rfl ⟨RX2, rfl, hE.2.2.2.2.2.2.2.2.2.2.2.1, hB.1.2.2.2.2.2.2.1 _ q_w_cS⟩
    · rw [if_neg h22] at hrs1
      cases hrs1

theorem q_sd_objInit {i : Nat} (hB : q_B p l e R s m args below meth c cc D C b L xs adK adV sb md d ow nL rt ini k0 k1 ls st g M ad H locs lsr str cells slots pc len (.invokespecial i)) (hrs : q_rs ow rt ini pc (.invokespecial i) len = some op)
    (hres : q_op md op nx ops ls st g M = some (.inl c')) (hK : q_Kt p l e R s m args below meth c D C b L xs adK adV sb md nL k0 k1 Qz nx ops g.1 ad pc len c') (hot : q_otab.contains (ow, i) = true) : W p l e R s m args below meth c H locs cells slots Qz (F0 m pc lsr str) := by
  obtain ⟨hl, hrs1⟩ := q_if_inv hrs
  subst hl
  rw [if_pos hot] at hrs1
  cases hrs1
  obtain ⟨k, a, st2, rfl, hres1⟩ := q_rr_inv hres
  obtain ⟨hlen9, hres2⟩ := q_if_inv hres1
  obtain ⟨_, str2, e2, hv, hs1⟩ := q_vrs_cons hB.2.2.2.1
  obtain ⟨ha, hk, rfl⟩ := hv
  subst e2
  have hmem : (ow, i) ∈ q_otab := List.contains_iff_mem.mp hot
  obtain ⟨hlen, lv, hlv, -⟩ := hB.2.2.1
  refine q_sd_st (str2 := str2) hB hres2 hK hs1 (fun kk => ?_)
  exact W.objInit hB.1.1 hB.1.2.1 hB.1.2.2.2.2.2.1 (hB.1.2.2.2.2.2.2.1 _ (q_otab_ok _ hmem)) (hB.1.2.2.2.2.2.2.1 _ q_w_oi) (hB.1.2.2.2.2.2.2.1 _ q_w_oc) rfl (by show lsr.size = _; rw [hlv.1, hB.1.2.2.1]) rfl hB.2.2.2.2.2.2 (by have := hB.1.2.2.2.2.2.2.2.2.2.1; omega) (by have := q_cat_sum hs1; have := hB.1.2.2.2.2.2.2.2.2.2.2; have h0 : (F0 m pc lsr (Value.ref (ad a) :: str2)).monitorRoom = 0 := rfl; omega) kk

theorem q_sd_arraycopy {i : Nat} (hB : q_B p l e R s m args below meth c cc D C b L xs adK adV sb md d ow nL rt ini k0 k1 ls st g M ad H locs lsr str cells slots pc len (.invokestatic i)) (hrs : q_rs ow rt ini pc (.invokestatic i) len = some op)
    (hres : q_op md op nx ops ls st g M = some (.inl c')) (hK : q_Kt p l e R s m args below meth c D C b L xs adK adV sb md nL k0 k1 Qz nx ops g.1 ad pc len c') (hat : q_atab.contains (ow, i) = true) : W p l e R s m args below meth c H locs cells slots Qz (F0 m pc lsr str) := by
  obtain ⟨hl, hrs1⟩ := q_if_inv hrs
  subst hl
  rw [if_pos hat] at hrs1
  cases hrs1
  have hE := hB.1.2.2.2.2.2.2.2.2.1
  have hdg := hB.2.2.2.2.2.2
  obtain ⟨n, st1, rfl, hres1⟩ := q_ii_inv hres
  obtain ⟨dp, st2, rfl, hres2⟩ := q_ii_inv hres1
  obtain ⟨kd, dA, st3, rfl, hres3⟩ := q_rr_inv hres2
  obtain ⟨sp, st4, rfl, hres4⟩ := q_ii_inv hres3
  obtain ⟨ks, sA, st5, rfl, hres5⟩ := q_rr_inv hres4
  obtain ⟨⟨hqs, hqd, hsp, hdp, hn0, hs5, hd5, hlen3⟩, hres6⟩ := q_if_inv hres5
  obtain ⟨_, str1, e1, hv1, hs1⟩ := q_vrs_cons hB.2.2.2.1
  obtain ⟨_, str2, e2, hv2, hs2⟩ := q_vrs_cons hs1
  obtain ⟨_, str3, e3, hv3, hs3⟩ := q_vrs_cons hs2
  obtain ⟨_, str4, e4, hv4, hs4⟩ := q_vrs_cons hs3
  obtain ⟨_, str5, e5, hv5, hs5'⟩ := q_vrs_cons hs4
  obtain ⟨N, rfl, rfl⟩ := q_vr_i hv1
  obtain ⟨DP, rfl, rfl⟩ := q_vr_i hv2
  obtain ⟨had, hkd, rfl⟩ := hv3
  obtain ⟨SP, rfl, rfl⟩ := q_vr_i hv4
  obtain ⟨has, hks, rfl⟩ := hv5
  subst e5; subst e4; subst e3; subst e2; subst e1; subst hkd; subst hks
  obtain ⟨nx', ops', ls', st', g', M'⟩ := c'
  obtain ⟨rfl, rfl, rfl, rfl, rfl, rfl⟩ := q_go_inj hres6
  have hgs := q_W_get (md := md) (ad := ad) (C := C) (M := M) has
  rw [q_en_arr hqs] at hgs
  have hgd := q_W_get (md := md) (ad := ad) (C := C) (M := M) had
  rw [q_en_arr hqd] at hgd
  have nn : ∀ z : Int32, 0 ≤ z.toInt → ¬ z < 0 := fun z h q => by
    have := Int32.lt_iff_toInt_lt.mp q
    rw [show (0 : Int32).toInt = 0 from by decide] at this
    omega
  have hk20 := q_isA_k hqd
  obtain ⟨hlen, lv, hlv, -⟩ := hB.2.2.1
  have h1000 : q_kd dA = 10 → DP.toInt.toNat + N.toInt.toNat ≤ 1000 := fun h => by
    have hb := (hB.2.1.2.2.1.2.2.2 dA had h).2
    have e : q_len (q_kd dA) dA M = M dA 1000 := by rw [q_len, if_pos h]
    rw [e] at hd5
    omega
  refine va_copyi hB.1.1 hB.1.2.1 (by rw [hlv.1, hB.1.2.2.1]) hB.1.2.2.2.2.2.1 (hB.1.2.2.2.2.2.2.1 _ (q_atab_ok _ (List.contains_iff_mem.mp hat))) (hB.1.2.2.2.2.2.2.1 _ q_w_na) (hB.1.2.2.2.2.2.2.1 _ q_w_sa) (hB.1.2.2.2.2.2.2.1 _ q_w_is) hE.1 hB.2.1.1 hB.2.1.2.1 hB.2.1.2.2.2.2.2 sA dA 0 0 hgs hgd rfl rfl rfl (nn _ hsp) (nn _ hdp) (nn _ hn0) (by show SP.toInt.toNat + N.toInt.toNat ≤ _; omega) (by show DP.toInt.toNat + N.toInt.toNat ≤ _; omega) (fun _ _ => rfl) (by have := hB.1.2.2.2.2.2.2.2.2.2.1; omega) (by have h9 := q_cat_sum hs5'; have := hB.1.2.2.2.2.2.2.2.2.2.2; have h8 : nativeFrameWords "java/lang/System" "arraycopy" 5 = 7 := (by decide +kernel); omega) hdg (fun H1 locs1 h1 h2 h3 => ?_)
  have hM : ∀ b i, b ≠ dA → q_cpy M sA SP.toInt.toNat dA DP.toInt.toNat N.toInt.toNat b i = M b i := fun b i h => if_neg (fun q => h q.1)
  have hlen' : q_len (q_kd dA) dA (q_cpy M sA SP.toInt.toNat dA DP.toInt.toNat N.toInt.toNat) = q_len (q_kd dA) dA M := by
    unfold q_len
    by_cases h : q_kd dA = 10
    · rw [if_pos h, if_pos h]
      have := h1000 h
      exact if_neg (fun q => by omega)
    · rw [if_neg h, if_neg h]
  have e1 : (q_W md ad C g.1 M).set dA (ad dA, .inl (C.1, (q_len (q_kd dA) dA M).toNat, .inl (va_cpy (q_af (q_len (q_kd sA) sA M).toNat (M sA)) (q_af (q_len (q_kd dA) dA M).toNat (M dA)) SP.toNatClampNeg DP.toNatClampNeg N.toNatClampNeg))) = q_W md ad C g.1 (q_cpy M sA SP.toInt.toNat dA DP.toInt.toNat N.toInt.toNat) := by
    refine q_W_set had hM ?_
    rw [q_en_arr hqd, hlen']
    congr 3
    congr 1
    funext i
    show va_cpy _ _ SP.toInt.toNat DP.toInt.toNat N.toInt.toNat i = _
    by_cases hi : DP.toInt.toNat ≤ i ∧ i < DP.toInt.toNat + N.toInt.toNat
    · rw [pk_cpy_in hi.1 hi.2, q_af_in (by omega), q_af_in (by omega)]
      congr 1
      exact (if_pos ⟨rfl, hi.1, hi.2⟩).symm
    · rw [pk_cpy_out (by omega)]
      unfold q_af
      have e9 : q_cpy M sA SP.toInt.toNat dA DP.toInt.toNat N.toInt.toNat dA i = M dA i := if_neg (fun q => hi q.2)
      rw [e9]
  rw [e1] at h1 h2
  have hok : q_ok md g.1 (q_cpy M sA SP.toInt.toNat dA DP.toInt.toNat N.toInt.toNat) := by
    have hok0 := hB.2.1.2.2.1
    refine ⟨fun a i => ?_, fun a i ha hi ht => ?_, hok0.2.2.1, fun a ha hk => ?_⟩
    · unfold q_cpy
      split
      · exact hok0.1 _ _
      · exact hok0.1 _ _
    · by_cases e : a = dA
      · subst e
        exfalso; unfold q_sz at hi; rw [if_neg (by omega), if_neg (by omega), if_neg (by omega), if_neg (by omega)] at hi; omega
      · rw [hM a i e]; exact hok0.2.1 a i ha hi ht
    · by_cases e : a = dA
      · subst e
        have := h1000 hk
        have e9 : q_cpy M sA SP.toInt.toNat a DP.toInt.toNat N.toInt.toNat a 1000 = M a 1000 := if_neg (fun q => by omega)
        rw [e9]; exact hok0.2.2.2 a ha hk
      · rw [hM a 1000 e]; exact hok0.2.2.2 a ha hk
  have hnl : g.1 ≤ 1000000 := hB.2.1.2.2.2.2.1
  exact hK ad H1 locs1 lsr str5 cells slots (pc + 3) ⟨h1, h2, hok, q_scr_new hB.2.1.2.2.2.1 (n := dA) hM (by omega), hnl, h3⟩ hB.2.2.1 hs5' hB.2.2.2.2.1 hB.2.2.2.2.2.1 (fun _ _ => rfl) (Or.inl ⟨rfl, rfl, rfl⟩)

theorem q_sd_clone  (hB : q_B p l e R s m args below meth c cc D C b L xs adK adV sb md d ow nL rt ini k0 k1 ls st g M ad H locs lsr str cells slots pc len (.invokevirtual 53)) (hrs : q_rs ow rt ini pc (.invokevirtual 53) len = some op)
    (hres : q_op md op nx ops ls st g M = some (.inl c')) (hK : q_Kt p l e R s m args below meth c D C b L xs adK adV sb md nL k0 k1 Qz nx ops g.1 ad pc len c') (hl9 : c'.2.2.2.2.1.1 ≤ 1000000 ∧ c'.2.2.2.2.1.1 ≤ k0 + R.cells ∧ c'.2.2.2.2.1.2 ≤ k1 + R.slots) (ho1 : ow = 1) : W p l e R s m args below meth c H locs cells slots Qz (F0 m pc lsr str) := by
  have hE := hB.1.2.2.2.2.2.2.2.2.1
  have hdg := hB.2.2.2.2.2.2
  obtain ⟨hl, hrs1⟩ := q_if_inv hrs
  subst hl
  rw [if_pos ⟨ho1, rfl⟩] at hrs1
  cases hrs1
  obtain ⟨k, a, st2, rfl, hres1⟩ := q_rr_inv hres
  obtain ⟨⟨hk20, hkd, hlen6⟩, hres2⟩ := q_if_inv hres1
  obtain ⟨_, str2, e2, hv, hs1⟩ := q_vrs_cons hB.2.2.2.1
  obtain ⟨ha, hk, rfl⟩ := hv
  subst e2; subst hk
  have hq : q_isA (q_kd a) = true := by unfold q_isA; rw [Bool.or_eq_true]; exact Or.inr (decide_eq_true hk20)
  have hq2 : q_isA (q_kd g.1) = true := by rw [hkd]; exact hq
  have hget := q_W_get (md := md) (ad := ad) (C := C) (M := M) ha
  rw [q_en_arr hq] at hget
  have hle : ∀ b9 M9, q_len (q_kd a) b9 M9 = ((q_kd a : Nat) : Int) - 20 := fun b9 M9 => by unfold q_len; rw [if_neg (by omega), if_neg (by omega), if_neg (by omega), if_neg (by omega)]
  rw [hle] at hget
  have hM : ∀ b i, b ≠ g.1 → (fun b i => if b = g.1 then M a i else M b i) b i = M b i := fun b i h => if_neg h
  obtain ⟨hlen, lv, hlv, -⟩ := hB.2.2.1
  have hown : s.vm.findClass RX1 = some m.cls := by have := hB.1.2.2.2.2.2.1; rw [ho1] at this; exact this
  rw [← hkd] at hres2
  have hlim1 : g.1 + 1 ≤ k0 + R.cells := by obtain ⟨_, _, _, _, _, _⟩ := c'; obtain ⟨rfl, rfl, rfl, rfl, rfl, rfl⟩ := q_go_inj hres2; exact hl9.2.1
  have hlim2 : g.2 + (q_kd g.1 - 20) ≤ k1 + R.slots := by obtain ⟨_, _, _, _, _, _⟩ := c'; obtain ⟨rfl, rfl, rfl, rfl, rfl, rfl⟩ := q_go_inj hres2; exact hl9.2.2
  have hx1 : (((q_kd a : Nat) : Int) - 20).toNat = q_kd g.1 - 20 := by omega
  rw [hx1] at hget
  refine va_clone (ad := "[I") hB.1.1 hB.1.2.1 (by rw [hlv.1, hB.1.2.2.1]) hown (hB.1.2.2.2.2.2.2.1 _ q_w_cl) (hB.1.2.2.2.2.2.2.1 _ q_w_sm) (hB.1.2.2.2.2.2.2.1 _ q_w_nc) (hB.1.2.2.2.2.2.2.1 _ q_w_ic) (hB.1.2.2.2.2.2.2.1 _ q_w_sc) hE.2.2.2.2.2.2.2.2.2.1 hE.1 hB.2.1.1 hB.2.1.2.1 hB.2.1.2.2.2.2.2 (fun q hq => Nat.le_trans hE.2.2.2.1.2.2 hq) a 0 hget rfl (q_tI hE.1) ?_ (by have := hB.1.2.2.2.2.2.2.2.2.2.1; omega) (by have := q_cat_sum hs1; have := hB.1.2.2.2.2.2.2.2.2.2.2; omega) (by have := hB.2.2.2.2.1; omega) (by have := hB.2.2.2.2.2.1; show slots + (q_kd g.1 - 20) ≤ _; omega) hdg (fun q H1 hK1 hP hD hS => ?_)
  · intro i v h
    have hi : i < (vp_cell C.1 (q_kd g.1 - 20, .inl (q_af (q_kd g.1 - 20) (M a)))).slots.size := (Array.getElem?_eq_some_iff.mp h).1
    rw [vp_cell_i, arrV_size] at hi
    rw [vp_cell_i, arrV_read _ _ hi] at h
    cases h
    rfl
  · refine q_sd_new0 (sz := q_kd g.1 - 20) hB hres2 hK hl9 hs1 hM ?_ ?_ hP hD hS
    · refine q_ok_new hB.2.1.2.2.1 hM (fun j => ?_) (fun j hj _ => ?_) (fun j hj => ?_) (fun h => by omega)
      · show -2147483648 ≤ (if g.1 = g.1 then M a j else M g.1 j) ∧ (if g.1 = g.1 then M a j else M g.1 j) < (2147483648 : Int)
        rw [if_pos rfl]
        exact hB.2.1.2.2.1.1 a j
      · exfalso; unfold q_sz at hj; rw [if_neg (by omega), if_neg (by omega), if_neg (by omega), if_neg (by omega)] at hj; omega
      · exfalso; unfold q_sz at hj; rw [if_neg (by omega), if_neg (by omega), if_neg (by omega), if_neg (by omega)] at hj; omega
    · rw [q_en_arr hq2, hkd, hle, hx1, hkd]
      congr 3
      congr 1
      funext i
      unfold q_af
      have e9 : (if g.1 = g.1 then M a i else M g.1 i) = M a i := if_pos rfl
      show _ = if i < q_kd a - 20 then Int32.ofInt (if g.1 = g.1 then M a i else M g.1 i) else 0
      rw [e9]
end SDE
