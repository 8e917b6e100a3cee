/-! THE THREE OF MATH: the machine runs an entry of its own for them -/
theorem q_iload_no {md d nx k : Nat} {P : q_P} {ops : List Instr} {ls st : List q_V} {g : q_G} {M : q_M} {Q : Option q_V → q_G → q_M → Prop} {w : Int ⊕ (Nat × Nat) ⊕ Nat} (h : ls.getD k (qS 0) = .inr w) : q_T md d P nx (.iload k :: ops) ls st g M Q = False :=
  q_T_stuck (by show q_ii [ls.getD k (qS 0)] _ = none; rw [h]; rfl)
theorem q_ent_0 {id : Nat} {v : q_V} {r : List q_V} : (q_ent id (v :: r)).getD 0 (qS 0) = v := by
  unfold q_ent q_entL
  split <;> rfl
theorem q_ent_1 {id : Nat} {x : Int} {v : q_V} {r : List q_V} : (q_ent id (.inl x :: v :: r)).getD 1 (qS 0) = v := by
  unfold q_ent
  rw [show q_entL (.inl x :: v :: r) = .inl x :: q_entL (v :: r) from rfl]
  unfold q_entL
  split <;> rfl
theorem q_max_inv {md d f : Nat} {v0 v1 : q_V} {g : q_G} {M : q_M} {r : Option q_V × q_G × q_M} (h : q_run f md d (q_mP 207) (0, [], q_ent 207 [v0, v1], [], g, M) = some r) : ∃ x y, v0 = qI x ∧ v1 = qI y ∧ r = (some (qI (if x < y then y else x)), g, M) := by
  have h1 : q_T md d qP_J9_max_7cf53 0 [] (q_ent 207 [v0, v1]) [] g M (fun v' g' M' => (v', g', M') = r) := ⟨f, r, h, rfl⟩
  rw [b_J9_max_7cf53_0] at h1
  match v0, v1, h1 with
  | .inr v0, v1, h1 => rw [q_iload_no q_ent_0] at h1; exact h1.elim
  | .inl x, .inr v1, h1 =>
    have e1 : q_ent 207 [.inl x, .inr v1] = qI x :: (q_ent 207 [.inl x, .inr v1]).tail := rfl
    rw [e1, x_loadI_0, ← e1, q_iload_no q_ent_1] at h1
    exact h1.elim
  | .inl x, .inl y, h1 =>
    have h1 : q_T md d qP_J9_max_7cf53 5 [.iload 0, .iload 1, .if_icmp .lt (9)] [qI x, qI y] [] g M (fun v' g' M' => (v', g', M') = r) := h1
    rw [x_loadI_0, x_loadI_1, x_ic_lt] at h1
    refine ⟨x, y, rfl, rfl, ?_⟩
    by_cases hc : x < y
    · have h2 := h1.1 hc
      simp only [Int.reduceToNat, b_J9_max_7cf53_9, b_J9_max_7cf53_10, x_loadI_1, x_ret0] at h2
      rw [if_pos hc]
      exact h2.symm
    · have h2 := h1.2 hc
      simp only [Int.reduceToNat, b_J9_max_7cf53_5, b_J9_max_7cf53_10, x_loadI_0, x_goto, x_ret0] at h2
      rw [if_neg hc]
      exact h2.symm
theorem q_min_inv {md d f : Nat} {v0 v1 : q_V} {g : q_G} {M : q_M} {r : Option q_V × q_G × q_M} (h : q_run f md d (q_mP 208) (0, [], q_ent 208 [v0, v1], [], g, M) = some r) : ∃ x y, v0 = qI x ∧ v1 = qI y ∧ r = (some (qI (if y < x then y else x)), g, M) := by
  have h1 : q_T md d qP_J9_min_7cf53 0 [] (q_ent 208 [v0, v1]) [] g M (fun v' g' M' => (v', g', M') = r) := ⟨f, r, h, rfl⟩
  rw [b_J9_min_7cf53_0] at h1
  match v0, v1, h1 with
  | .inr v0, v1, h1 => rw [q_iload_no q_ent_0] at h1; exact h1.elim
  | .inl x, .inr v1, h1 =>
    have e1 : q_ent 208 [.inl x, .inr v1] = qI x :: (q_ent 208 [.inl x, .inr v1]).tail := rfl
    rw [e1, x_loadI_0, ← e1, q_iload_no q_ent_1] at h1
    exact h1.elim
  | .inl x, .inl y, h1 =>
    have h1 : q_T md d qP_J9_min_7cf53 5 [.iload 0, .iload 1, .if_icmp .gt (9)] [qI x, qI y] [] g M (fun v' g' M' => (v', g', M') = r) := h1
    rw [x_loadI_0, x_loadI_1, x_ic_gt] at h1
    refine ⟨x, y, rfl, rfl, ?_⟩
    by_cases hc : y < x
    · have h2 := h1.1 hc
      simp only [Int.reduceToNat, b_J9_min_7cf53_9, b_J9_min_7cf53_10, x_loadI_1, x_ret0] at h2
      rw [if_pos hc]
      exact h2.symm
    · have h2 := h1.2 hc
      simp only [Int.reduceToNat, b_J9_min_7cf53_5, b_J9_min_7cf53_10, x_loadI_0, x_goto, x_ret0] at h2
      rw [if_neg hc]
      exact h2.symm
theorem q_abs_inv {md d f : Nat} {v0 : q_V} {g : q_G} {M : q_M} {r : Option q_V × q_G × q_M} (h : q_run f md d (q_mP 206) (0, [], q_ent 206 [v0], [], g, M) = some r) : ∃ x, v0 = qI x ∧ r = (some (qI (if 0 ≤ x then x else q_neg x)), g, M) := by
  have h1 : q_T md d qP_J9_abs_0f7a4 0 [] (q_ent 206 [v0]) [] g M (fun v' g' M' => (v', g', M') = r) := ⟨f, r, h, rfl⟩
  rw [b_J9_abs_0f7a4_0] at h1
  match v0, h1 with
  | .inr v0, h1 => rw [q_iload_no q_ent_0] at h1; exact h1.elim
  | .inl x, h1 =>
    have h1 : q_T md d qP_J9_abs_0f7a4 4 [.iload 0, .ifCond .ge (9)] [qI x] [] g M (fun v' g' M' => (v', g', M') = r) := h1
    rw [x_loadI_0, x_if_ge] at h1
    refine ⟨x, rfl, ?_⟩
    by_cases hc : 0 ≤ x
    · have h2 := h1.1 hc
      simp only [Int.reduceToNat, b_J9_abs_0f7a4_9, b_J9_abs_0f7a4_10, x_loadI_0, x_ret0] at h2
      rw [if_pos hc]
      exact h2.symm
    · have h2 := h1.2 hc
      simp only [Int.reduceToNat, b_J9_abs_0f7a4_4, b_J9_abs_0f7a4_10, x_loadI_0, x_goto, x_ret0, x_ineg] at h2
      rw [if_neg hc]
      exact h2.symm
theorem q_mY_206 : q_mY 206 = Lib.Math.abs.name := rfl
theorem q_mY_207 : q_mY 207 = Lib.Math.max.name := rfl
theorem q_mY_208 : q_mY 208 = Lib.Math.min.name := rfl
theorem q_mC_206 : Cond.code Lib.Math.abs.name Lib.Math.abs.code 1 (some .int) ∈ q_Lw := by
  have h := q_wcA 206 (by decide)
  have e : q_mC 206 = Lib.Math.abs.code := by decide +kernel
  rw [e] at h
  exact h
theorem q_mC_207 : Cond.code Lib.Math.max.name Lib.Math.max.code 2 (some .int) ∈ q_Lw := by
  have h := q_wcA 207 (by decide)
  have e : q_mC 207 = Lib.Math.max.code := by decide +kernel
  rw [e] at h
  exact h
theorem q_mC_208 : Cond.code Lib.Math.min.name Lib.Math.min.code 2 (some .int) ∈ q_Lw := by
  have h := q_wcA 208 (by decide)
  have e : q_mC 208 = Lib.Math.min.code := by decide +kernel
  rw [e] at h
  exact h
section MATH
variable {p : Program} {l : Launch} {e : Env} {R : Room} {s : State} {m : MethodId} {args : Array Value} {below : List Frame} {meth : Method} {c : Code} {cc : ByteArray} {D : va_G} {C : q_CI} {b L : Nat} {xs : Nat → Int32} {adK adV : Nat → Nat} {sb md d ow nL : Nat} {rt : Option FieldType} {ini : Bool} {k0 k1 n0 : Nat} {ad0 : Nat → Nat} {Qz : State → Prop}
  {ad : Nat → Nat} {H : Heap} {locs : List Loc} {lsr : Array Slot} {str : List Value} {cells slots pc : Nat} {P : q_P} {c0 c' : q_C} {nx : Nat} {op : Instr} {ops : List Instr} {ls st : List q_V} {g : q_G} {M : q_M}
theorem q_stat_inv {i id len : Nat} (hrs : q_rs ow rt ini pc (.invokestatic i) len = some (.invokestatic id)) : len = 3 ∧ (ow, i, id) ∈ q_mtab := by
  obtain ⟨hl3, h2⟩ := q_if_inv hrs
  by_cases hat : q_atab.contains (ow, i) = true
  · rw [if_pos hat] at h2
    cases h2
  · rw [if_neg hat] at h2
    split at h2
    · next id' hlook =>
      obtain ⟨-, h3⟩ := q_if_inv h2
      cases h3
      exact ⟨hl3, q_look_mem hlook⟩
    · cases h2
theorem q_rs_math {raw : Instr} {id len : Nat} (h206 : 206 ≤ id) (hid : id < 209) (hrs : q_rs ow rt ini pc raw len = some (.invokestatic id)) : ∃ i, raw = .invokestatic i := by
  rcases q_rs_sp hrs rfl with rfl | rfl | rfl | rfl | ⟨i, rfl⟩ | ⟨i, rfl⟩ | ⟨i, rfl⟩
  · obtain ⟨-, h2⟩ := q_if_inv hrs
    split at h2 <;> cases h2
  · obtain ⟨-, h2⟩ := q_if_inv hrs
    cases h2
  · obtain ⟨-, h2⟩ := q_if_inv hrs
    cases h2
  · obtain ⟨-, h2⟩ := q_if_inv hrs
    cases h2
  · exfalso
    obtain ⟨-, h2⟩ := q_if_inv hrs
    by_cases h53 : ow = 1 ∧ i = 53
    · rw [if_pos h53] at h2
      cases h2
    · rw [if_neg h53] at h2
      split at h2
      · obtain ⟨⟨-, hs1, hs2⟩, h3⟩ := q_if_inv h2
        cases h3
        have := q_stat_206 id hid hs1
        omega
      · cases h2
  · exfalso
    obtain ⟨-, h2⟩ := q_if_inv hrs
    by_cases hot : q_otab.contains (ow, i) = true
    · rw [if_pos hot] at h2
      cases h2
    · rw [if_neg hot] at h2
      split at h2
      · cases h2
        omega
      · split at h2
        · cases h2
          omega
        · split at h2
          · obtain ⟨⟨-, hs2⟩, h3⟩ := q_if_inv h2
            cases h3
            have h9 := q_ctor_lt id (q_ctor_facts id hs2)
            have := q_stat_206 id h9.1 h9.2.1
            omega
          · cases h2
  · exact ⟨i, rfl⟩
theorem q_sd_math {f : Nat} (hC : q_Cx p R s m args meth c cc D C b L xs adK adV sb (d + 1) ow nL rt ini)
    (hA : q_At D C b L xs adK adV sb md ow nL rt ini cc k0 k1 n0 ad0 s.heap ad H locs lsr str cells slots pc (nx, op :: ops, ls, st, g, M)) {id : Nat} {as : List q_V} (hcl : q_cal op nx ops ls st g M id as c') {v : Option q_V} {g2 : q_G} {M2 : q_M}
    (hrun : q_run f md d (q_mP id) (0, [], q_ent id as, [], g, M) = some (v, g2, M2)) (hl9 : q_lim R k0 k1 g2)
    (hK : ∀ (ad' : Nat → Nat) (H' : Heap) (locs' : List Loc) (lsr' : Array Slot) (str' : List Value) (cells' slots' pc' : Nat), q_At D C b L xs adK adV sb md ow nL rt ini cc k0 k1 n0 ad0 s.heap ad' H' locs' lsr' str' cells' slots' pc' (q_put c' v g2 M2) → W p l e R s m args below meth c H' locs' cells' slots' Qz (F0 m pc' lsr' str'))
    (h206 : 206 ≤ id) (hid : id < 209) : W p l e R s m args below meth c H locs cells slots Qz (F0 m pc lsr str) := by
  obtain ⟨rfl, hlen, hdr, hrcv, hset, hent, rfl, rfl⟩ := hcl
  obtain ⟨hWo, hlr, hvr, hc, hsl, hck, hn0, had⟩ := hA
  have hc : k0 + cells = g.1 := hc
  have hsl : k1 + slots = g.2 := hsl
  have hvr : q_vrs ad adK adV b g.1 st str := hvr
  have hlr : q_lr ad adK adV b g.1 nL ls lsr := hlr
  obtain ⟨hl91, hl92, hl93⟩ := hl9
  obtain ⟨raw, len, hd, hor, hck2⟩ := q_chkB_cons hck
  rcases hor with hbad | hrs
  · cases hbad
  obtain ⟨i, rfl⟩ := q_rs_math h206 hid hrs
  obtain ⟨rfl, htab⟩ := q_stat_inv hrs
  obtain ⟨hx, hb, hml, hr, hlk, hown, hts, hini, hE, hfr, hlo⟩ := hC
  have hsize : lsr.size = nL := by obtain ⟨-, lv, h2, -⟩ := hlr; exact h2.1
  have hlink := hts _ (q_mtab_ok _ htab)
  have hinit : (Cond.initialized "java/lang/Math").before args s = true := hts _ (q_ini_all 11 (by decide))
  have hgr := q_run_grow _ hrun
  rcases (show id = 206 ∨ id = 207 ∨ id = 208 by omega) with rfl | rfl | rfl
  · match st, hlen, hrun, hvr, hdr, hK with
    | v0 :: st', hlen, hrun, hvr, hdr, hK =>
      obtain ⟨x, rfl, hr2⟩ := q_abs_inv hrun
      cases hr2
      obtain ⟨_, str1, rfl, hv1, hs1⟩ := q_vrs_cons hvr
      obtain ⟨X, rfl, rfl⟩ := q_vr_i hv1
      have hSum : (str1.map fun v => v.category).sum ≤ 8 := q_catw_sum str1 4 (by rw [← q_vrs_len hs1]; exact hdr)
      refine va_mabs hx hb (hml.trans hsize.symm) hown hlink (hts _ (q_wstA 206 (by decide) (by decide))) hinit (hts _ q_mC_206) (by omega) (by omega) (by omega) (by omega) hd ?_
      refine hK ad H locs lsr _ cells slots (pc + 3) ⟨hWo, hlr, ⟨⟨_, rfl, ?_⟩, hs1⟩, hc, hsl, hck2, hn0, had⟩
      have z0 : (0 : Int32).toInt = 0 := by decide
      by_cases hcx : (0 : Int32) ≤ X
      · have h9 := q_c_le.mp hcx
        rw [z0] at h9
        rw [if_pos hcx, if_pos h9]
      · have h9 : ¬ 0 ≤ X.toInt := fun q => hcx (q_c_le.mpr (by rw [z0]; exact q))
        rw [if_neg hcx, if_neg h9, q_neg, Int32.ofInt_toInt, Int32.zero_sub]
  · match st, hlen, hrun, hvr, hdr, hK with
    | [v1], hlen, _, _, _, _ => exact absurd (show 2 ≤ 1 from hlen) (by decide)
    | v1 :: v0 :: st', hlen, hrun, hvr, hdr, hK =>
      obtain ⟨x, y, rfl, rfl, hr2⟩ := q_max_inv hrun
      cases hr2
      obtain ⟨_, str1, rfl, hv1, hs1⟩ := q_vrs_cons hvr
      obtain ⟨Y, rfl, rfl⟩ := q_vr_i hv1
      obtain ⟨_, str2, rfl, hv2, hs2⟩ := q_vrs_cons hs1
      obtain ⟨X, rfl, rfl⟩ := q_vr_i hv2
      have hSum : (str2.map fun v => v.category).sum ≤ 8 := q_catw_sum str2 4 (by rw [← q_vrs_len hs2]; exact hdr)
      refine va_mmax hx hb (hml.trans hsize.symm) hown hlink (hts _ (q_wstA 207 (by decide) (by decide))) hinit (hts _ q_mC_207) (by omega) (by omega) (by omega) (by omega) hd ?_
      refine hK ad H locs lsr _ cells slots (pc + 3) ⟨hWo, hlr, ⟨⟨_, rfl, ?_⟩, hs2⟩, hc, hsl, hck2, hn0, had⟩
      by_cases hcx : X < Y
      · rw [if_pos hcx, if_pos (q_c_lt.mp hcx)]
      · rw [if_neg hcx, if_neg (fun q => hcx (q_c_lt.mpr q))]
  · match st, hlen, hrun, hvr, hdr, hK with
    | [v1], hlen, _, _, _, _ => exact absurd (show 2 ≤ 1 from hlen) (by decide)
    | v1 :: v0 :: st', hlen, hrun, hvr, hdr, hK =>
      obtain ⟨x, y, rfl, rfl, hr2⟩ := q_min_inv hrun
      cases hr2
      obtain ⟨_, str1, rfl, hv1, hs1⟩ := q_vrs_cons hvr
      obtain ⟨Y, rfl, rfl⟩ := q_vr_i hv1
      obtain ⟨_, str2, rfl, hv2, hs2⟩ := q_vrs_cons hs1
      obtain ⟨X, rfl, rfl⟩ := q_vr_i hv2
      have hSum : (str2.map fun v => v.category).sum ≤ 8 := q_catw_sum str2 4 (by rw [← q_vrs_len hs2]; exact hdr)
      refine va_mmin hx hb (hml.trans hsize.symm) hown hlink (hts _ (q_wstA 208 (by decide) (by decide))) hinit (hts _ q_mC_208) (by omega) (by omega) (by omega) (by omega) hd ?_
      refine hK ad H locs lsr _ cells slots (pc + 3) ⟨hWo, hlr, ⟨⟨_, rfl, ?_⟩, hs2⟩, hc, hsl, hck2, hn0, had⟩
      by_cases hcx : Y < X
      · rw [if_pos hcx, if_pos (q_c_lt.mp hcx)]
      · rw [if_neg hcx, if_neg (fun q => hcx (q_c_lt.mpr q))]
end MATH
