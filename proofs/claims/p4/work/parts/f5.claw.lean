/-! THE CLASS: a text just read is a law -/
theorem q_lawV_of2 {C s : Nat → Int} {len : Nat} (hC : q_cod C len) : q_lawV (q_Vt C s len) := by
  intro part f f' h
  unfold q_Vt
  by_cases c : (s part).toNat ≤ len
  · exact F_val_N hC h (len - (s part).toNat) (s part).toNat 1 _ (by omega)
  · rw [show len - (s part).toNat = 0 by omega, F_val, F_val]
set_option maxHeartbeats 4000000 in
theorem q_lawC_of2 {M : q_M} {ca ta len : Nat} (hca : ca + 1 = ta) (h1 : M ta 1 = ca) (h2 : M ta 2 = ((ta + 1 : Nat) : Int)) (h3 : M ta 3 = ((ta + 2 : Nat) : Int)) (hlen : M ca 1000 = len) (hl2 : len < 100000) (hC : q_cod (M ca) len) (hs : ∀ p, p < 3 → 0 ≤ M (ta + 1) p ∧ M (ta + 1) p ≤ 100000) : q_lawC (q_Vt (M ca) (M (ta + 1)) len) ta M := by
  intro M' hM d g Q part na hp hna hq
  by_cases c : M (ta + 1) part ≤ len
  · have hs2 : ∀ p, p < 3 → 0 ≤ (if p = part then M (ta + 1) p else 0) ∧ (if p = part then M (ta + 1) p else 0) ≤ (len : Int) := by
      intro p hp
      have := hs p hp
      by_cases e : p = part
      · rw [if_pos e, e]; rw [e] at this; omega
      · rw [if_neg e]; omega
    have eS : M' (ta + 1) part = M (ta + 1) part := hM (ta + 1) part (by omega)
    have h0 := hs part hp
    have e1 : M' ta 1 = ca := (hM ta 1 (by omega)).trans h1
    have e2 : M' ta 2 = ((ta + 1 : Nat) : Int) := (hM ta 2 (by omega)).trans h2
    have e3 : M' ta 3 = ((ta + 2 : Nat) : Int) := (hM ta 3 (by omega)).trans h3
    have eC : M' ca = M ca := funext (fun i => hM ca i (by omega))
    have hy2 := q_dynT (k := 23) e2
    have hself : q_sM M' (ta + 2) (M' (ta + 2)) = M' := by
      funext a i
      unfold q_sM
      by_cases c : a = ta + 2
      · rw [if_pos c, c]
      · rw [if_neg c]
    rw [s_X3_value]
    simp (disch := omega) only [b_X3_value_0, x_iconst, x_storeI_3, x_loadR_0, x_loadS_0, f_3_2, x_loadI_1, y_iald_23, y_iald_26, y_iald_60, x_storeI_4, x_loadI_4, f_3_1, x_alen_10, y_alen_180, y_ic_ge_t, y_ic_ge_f, b_X3_value_20, x_iand, x_storeI_5, x_ishr, x_storeI_6, x_loadI_5, y_if_ne_t, y_if_ne_f, b_X3_value_48, x_goto, b_X3_value_51, y_ic_eq_t, y_ic_eq_f, b_X3_value_57, y_ic_ne_t, y_ic_ne_f, b_X3_value_63, x_loadI_3, y_ic_lt_t, y_ic_lt_f, b_X3_value_69, x_ret0, b_X3_value_71, x_iinc_3, f_3_3, b_X3_value_85, x_loadI_6, b_X3_value_90, x_loadR_2, x_loadS_2, b_X3_value_94, y_iast_23, y_iast_26, y_iast_60, b_X3_value_98, b_X3_value_104, b_X3_value_110, b_X3_value_115, b_X3_value_117, x_storeI_7, b_X3_value_136, x_loadI_7, x_ineg, b_X3_value_142, b_X3_value_147, b_X3_value_151, b_X3_value_152, b_X3_value_156, b_X3_value_161, b_X3_value_163, x_iadd, x_storeI_8, tw_0_5, tw_0_6, tw_0_7, tw_0_8, tw_0_9, tw_0_10, tw_0_o, b_X3_value_224, x_loadI_8, x_imul, x_storeI_9, b_X3_value_234, b_X3_value_244, x_isub, b_X3_value_254, b_X3_value_261, b_X3_value_265, b_X3_value_266, b_X3_value_271, b_X3_value_278, b_X3_value_282, b_X3_value_283, b_X3_value_288, y_if_eq_t, y_if_eq_f, b_X3_value_293, b_X3_value_298, b_X3_value_302, b_X3_value_303, b_X3_value_308, b_X3_value_313, b_X3_value_318, b_X3_value_322, b_X3_value_323, b_X3_value_325, x_loadI_9, b_X3_value_333, x_iinc_4, b_X3_value_339, b_X3_value_344, b_X3_value_348, b_X3_value_354, q_isL_I, q_isL_R, q_isL_S, true_and, and_true, and_self, List.length_nil, List.length_cons, Nat.zero_add, x_K, x_Kn, Int.reduceToNat, Nat.reduceAdd, Nat.reduceMul, Nat.reduceLeDiff, Nat.reduceLT, Nat.zero_le, Int.reduceAdd, Int.reduceSub, Int.reduceMul, Int.reduceNeg, q_add_e, q_sub_e, q_mul_e, q_neg_e, q_upd_s, q_upd_n, zr_shr0, zr_shr1, zr_shr2, zr_shr3, zr_shr4, zr_and, zr_dyn8, zr_or, zr_shl, q_cpy_n, y_cpy26, hy2, Int.toNat_natCast, eS]
    have key := sp_valueL (d := d) (g := g) (M := M') (ca := ca) (ta := ta) (sa := ta + 2) (na := na) (len := len) (pt := part) (Q := Q) e1 e3 (by omega) (by omega) (Ne.symm hna) (by rw [eC]; exact hlen) hl2 (by rw [eC]; exact hC) (len - (M (ta + 1) part).toNat) (M (ta + 1) part).toNat (by omega) 1 (M' (ta + 2)) (qS 0) (qS 0) (qS 0) (qS 0) (qS 0) (by omega) (by omega) rfl rfl rfl rfl rfl ?_
    · rw [hself, show (((M (ta + 1) part).toNat : Nat) : Int) = M (ta + 1) part by omega] at key
      exact key
    · intro st2
      have h := hq (q_sM M' (ta + 2) st2) (fun a i ha => q_sM_n ha)
      unfold q_Vt at h
      rw [F_val_st (C := M ca) (N := M' na) (len - (M (ta + 1) part).toNat) (M (ta + 1) part).toNat 1 (fun _ => 0) (M' (ta + 2)) (fun k q1 q2 => absurd q1 (by omega))] at h
      rw [eC]
      exact h
  · have eS : M' (ta + 1) part = M (ta + 1) part := hM (ta + 1) part (by omega)
    have h0 := hs part hp
    have e1 : M' ta 1 = ca := (hM ta 1 (by omega)).trans h1
    have e2 : M' ta 2 = ((ta + 1 : Nat) : Int) := (hM ta 2 (by omega)).trans h2
    have hy1 := q_dynT (k := 10) e1
    have hy2 := q_dynT (k := 23) e2
    have hl : M' ca 1000 = len := (hM ca 1000 (by omega)).trans hlen
    have h := hq M' (fun a i ha => rfl)
    unfold q_Vt at h
    rw [show len - (M (ta + 1) part).toNat = 0 by omega, F_val, if_pos (by omega)] at h
    rw [s_X3_value]
    simp (disch := omega) only [b_X3_value_0, x_iconst, x_storeI_3, x_loadR_0, x_loadS_0, f_3_2, x_loadI_1, y_iald_23, y_iald_26, y_iald_60, x_storeI_4, b_X3_value_10, x_loadI_4, f_3_1, x_alen_10, y_alen_180, y_ic_ge_t, y_ic_ge_f, b_X3_value_20, x_iand, x_storeI_5, x_ishr, x_storeI_6, x_loadI_5, y_if_ne_t, y_if_ne_f, b_X3_value_48, x_goto, b_X3_value_51, y_ic_eq_t, y_ic_eq_f, b_X3_value_57, y_ic_ne_t, y_ic_ne_f, b_X3_value_63, x_loadI_3, y_ic_lt_t, y_ic_lt_f, b_X3_value_69, x_ret0, b_X3_value_71, x_iinc_3, f_3_3, b_X3_value_85, x_loadI_6, b_X3_value_90, x_loadR_2, x_loadS_2, b_X3_value_94, y_iast_23, y_iast_26, y_iast_60, b_X3_value_98, b_X3_value_104, b_X3_value_110, b_X3_value_115, b_X3_value_117, x_storeI_7, b_X3_value_136, x_loadI_7, x_ineg, b_X3_value_142, b_X3_value_147, b_X3_value_151, b_X3_value_152, b_X3_value_156, b_X3_value_161, b_X3_value_163, x_iadd, x_storeI_8, tw_0_5, tw_0_6, tw_0_7, tw_0_8, tw_0_9, tw_0_10, tw_0_o, b_X3_value_224, x_loadI_8, x_imul, x_storeI_9, b_X3_value_234, b_X3_value_244, x_isub, b_X3_value_254, b_X3_value_261, b_X3_value_265, b_X3_value_266, b_X3_value_271, b_X3_value_278, b_X3_value_282, b_X3_value_283, b_X3_value_288, y_if_eq_t, y_if_eq_f, b_X3_value_293, b_X3_value_298, b_X3_value_302, b_X3_value_303, b_X3_value_308, b_X3_value_313, b_X3_value_318, b_X3_value_322, b_X3_value_323, b_X3_value_325, x_loadI_9, b_X3_value_333, x_iinc_4, b_X3_value_339, b_X3_value_344, b_X3_value_348, b_X3_value_354, q_isL_I, q_isL_R, q_isL_S, true_and, and_true, and_self, List.length_nil, List.length_cons, Nat.zero_add, x_K, x_Kn, Int.reduceToNat, Nat.reduceAdd, Nat.reduceMul, Nat.reduceLeDiff, Nat.reduceLT, Nat.zero_le, Int.reduceAdd, Int.reduceSub, Int.reduceMul, Int.reduceNeg, q_add_e, q_sub_e, q_mul_e, q_neg_e, q_upd_s, q_upd_n, zr_shr0, zr_shr1, zr_shr2, zr_shr3, zr_shr4, zr_and, zr_dyn8, zr_or, zr_shl, q_cpy_n, y_cpy26, hy1, hy2, Int.toNat_natCast, eS, hl]
    exact h
