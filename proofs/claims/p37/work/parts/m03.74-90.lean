section
/-! THE CLASS'S ENTRIES: build, asks -/
theorem sp_buildF {d : Nat} {g : q_G} {M : q_M} {b wt v : Int} {Q : Option q_V → q_G → q_M → Prop} (h : ¬(0 ≤ b ∧ b < 5)) (hq : Q (some (qI (-5))) g M) : q_S 1 (d + 1) 64 [qR 5 0, qI b, qI wt, qI v] g M Q := by
  rw [s_X5_build]
  simp (disch := omega) only [b_X5_build_0, x_loadI_1, y_if_ne_t, y_if_ne_f, b_X5_build_7, x_iconst, x_ret0, b_X5_build_10, x_loadI_2, y_if_lt_t, y_if_lt_f, b_X5_build_14, y_ic_gt_t, y_ic_gt_f, b_X5_build_19, x_loadI_3, b_X5_build_23, y_ic_le_t, y_ic_le_f, b_X5_build_29, b_X5_build_32, y_ic_ne_t, y_ic_ne_f, b_X5_build_37, b_X5_build_42, x_loadR_0, x_loadS_0, f_5_3, f_4_0, y_ic_ge_t, y_ic_ge_f, b_X5_build_57, b_X5_build_60, x_storeI_4, tw_2_0, tw_2_1, tw_2_2, tw_2_o, b_X5_build_96, x_goto, b_X5_build_108, f_0_0, y_iast_26, b_X5_build_124, f_4_2, b_X5_build_137, f_4_3, b_X5_build_147, x_loadI_4, q_isL_I, q_isL_R, q_isL_S, true_and, and_true, and_self, List.length_nil, List.length_cons, Nat.zero_add, x_K, x_Kn, Int.reduceToNat, Nat.reduceAdd, Nat.reduceMul, Nat.reduceLeDiff, Nat.reduceLT, Nat.zero_le, Int.reduceAdd, Int.reduceSub, Int.reduceMul, Int.reduceNeg, q_add_e, q_sub_e, q_mul_e, q_neg_e, q_upd_s, q_upd_n, zr_shr0, zr_shr1, zr_shr2, zr_shr3, zr_shr4, zr_and, zr_dyn8, zr_or, zr_shl, q_cpy_n, y_cpy26, c_X5_isBuilding, sp_isBuilding, h, if_false]
  exact hq
theorem sp_buildG {d : Nat} {g : q_G} {M : q_M} {b : Nat} {wt v : Int} {Q : Option q_V → q_G → q_M → Prop} (hb : b < 5) (h0 : 0 ≤ M (11 + 1) 5) (h5 : M (11 + 1) 5 ≤ 5) (h2 : wt < 0 ∨ 3 < wt ∨ v < 0 ∨ 99 < v ∨ (wt = 1 ∧ (5 < v ∨ v < F_cnt (M (12 + 2)) b (M 12 5).toNat))) (hq : Q (some (qI (-7))) g M) : q_S 1 (d + 1) 64 [qR 5 0, qI b, qI wt, qI v] g M Q := by
  have hst : 0 ≤ (b : Int) ∧ (b : Int) < 5 := ⟨by omega, by omega⟩
  have g0 : 0 ≤ M 12 5 := h0
  have g5 : M 12 5 ≤ 5 := h5
  have hcn := F_cnt_le (M (12 + 2)) b (M 12 5).toNat
  rw [s_X5_build]
  by_cases k1 : wt < 0
  · simp (disch := omega) only [b_X5_build_0, x_loadI_1, y_if_ne_t, y_if_ne_f, b_X5_build_7, x_iconst, x_ret0, b_X5_build_10, x_loadI_2, y_if_lt_t, y_if_lt_f, b_X5_build_14, y_ic_gt_t, y_ic_gt_f, b_X5_build_19, x_loadI_3, b_X5_build_23, y_ic_le_t, y_ic_le_f, b_X5_build_29, b_X5_build_32, y_ic_ne_t, y_ic_ne_f, b_X5_build_37, b_X5_build_42, x_loadR_0, x_loadS_0, f_5_3, f_4_0, y_ic_ge_t, y_ic_ge_f, b_X5_build_57, b_X5_build_60, x_storeI_4, tw_2_0, tw_2_1, tw_2_2, tw_2_o, b_X5_build_96, x_goto, b_X5_build_108, f_0_0, y_iast_26, b_X5_build_124, f_4_2, b_X5_build_137, f_4_3, b_X5_build_147, x_loadI_4, q_isL_I, q_isL_R, q_isL_S, true_and, and_true, and_self, List.length_nil, List.length_cons, Nat.zero_add, x_K, x_Kn, Int.reduceToNat, Nat.reduceAdd, Nat.reduceMul, Nat.reduceLeDiff, Nat.reduceLT, Nat.zero_le, Int.reduceAdd, Int.reduceSub, Int.reduceMul, Int.reduceNeg, q_add_e, q_sub_e, q_mul_e, q_neg_e, q_upd_s, q_upd_n, zr_shr0, zr_shr1, zr_shr2, zr_shr3, zr_shr4, zr_and, zr_dyn8, zr_or, zr_shl, q_cpy_n, y_cpy26, c_X5_isBuilding, sp_isBuilding, hst, and_self, if_true, Int.toNat_natCast]
    exact hq
  by_cases k2 : 3 < wt
  · simp (disch := omega) only [b_X5_build_0, x_loadI_1, y_if_ne_t, y_if_ne_f, b_X5_build_7, x_iconst, x_ret0, b_X5_build_10, x_loadI_2, y_if_lt_t, y_if_lt_f, b_X5_build_14, y_ic_gt_t, y_ic_gt_f, b_X5_build_19, x_loadI_3, b_X5_build_23, y_ic_le_t, y_ic_le_f, b_X5_build_29, b_X5_build_32, y_ic_ne_t, y_ic_ne_f, b_X5_build_37, b_X5_build_42, x_loadR_0, x_loadS_0, f_5_3, f_4_0, y_ic_ge_t, y_ic_ge_f, b_X5_build_57, b_X5_build_60, x_storeI_4, tw_2_0, tw_2_1, tw_2_2, tw_2_o, b_X5_build_96, x_goto, b_X5_build_108, f_0_0, y_iast_26, b_X5_build_124, f_4_2, b_X5_build_137, f_4_3, b_X5_build_147, x_loadI_4, q_isL_I, q_isL_R, q_isL_S, true_and, and_true, and_self, List.length_nil, List.length_cons, Nat.zero_add, x_K, x_Kn, Int.reduceToNat, Nat.reduceAdd, Nat.reduceMul, Nat.reduceLeDiff, Nat.reduceLT, Nat.zero_le, Int.reduceAdd, Int.reduceSub, Int.reduceMul, Int.reduceNeg, q_add_e, q_sub_e, q_mul_e, q_neg_e, q_upd_s, q_upd_n, zr_shr0, zr_shr1, zr_shr2, zr_shr3, zr_shr4, zr_and, zr_dyn8, zr_or, zr_shl, q_cpy_n, y_cpy26, c_X5_isBuilding, sp_isBuilding, hst, and_self, if_true, Int.toNat_natCast]
    exact hq
  by_cases k3 : v < 0
  · simp (disch := omega) only [b_X5_build_0, x_loadI_1, y_if_ne_t, y_if_ne_f, b_X5_build_7, x_iconst, x_ret0, b_X5_build_10, x_loadI_2, y_if_lt_t, y_if_lt_f, b_X5_build_14, y_ic_gt_t, y_ic_gt_f, b_X5_build_19, x_loadI_3, b_X5_build_23, y_ic_le_t, y_ic_le_f, b_X5_build_29, b_X5_build_32, y_ic_ne_t, y_ic_ne_f, b_X5_build_37, b_X5_build_42, x_loadR_0, x_loadS_0, f_5_3, f_4_0, y_ic_ge_t, y_ic_ge_f, b_X5_build_57, b_X5_build_60, x_storeI_4, tw_2_0, tw_2_1, tw_2_2, tw_2_o, b_X5_build_96, x_goto, b_X5_build_108, f_0_0, y_iast_26, b_X5_build_124, f_4_2, b_X5_build_137, f_4_3, b_X5_build_147, x_loadI_4, q_isL_I, q_isL_R, q_isL_S, true_and, and_true, and_self, List.length_nil, List.length_cons, Nat.zero_add, x_K, x_Kn, Int.reduceToNat, Nat.reduceAdd, Nat.reduceMul, Nat.reduceLeDiff, Nat.reduceLT, Nat.zero_le, Int.reduceAdd, Int.reduceSub, Int.reduceMul, Int.reduceNeg, q_add_e, q_sub_e, q_mul_e, q_neg_e, q_upd_s, q_upd_n, zr_shr0, zr_shr1, zr_shr2, zr_shr3, zr_shr4, zr_and, zr_dyn8, zr_or, zr_shl, q_cpy_n, y_cpy26, c_X5_isBuilding, sp_isBuilding, hst, and_self, if_true, Int.toNat_natCast]
    exact hq
  by_cases k4 : 99 < v
  · simp (disch := omega) only [b_X5_build_0, x_loadI_1, y_if_ne_t, y_if_ne_f, b_X5_build_7, x_iconst, x_ret0, b_X5_build_10, x_loadI_2, y_if_lt_t, y_if_lt_f, b_X5_build_14, y_ic_gt_t, y_ic_gt_f, b_X5_build_19, x_loadI_3, b_X5_build_23, y_ic_le_t, y_ic_le_f, b_X5_build_29, b_X5_build_32, y_ic_ne_t, y_ic_ne_f, b_X5_build_37, b_X5_build_42, x_loadR_0, x_loadS_0, f_5_3, f_4_0, y_ic_ge_t, y_ic_ge_f, b_X5_build_57, b_X5_build_60, x_storeI_4, tw_2_0, tw_2_1, tw_2_2, tw_2_o, b_X5_build_96, x_goto, b_X5_build_108, f_0_0, y_iast_26, b_X5_build_124, f_4_2, b_X5_build_137, f_4_3, b_X5_build_147, x_loadI_4, q_isL_I, q_isL_R, q_isL_S, true_and, and_true, and_self, List.length_nil, List.length_cons, Nat.zero_add, x_K, x_Kn, Int.reduceToNat, Nat.reduceAdd, Nat.reduceMul, Nat.reduceLeDiff, Nat.reduceLT, Nat.zero_le, Int.reduceAdd, Int.reduceSub, Int.reduceMul, Int.reduceNeg, q_add_e, q_sub_e, q_mul_e, q_neg_e, q_upd_s, q_upd_n, zr_shr0, zr_shr1, zr_shr2, zr_shr3, zr_shr4, zr_and, zr_dyn8, zr_or, zr_shl, q_cpy_n, y_cpy26, c_X5_isBuilding, sp_isBuilding, hst, and_self, if_true, Int.toNat_natCast]
    exact hq
  have k5 : wt = 1 := by omega
  subst k5
  by_cases k6 : 5 < v
  · simp (disch := omega) only [b_X5_build_0, x_loadI_1, y_if_ne_t, y_if_ne_f, b_X5_build_7, x_iconst, x_ret0, b_X5_build_10, x_loadI_2, y_if_lt_t, y_if_lt_f, b_X5_build_14, y_ic_gt_t, y_ic_gt_f, b_X5_build_19, x_loadI_3, b_X5_build_23, y_ic_le_t, y_ic_le_f, b_X5_build_29, b_X5_build_32, y_ic_ne_t, y_ic_ne_f, b_X5_build_37, b_X5_build_42, x_loadR_0, x_loadS_0, f_5_3, f_4_0, y_ic_ge_t, y_ic_ge_f, b_X5_build_57, b_X5_build_60, x_storeI_4, tw_2_0, tw_2_1, tw_2_2, tw_2_o, b_X5_build_96, x_goto, b_X5_build_108, f_0_0, y_iast_26, b_X5_build_124, f_4_2, b_X5_build_137, f_4_3, b_X5_build_147, x_loadI_4, q_isL_I, q_isL_R, q_isL_S, true_and, and_true, and_self, List.length_nil, List.length_cons, Nat.zero_add, x_K, x_Kn, Int.reduceToNat, Nat.reduceAdd, Nat.reduceMul, Nat.reduceLeDiff, Nat.reduceLT, Nat.zero_le, Int.reduceAdd, Int.reduceSub, Int.reduceMul, Int.reduceNeg, q_add_e, q_sub_e, q_mul_e, q_neg_e, q_upd_s, q_upd_n, zr_shr0, zr_shr1, zr_shr2, zr_shr3, zr_shr4, zr_and, zr_dyn8, zr_or, zr_shl, q_cpy_n, y_cpy26, c_X5_isBuilding, sp_isBuilding, hst, and_self, if_true, Int.toNat_natCast]
    exact hq
  · have k7 : v < F_cnt (M (12 + 2)) b (M 12 5).toNat := by omega
    simp (disch := omega) only [b_X5_build_0, x_loadI_1, y_if_ne_t, y_if_ne_f, b_X5_build_7, x_iconst, x_ret0, b_X5_build_10, x_loadI_2, y_if_lt_t, y_if_lt_f, b_X5_build_14, y_ic_gt_t, y_ic_gt_f, b_X5_build_19, x_loadI_3, b_X5_build_23, y_ic_le_t, y_ic_le_f, b_X5_build_29, b_X5_build_32, y_ic_ne_t, y_ic_ne_f, b_X5_build_37, b_X5_build_42, x_loadR_0, x_loadS_0, f_5_3, f_4_0, y_ic_ge_t, y_ic_ge_f, b_X5_build_57, b_X5_build_60, x_storeI_4, tw_2_0, tw_2_1, tw_2_2, tw_2_o, b_X5_build_96, x_goto, b_X5_build_108, f_0_0, y_iast_26, b_X5_build_124, f_4_2, b_X5_build_137, f_4_3, b_X5_build_147, x_loadI_4, q_isL_I, q_isL_R, q_isL_S, true_and, and_true, and_self, List.length_nil, List.length_cons, Nat.zero_add, x_K, x_Kn, Int.reduceToNat, Nat.reduceAdd, Nat.reduceMul, Nat.reduceLeDiff, Nat.reduceLT, Nat.zero_le, Int.reduceAdd, Int.reduceSub, Int.reduceMul, Int.reduceNeg, q_add_e, q_sub_e, q_mul_e, q_neg_e, q_upd_s, q_upd_n, zr_shr0, zr_shr1, zr_shr2, zr_shr3, zr_shr4, zr_and, zr_dyn8, zr_or, zr_shl, q_cpy_n, y_cpy26, c_X5_isBuilding, sp_isBuilding, hst, and_self, if_true, Int.toNat_natCast, c_X0_housed, sp_housed]
    exact hq
def q_bdM (M : q_M) (b : Nat) (wt v : Int) : q_M := if wt = 0 then q_mvM M 11 b v (M (11 + 1) 5).toNat else if wt = 1 then q_upd M (11 + 2) b v else if wt = 2 then q_upd M (11 + 20) b v else q_upd M (11 + 21) b v
set_option maxHeartbeats 4000000 in
theorem sp_build {d : Nat} {g : q_G} {M : q_M} {b : Nat} {wt v : Int} {Q : Option q_V → q_G → q_M → Prop} (hb : b < 5) (h0 : 0 ≤ M (11 + 1) 5) (h5 : M (11 + 1) 5 ≤ 5) (hw : 0 ≤ wt ∧ wt ≤ 3) (hv : 0 ≤ v ∧ v ≤ 99) (h1 : wt = 1 → v ≤ 5 ∧ F_cnt (M (12 + 2)) b (M 12 5).toNat ≤ v) (hq : Q (some (qI (F_site (cW M 11) b wt))) g (q_bdM M b wt v)) : q_S 1 (d + 2) 64 [qR 5 0, qI b, qI wt, qI v] g M Q := by
  have hst : 0 ≤ (b : Int) ∧ (b : Int) < 5 := ⟨by omega, by omega⟩
  have g0 : 0 ≤ M 12 5 := h0
  have g5 : M 12 5 ≤ 5 := h5
  have hcn := F_cnt_le (M (12 + 2)) b (M 12 5).toNat
  have hs : ∀ Q : Option q_V → q_G → q_M → Prop, q_S 1 (d + 1) 65 [qR 5 0, qI b, qI wt] g M Q = Q (some (qI (F_site (cW M 11) b wt))) g M := sp_site hb h0 h5
  generalize F_site (cW M 11) b wt = F at hs hq
  unfold q_bdM at hq
  rw [s_X5_build]
  rcases (show wt = 0 ∨ wt = 1 ∨ wt = 2 ∨ wt = 3 by omega) with k | k | k | k
  · subst k
    rw [if_pos rfl] at hq
    simp (disch := omega) only [b_X5_build_0, x_loadI_1, y_if_ne_t, y_if_ne_f, b_X5_build_7, x_iconst, x_ret0, b_X5_build_10, x_loadI_2, y_if_lt_t, y_if_lt_f, b_X5_build_14, y_ic_gt_t, y_ic_gt_f, b_X5_build_19, x_loadI_3, b_X5_build_23, y_ic_le_t, y_ic_le_f, b_X5_build_29, b_X5_build_32, y_ic_ne_t, y_ic_ne_f, b_X5_build_37, b_X5_build_42, x_loadR_0, x_loadS_0, f_5_3, f_4_0, y_ic_ge_t, y_ic_ge_f, b_X5_build_57, b_X5_build_60, x_storeI_4, tw_2_0, tw_2_1, tw_2_2, tw_2_o, b_X5_build_96, x_goto, b_X5_build_108, f_0_0, y_iast_26, b_X5_build_124, f_4_2, b_X5_build_137, f_4_3, b_X5_build_147, x_loadI_4, q_isL_I, q_isL_R, q_isL_S, true_and, and_true, and_self, List.length_nil, List.length_cons, Nat.zero_add, x_K, x_Kn, Int.reduceToNat, Nat.reduceAdd, Nat.reduceMul, Nat.reduceLeDiff, Nat.reduceLT, Nat.zero_le, Int.reduceAdd, Int.reduceSub, Int.reduceMul, Int.reduceNeg, q_add_e, q_sub_e, q_mul_e, q_neg_e, q_upd_s, q_upd_n, zr_shr0, zr_shr1, zr_shr2, zr_shr3, zr_shr4, zr_and, zr_dyn8, zr_or, zr_shl, q_cpy_n, y_cpy26, c_X5_isBuilding, sp_isBuilding, hst, and_self, if_true, Int.toNat_natCast, c_X5_site, hs, c_X4_move]
    refine sp_move h0 h5 hb ?_
    simp (disch := omega) only [b_X5_build_0, x_loadI_1, y_if_ne_t, y_if_ne_f, b_X5_build_7, x_iconst, x_ret0, b_X5_build_10, x_loadI_2, y_if_lt_t, y_if_lt_f, b_X5_build_14, y_ic_gt_t, y_ic_gt_f, b_X5_build_19, x_loadI_3, b_X5_build_23, y_ic_le_t, y_ic_le_f, b_X5_build_29, b_X5_build_32, y_ic_ne_t, y_ic_ne_f, b_X5_build_37, b_X5_build_42, x_loadR_0, x_loadS_0, f_5_3, f_4_0, y_ic_ge_t, y_ic_ge_f, b_X5_build_57, b_X5_build_60, x_storeI_4, tw_2_0, tw_2_1, tw_2_2, tw_2_o, b_X5_build_96, x_goto, b_X5_build_108, f_0_0, y_iast_26, b_X5_build_124, f_4_2, b_X5_build_137, f_4_3, b_X5_build_147, x_loadI_4, q_isL_I, q_isL_R, q_isL_S, true_and, and_true, and_self, List.length_nil, List.length_cons, Nat.zero_add, x_K, x_Kn, Int.reduceToNat, Nat.reduceAdd, Nat.reduceMul, Nat.reduceLeDiff, Nat.reduceLT, Nat.zero_le, Int.reduceAdd, Int.reduceSub, Int.reduceMul, Int.reduceNeg, q_add_e, q_sub_e, q_mul_e, q_neg_e, q_upd_s, q_upd_n, zr_shr0, zr_shr1, zr_shr2, zr_shr3, zr_shr4, zr_and, zr_dyn8, zr_or, zr_shl, q_cpy_n, y_cpy26, c_X5_isBuilding, sp_isBuilding, hst, and_self, if_true, Int.toNat_natCast]
    exact hq
  · subst k
    have h2 := (h1 rfl).1
    have h3 : F_cnt (M 14) b (M 12 5).toNat ≤ v := (h1 rfl).2
    clear h1
    rw [if_neg (by decide), if_pos rfl] at hq
    simp (disch := omega) only [b_X5_build_0, x_loadI_1, y_if_ne_t, y_if_ne_f, b_X5_build_7, x_iconst, x_ret0, b_X5_build_10, x_loadI_2, y_if_lt_t, y_if_lt_f, b_X5_build_14, y_ic_gt_t, y_ic_gt_f, b_X5_build_19, x_loadI_3, b_X5_build_23, y_ic_le_t, y_ic_le_f, b_X5_build_29, b_X5_build_32, y_ic_ne_t, y_ic_ne_f, b_X5_build_37, b_X5_build_42, x_loadR_0, x_loadS_0, f_5_3, f_4_0, y_ic_ge_t, y_ic_ge_f, b_X5_build_57, b_X5_build_60, x_storeI_4, tw_2_0, tw_2_1, tw_2_2, tw_2_o, b_X5_build_96, x_goto, b_X5_build_108, f_0_0, y_iast_26, b_X5_build_124, f_4_2, b_X5_build_137, f_4_3, b_X5_build_147, x_loadI_4, q_isL_I, q_isL_R, q_isL_S, true_and, and_true, and_self, List.length_nil, List.length_cons, Nat.zero_add, x_K, x_Kn, Int.reduceToNat, Nat.reduceAdd, Nat.reduceMul, Nat.reduceLeDiff, Nat.reduceLT, Nat.zero_le, Int.reduceAdd, Int.reduceSub, Int.reduceMul, Int.reduceNeg, q_add_e, q_sub_e, q_mul_e, q_neg_e, q_upd_s, q_upd_n, zr_shr0, zr_shr1, zr_shr2, zr_shr3, zr_shr4, zr_and, zr_dyn8, zr_or, zr_shl, q_cpy_n, y_cpy26, c_X5_isBuilding, sp_isBuilding, hst, and_self, if_true, Int.toNat_natCast, c_X5_site, hs, c_X0_housed, sp_housed]
    exact hq
  · subst k
    rw [if_neg (by decide), if_neg (by decide), if_pos rfl] at hq
    simp (disch := omega) only [b_X5_build_0, x_loadI_1, y_if_ne_t, y_if_ne_f, b_X5_build_7, x_iconst, x_ret0, b_X5_build_10, x_loadI_2, y_if_lt_t, y_if_lt_f, b_X5_build_14, y_ic_gt_t, y_ic_gt_f, b_X5_build_19, x_loadI_3, b_X5_build_23, y_ic_le_t, y_ic_le_f, b_X5_build_29, b_X5_build_32, y_ic_ne_t, y_ic_ne_f, b_X5_build_37, b_X5_build_42, x_loadR_0, x_loadS_0, f_5_3, f_4_0, y_ic_ge_t, y_ic_ge_f, b_X5_build_57, b_X5_build_60, x_storeI_4, tw_2_0, tw_2_1, tw_2_2, tw_2_o, b_X5_build_96, x_goto, b_X5_build_108, f_0_0, y_iast_26, b_X5_build_124, f_4_2, b_X5_build_137, f_4_3, b_X5_build_147, x_loadI_4, q_isL_I, q_isL_R, q_isL_S, true_and, and_true, and_self, List.length_nil, List.length_cons, Nat.zero_add, x_K, x_Kn, Int.reduceToNat, Nat.reduceAdd, Nat.reduceMul, Nat.reduceLeDiff, Nat.reduceLT, Nat.zero_le, Int.reduceAdd, Int.reduceSub, Int.reduceMul, Int.reduceNeg, q_add_e, q_sub_e, q_mul_e, q_neg_e, q_upd_s, q_upd_n, zr_shr0, zr_shr1, zr_shr2, zr_shr3, zr_shr4, zr_and, zr_dyn8, zr_or, zr_shl, q_cpy_n, y_cpy26, c_X5_isBuilding, sp_isBuilding, hst, and_self, if_true, Int.toNat_natCast, c_X5_site, hs]
    exact hq
  · subst k
    rw [if_neg (by decide), if_neg (by decide), if_neg (by decide)] at hq
    simp (disch := omega) only [b_X5_build_0, x_loadI_1, y_if_ne_t, y_if_ne_f, b_X5_build_7, x_iconst, x_ret0, b_X5_build_10, x_loadI_2, y_if_lt_t, y_if_lt_f, b_X5_build_14, y_ic_gt_t, y_ic_gt_f, b_X5_build_19, x_loadI_3, b_X5_build_23, y_ic_le_t, y_ic_le_f, b_X5_build_29, b_X5_build_32, y_ic_ne_t, y_ic_ne_f, b_X5_build_37, b_X5_build_42, x_loadR_0, x_loadS_0, f_5_3, f_4_0, y_ic_ge_t, y_ic_ge_f, b_X5_build_57, b_X5_build_60, x_storeI_4, tw_2_0, tw_2_1, tw_2_2, tw_2_o, b_X5_build_96, x_goto, b_X5_build_108, f_0_0, y_iast_26, b_X5_build_124, f_4_2, b_X5_build_137, f_4_3, b_X5_build_147, x_loadI_4, q_isL_I, q_isL_R, q_isL_S, true_and, and_true, and_self, List.length_nil, List.length_cons, Nat.zero_add, x_K, x_Kn, Int.reduceToNat, Nat.reduceAdd, Nat.reduceMul, Nat.reduceLeDiff, Nat.reduceLT, Nat.zero_le, Int.reduceAdd, Int.reduceSub, Int.reduceMul, Int.reduceNeg, q_add_e, q_sub_e, q_mul_e, q_neg_e, q_upd_s, q_upd_n, zr_shr0, zr_shr1, zr_shr2, zr_shr3, zr_shr4, zr_and, zr_dyn8, zr_or, zr_shl, q_cpy_n, y_cpy26, c_X5_isBuilding, sp_isBuilding, hst, and_self, if_true, Int.toNat_natCast, c_X5_site, hs]
    exact hq
theorem sp_asks {V : Nat → (Nat → Int) → Int} {d : Nat} {g : q_G} {M : q_M} {ta part p : Nat} {b : Int} {Q : Option q_V → q_G → q_M → Prop} (hw : q_wl V M 11 ta) (hpt : part < 3) (hp : p < (M (11 + 1) 5).toNat) (hb : b = -1 ∨ (0 ≤ b ∧ b < 5)) (hq : ∀ M2 : q_M, q_fwd 11 ta M M2 → Q (some (qI (F_says V (cW M 11) part p (if b = -1 then 5 else b.toNat)))) g M2) : q_S 1 (d + 2) 69 [qR 5 0, qI part, qI p, qI b] g M Q := by
  have hst : 0 ≤ (p : Int) ∧ (p : Int) < M 12 5 := ⟨by omega, by have h : p < (M 12 5).toNat := hp; omega⟩
  rw [s_X5_asks]
  rcases hb with hb | hb
  · subst hb
    rw [if_pos rfl] at hq
    simp (disch := omega) only [b_X5_asks_0, x_loadI_1, y_if_lt_t, y_if_lt_f, b_X5_asks_4, x_iconst, y_ic_ge_t, y_ic_ge_f, b_X5_asks_9, x_loadR_0, x_loadS_0, x_loadI_2, y_if_eq_t, y_if_eq_f, b_X5_asks_17, x_loadI_3, y_ic_eq_t, y_ic_eq_f, b_X5_asks_22, y_if_ne_t, y_if_ne_f, b_X5_asks_29, x_ret0, b_X5_asks_33, f_5_3, y_ic_ne_t, y_ic_ne_f, b_X5_asks_44, x_goto, b_X5_asks_48, b_X5_asks_49, q_isL_I, q_isL_R, q_isL_S, true_and, and_true, and_self, List.length_nil, List.length_cons, Nat.zero_add, x_K, x_Kn, Int.reduceToNat, Nat.reduceAdd, Nat.reduceMul, Nat.reduceLeDiff, Nat.reduceLT, Nat.zero_le, Int.reduceAdd, Int.reduceSub, Int.reduceMul, Int.reduceNeg, q_add_e, q_sub_e, q_mul_e, q_neg_e, q_upd_s, q_upd_n, zr_shr0, zr_shr1, zr_shr2, zr_shr3, zr_shr4, zr_and, zr_dyn8, zr_or, zr_shl, q_cpy_n, y_cpy26, c_X5_isStone, sp_isStone, hst, and_self, if_true, Int.toNat_natCast, c_X4_says]
    refine sp_says (b := 5) hw hpt hp (by omega) (fun M2 h2 => ?_)
    simp (disch := omega) only [b_X5_asks_0, x_loadI_1, y_if_lt_t, y_if_lt_f, b_X5_asks_4, x_iconst, y_ic_ge_t, y_ic_ge_f, b_X5_asks_9, x_loadR_0, x_loadS_0, x_loadI_2, y_if_eq_t, y_if_eq_f, b_X5_asks_17, x_loadI_3, y_ic_eq_t, y_ic_eq_f, b_X5_asks_22, y_if_ne_t, y_if_ne_f, b_X5_asks_29, x_ret0, b_X5_asks_33, f_5_3, y_ic_ne_t, y_ic_ne_f, b_X5_asks_44, x_goto, b_X5_asks_48, b_X5_asks_49, q_isL_I, q_isL_R, q_isL_S, true_and, and_true, and_self, List.length_nil, List.length_cons, Nat.zero_add, x_K, x_Kn, Int.reduceToNat, Nat.reduceAdd, Nat.reduceMul, Nat.reduceLeDiff, Nat.reduceLT, Nat.zero_le, Int.reduceAdd, Int.reduceSub, Int.reduceMul, Int.reduceNeg, q_add_e, q_sub_e, q_mul_e, q_neg_e, q_upd_s, q_upd_n, zr_shr0, zr_shr1, zr_shr2, zr_shr3, zr_shr4, zr_and, zr_dyn8, zr_or, zr_shl, q_cpy_n, y_cpy26]
    exact hq M2 h2
  · obtain ⟨n, rfl⟩ : ∃ n : Nat, b = n := ⟨b.toNat, by omega⟩
    rw [if_neg (by omega), Int.toNat_natCast] at hq
    simp (disch := omega) only [b_X5_asks_0, x_loadI_1, y_if_lt_t, y_if_lt_f, b_X5_asks_4, x_iconst, y_ic_ge_t, y_ic_ge_f, b_X5_asks_9, x_loadR_0, x_loadS_0, x_loadI_2, y_if_eq_t, y_if_eq_f, b_X5_asks_17, x_loadI_3, y_ic_eq_t, y_ic_eq_f, b_X5_asks_22, y_if_ne_t, y_if_ne_f, b_X5_asks_29, x_ret0, b_X5_asks_33, f_5_3, y_ic_ne_t, y_ic_ne_f, b_X5_asks_44, x_goto, b_X5_asks_48, b_X5_asks_49, q_isL_I, q_isL_R, q_isL_S, true_and, and_true, and_self, List.length_nil, List.length_cons, Nat.zero_add, x_K, x_Kn, Int.reduceToNat, Nat.reduceAdd, Nat.reduceMul, Nat.reduceLeDiff, Nat.reduceLT, Nat.zero_le, Int.reduceAdd, Int.reduceSub, Int.reduceMul, Int.reduceNeg, q_add_e, q_sub_e, q_mul_e, q_neg_e, q_upd_s, q_upd_n, zr_shr0, zr_shr1, zr_shr2, zr_shr3, zr_shr4, zr_and, zr_dyn8, zr_or, zr_shl, q_cpy_n, y_cpy26, c_X5_isStone, sp_isStone, hst, hb, c_X5_isBuilding, sp_isBuilding, and_self, if_true, Int.toNat_natCast, c_X4_says]
    refine sp_says hw hpt hp (by omega) (fun M2 h2 => ?_)
    simp (disch := omega) only [b_X5_asks_0, x_loadI_1, y_if_lt_t, y_if_lt_f, b_X5_asks_4, x_iconst, y_ic_ge_t, y_ic_ge_f, b_X5_asks_9, x_loadR_0, x_loadS_0, x_loadI_2, y_if_eq_t, y_if_eq_f, b_X5_asks_17, x_loadI_3, y_ic_eq_t, y_ic_eq_f, b_X5_asks_22, y_if_ne_t, y_if_ne_f, b_X5_asks_29, x_ret0, b_X5_asks_33, f_5_3, y_ic_ne_t, y_ic_ne_f, b_X5_asks_44, x_goto, b_X5_asks_48, b_X5_asks_49, q_isL_I, q_isL_R, q_isL_S, true_and, and_true, and_self, List.length_nil, List.length_cons, Nat.zero_add, x_K, x_Kn, Int.reduceToNat, Nat.reduceAdd, Nat.reduceMul, Nat.reduceLeDiff, Nat.reduceLT, Nat.zero_le, Int.reduceAdd, Int.reduceSub, Int.reduceMul, Int.reduceNeg, q_add_e, q_sub_e, q_mul_e, q_neg_e, q_upd_s, q_upd_n, zr_shr0, zr_shr1, zr_shr2, zr_shr3, zr_shr4, zr_and, zr_dyn8, zr_or, zr_shl, q_cpy_n, y_cpy26]
    exact hq M2 h2
end
section
/-! THE CLASS'S ENTRIES: love; the thought -/
theorem sp_love {V : Nat → (Nat → Int) → Int} {d : Nat} {g : q_G} {M : q_M} {ta p b : Nat} {wt : Int} {Q : Option q_V → q_G → q_M → Prop} (hw : q_wl V M 11 ta) (hp : p < (M (11 + 1) 5).toNat) (hb : b < 5) (hq : ∀ M2 : q_M, q_fwd 11 ta M M2 → Q (some (qI (if wt = 0 then F_likes V (cW M 11) p b else if wt = 1 then F_wants V (cW M 11) p b else -7000))) g M2) : q_S 1 (d + 3) 73 [qR 5 0, qI p, qI b, qI wt] g M Q := by
  have hst : 0 ≤ (p : Int) ∧ (p : Int) < M 12 5 := ⟨by omega, by have h : p < (M 12 5).toNat := hp; omega⟩
  have hsb : 0 ≤ (b : Int) ∧ (b : Int) < 5 := ⟨by omega, by omega⟩
  rw [s_X5_love]
  by_cases k0 : wt = 0
  · rw [if_pos k0] at hq
    simp (disch := omega) only [b_X5_love_0, x_loadR_0, x_loadS_0, x_loadI_1, y_if_eq_t, y_if_eq_f, b_X5_love_8, x_loadI_2, y_if_ne_t, y_if_ne_f, b_X5_love_15, x_iconst, x_ret0, b_X5_love_19, x_loadI_3, tw_5_0, tw_5_1, tw_5_o, b_X5_love_48, f_5_3, b_X5_love_58, b_X5_love_68, q_isL_I, q_isL_R, q_isL_S, true_and, and_true, and_self, List.length_nil, List.length_cons, Nat.zero_add, x_K, x_Kn, Int.reduceToNat, Nat.reduceAdd, Nat.reduceMul, Nat.reduceLeDiff, Nat.reduceLT, Nat.zero_le, Int.reduceAdd, Int.reduceSub, Int.reduceMul, Int.reduceNeg, q_add_e, q_sub_e, q_mul_e, q_neg_e, q_upd_s, q_upd_n, zr_shr0, zr_shr1, zr_shr2, zr_shr3, zr_shr4, zr_and, zr_dyn8, zr_or, zr_shl, q_cpy_n, y_cpy26, c_X5_isStone, sp_isStone, hst, c_X5_isBuilding, sp_isBuilding, hsb, and_self, if_true, Int.toNat_natCast, c_X4_likes, k0]
    refine sp_likes hw hp hb (fun M2 h2 => ?_)
    simp (disch := omega) only [b_X5_love_0, x_loadR_0, x_loadS_0, x_loadI_1, y_if_eq_t, y_if_eq_f, b_X5_love_8, x_loadI_2, y_if_ne_t, y_if_ne_f, b_X5_love_15, x_iconst, x_ret0, b_X5_love_19, x_loadI_3, tw_5_0, tw_5_1, tw_5_o, b_X5_love_48, f_5_3, b_X5_love_58, b_X5_love_68, q_isL_I, q_isL_R, q_isL_S, true_and, and_true, and_self, List.length_nil, List.length_cons, Nat.zero_add, x_K, x_Kn, Int.reduceToNat, Nat.reduceAdd, Nat.reduceMul, Nat.reduceLeDiff, Nat.reduceLT, Nat.zero_le, Int.reduceAdd, Int.reduceSub, Int.reduceMul, Int.reduceNeg, q_add_e, q_sub_e, q_mul_e, q_neg_e, q_upd_s, q_upd_n, zr_shr0, zr_shr1, zr_shr2, zr_shr3, zr_shr4, zr_and, zr_dyn8, zr_or, zr_shl, q_cpy_n, y_cpy26]
    exact hq M2 h2
  rw [if_neg k0] at hq
  by_cases k1 : wt = 1
  · rw [if_pos k1] at hq
    simp (disch := omega) only [b_X5_love_0, x_loadR_0, x_loadS_0, x_loadI_1, y_if_eq_t, y_if_eq_f, b_X5_love_8, x_loadI_2, y_if_ne_t, y_if_ne_f, b_X5_love_15, x_iconst, x_ret0, b_X5_love_19, x_loadI_3, tw_5_0, tw_5_1, tw_5_o, b_X5_love_48, f_5_3, b_X5_love_58, b_X5_love_68, q_isL_I, q_isL_R, q_isL_S, true_and, and_true, and_self, List.length_nil, List.length_cons, Nat.zero_add, x_K, x_Kn, Int.reduceToNat, Nat.reduceAdd, Nat.reduceMul, Nat.reduceLeDiff, Nat.reduceLT, Nat.zero_le, Int.reduceAdd, Int.reduceSub, Int.reduceMul, Int.reduceNeg, q_add_e, q_sub_e, q_mul_e, q_neg_e, q_upd_s, q_upd_n, zr_shr0, zr_shr1, zr_shr2, zr_shr3, zr_shr4, zr_and, zr_dyn8, zr_or, zr_shl, q_cpy_n, y_cpy26, c_X5_isStone, sp_isStone, hst, c_X5_isBuilding, sp_isBuilding, hsb, and_self, if_true, Int.toNat_natCast, c_X4_wants, k1]
    refine sp_wants hw hp hb (fun M2 h2 => ?_)
    simp (disch := omega) only [b_X5_love_0, x_loadR_0, x_loadS_0, x_loadI_1, y_if_eq_t, y_if_eq_f, b_X5_love_8, x_loadI_2, y_if_ne_t, y_if_ne_f, b_X5_love_15, x_iconst, x_ret0, b_X5_love_19, x_loadI_3, tw_5_0, tw_5_1, tw_5_o, b_X5_love_48, f_5_3, b_X5_love_58, b_X5_love_68, q_isL_I, q_isL_R, q_isL_S, true_and, and_true, and_self, List.length_nil, List.length_cons, Nat.zero_add, x_K, x_Kn, Int.reduceToNat, Nat.reduceAdd, Nat.reduceMul, Nat.reduceLeDiff, Nat.reduceLT, Nat.zero_le, Int.reduceAdd, Int.reduceSub, Int.reduceMul, Int.reduceNeg, q_add_e, q_sub_e, q_mul_e, q_neg_e, q_upd_s, q_upd_n, zr_shr0, zr_shr1, zr_shr2, zr_shr3, zr_shr4, zr_and, zr_dyn8, zr_or, zr_shl, q_cpy_n, y_cpy26]
    exact hq M2 h2
  · rw [if_neg k1] at hq
    simp (disch := omega) only [b_X5_love_0, x_loadR_0, x_loadS_0, x_loadI_1, y_if_eq_t, y_if_eq_f, b_X5_love_8, x_loadI_2, y_if_ne_t, y_if_ne_f, b_X5_love_15, x_iconst, x_ret0, b_X5_love_19, x_loadI_3, tw_5_0, tw_5_1, tw_5_o, b_X5_love_48, f_5_3, b_X5_love_58, b_X5_love_68, q_isL_I, q_isL_R, q_isL_S, true_and, and_true, and_self, List.length_nil, List.length_cons, Nat.zero_add, x_K, x_Kn, Int.reduceToNat, Nat.reduceAdd, Nat.reduceMul, Nat.reduceLeDiff, Nat.reduceLT, Nat.zero_le, Int.reduceAdd, Int.reduceSub, Int.reduceMul, Int.reduceNeg, q_add_e, q_sub_e, q_mul_e, q_neg_e, q_upd_s, q_upd_n, zr_shr0, zr_shr1, zr_shr2, zr_shr3, zr_shr4, zr_and, zr_dyn8, zr_or, zr_shl, q_cpy_n, y_cpy26, c_X5_isStone, sp_isStone, hst, c_X5_isBuilding, sp_isBuilding, hsb, and_self, if_true, Int.toNat_natCast]
    exact hq M q_fwd_rf
/-- years one after another -/
def F_ys (V : Nat → (Nat → Int) → Int) (S : q_M) : Nat → q_M
  | 0 => S
  | n + 1 => (F_year V (F_ys V S n)).2
/-- what a thought changes: its own cells and the text's stack -/
def q_th (ta : Nat) (M M2 : q_M) : Prop := ∀ a i, (a < 38 ∨ 65 ≤ a ∨ (5 ≤ i ∧ 40 ≤ a ∧ a < 64)) → a ≠ ta + 2 → M2 a i = M a i
theorem q_th_rf {ta : Nat} {M : q_M} : q_th ta M M := fun _ _ _ _ => rfl
theorem q_th_tr {ta : Nat} {M M2 M3 : q_M} (h : q_th ta M M2) (h2 : q_th ta M2 M3) : q_th ta M M3 := fun a i h3 h4 => (h2 a i h3 h4).trans (h a i h3 h4)
theorem q_th_yn {ta : Nat} {M M2 : q_M} (h : q_yn 38 ta M M2) : q_th ta M M2 := fun a i h1 h2 => h a i (by omega) (by omega) h2 (fun _ => by omega)
theorem q_th_cpd {ta : Nat} {M M2 : q_M} (h : q_cpd 38 11 M M2) : q_th ta M M2 := fun a i h1 _ => h.2.2.2.2 a i (by omega)
end
section
/-! THE CLASS'S ENTRIES: years of a thought -/
theorem q_wl_eq {V : Nat → (Nat → Int) → Int} {w ta : Nat} {M M2 : q_M} (h : ∀ a i, ((w ≤ a ∧ a ≤ w + 25) ∨ a + 1 = ta ∨ a = ta ∨ a = ta + 1) → M2 a i = M a i) (hw : q_wl V M w ta) : q_wl V M2 w ta := by
  obtain ⟨h1, h2, h3, h4, h5, h6⟩ := hw
  have e : ∀ a i, w ≤ a → a ≤ w + 25 → M2 a i = M a i := fun a i q1 q2 => h a i (Or.inl ⟨q1, q2⟩)
  refine ⟨?_, h2, fun M' hM => h3 M' (fun a i ha => (hM a i ha).trans (h a i (Or.inr ha))), (e w 10 (by omega) (by omega)).trans h4, h5, h6⟩
  unfold q_rgW at h1 ⊢
  simp only [fun i => e w i (by omega) (by omega), fun i => e (w + 1) i (by omega) (by omega), fun i => e (w + 2) i (by omega) (by omega), fun i => e (w + 3) i (by omega) (by omega), fun i => e (w + 19) i (by omega) (by omega), fun i => e (w + 20) i (by omega) (by omega), fun i => e (w + 21) i (by omega) (by omega), fun i => e (w + 22) i (by omega) (by omega), fun i => e (w + 23) i (by omega) (by omega), fun i => e (w + 24) i (by omega) (by omega), fun i => e (w + 25) i (by omega) (by omega)]
  exact h1
/-- a thought begun: as now, by the same law -/
theorem q_think {V : Nat → (Nat → Int) → Int} {ta : Nat} {M M2 : q_M} (ht : ta = 8 ∨ 125 ≤ ta) (hw : q_wl V M 11 ta) (hr : q_rg5 M 38) (h : q_cpd 38 11 M M2) : q_wl V M2 38 ta ∧ cW M2 38 = cW M 11 ∧ M2 38 9 = M 11 9 := ⟨q_cpd_wl hw hr (by omega) h, q_cpd_cW hw.1.1.2 h, h.2.2.1⟩
theorem F_year_y {V : Nat → (Nat → Int) → Int} {w : Nat} {M M2 : q_M} (h : cW M2 w = (F_year V (cW M w)).2) : M2 w 9 = M w 9 + 1 := by
  rw [← cW_91 (M := M2) (w := w), h]
  show q_upd (F_yr V (cW M w) (F_n (cW M w))).2 9 1 (cW M w 9 1 + 1) 9 1 = M w 9 + 1
  rw [q_upd_s, cW_91]
set_option maxHeartbeats 4000000 in
theorem sp_runL {V : Nat → (Nat → Int) → Int} {d : Nat} {g : q_G} {M S : q_M} {ta n : Nat} {wt : Int} {l3 : q_V} {Q : Option q_V → q_G → q_M → Prop} (hn : n ≤ 1000) (hl3 : q_isL l3 = false) (hq : ∀ M2 : q_M, q_wl V M2 38 ta → cW M2 38 = F_ys V S n → q_th ta M M2 → q_T 1 (d + 5) qP_X5_run 80 [] [qR 5 0, qI n, qI wt, l3, qI n] [] g M2 Q) : ∀ j i : Nat, i + j = n → ∀ M1 : q_M, q_wl V M1 38 ta → cW M1 38 = F_ys V S i → (∀ p, p < 5 → M1 (38 + 1 + 3 + (1 + p)) 5 = 0) → M1 38 9 + j ≤ 2000 → q_th ta M M1 → q_T 1 (d + 5) qP_X5_run 60 [] [qR 5 0, qI n, qI wt, l3, qI i] [] g M1 Q := by
  intro j
  induction j with
  | zero =>
    intro i hi M1 hw hc hz hy hf
    have e : i = n := by omega
    subst e
    rw [b_X5_run_60]
    simp (disch := omega) only [b_X5_run_0, x_loadI_1, y_if_lt_t, y_if_lt_f, b_X5_run_4, x_iconst, y_ic_le_t, y_ic_le_f, b_X5_run_10, x_ret0, b_X5_run_13, x_loadI_2, y_if_eq_t, y_if_eq_f, b_X5_run_17, y_ic_ne_t, y_ic_ne_f, b_X5_run_22, x_goto, b_X5_run_26, b_X5_run_27, x_storeI_3, x_loadI_3, y_if_ne_t, y_if_ne_f, b_X5_run_32, x_loadR_0, x_loadS_0, x_isub, b_X5_run_43, b_X5_run_46, f_5_4, f_5_3, x_storeI_4, x_loadI_4, y_ic_ge_t, y_ic_ge_f, b_X5_run_66, x_popI, x_popR, x_iinc_4, b_X5_run_84, b_X5_run_88, f_4_0, b_X5_run_101, b_X5_run_111, b_X5_run_112, f_4_6, y_iald_26, q_isL_I, q_isL_R, q_isL_S, true_and, and_true, and_self, List.length_nil, List.length_cons, Nat.zero_add, x_K, x_Kn, Int.reduceToNat, Nat.reduceAdd, Nat.reduceMul, Nat.reduceLeDiff, Nat.reduceLT, Nat.zero_le, Int.reduceAdd, Int.reduceSub, Int.reduceMul, Int.reduceNeg, q_add_e, q_sub_e, q_mul_e, q_neg_e, q_upd_s, q_upd_n, zr_shr0, zr_shr1, zr_shr2, zr_shr3, zr_shr4, zr_and, zr_dyn8, zr_or, zr_shl, q_cpy_n, y_cpy26]
    exact hq M1 hw hc hf
  | succ j ih =>
    intro i hi M1 hw hc hz hy hf
    rw [b_X5_run_60]
    simp (disch := omega) only [b_X5_run_0, x_loadI_1, y_if_lt_t, y_if_lt_f, b_X5_run_4, x_iconst, y_ic_le_t, y_ic_le_f, b_X5_run_10, x_ret0, b_X5_run_13, x_loadI_2, y_if_eq_t, y_if_eq_f, b_X5_run_17, y_ic_ne_t, y_ic_ne_f, b_X5_run_22, x_goto, b_X5_run_26, b_X5_run_27, x_storeI_3, x_loadI_3, y_if_ne_t, y_if_ne_f, b_X5_run_32, x_loadR_0, x_loadS_0, x_isub, b_X5_run_43, b_X5_run_46, f_5_4, f_5_3, x_storeI_4, x_loadI_4, y_ic_ge_t, y_ic_ge_f, b_X5_run_66, x_popI, x_popR, x_iinc_4, b_X5_run_84, b_X5_run_88, f_4_0, b_X5_run_101, b_X5_run_111, b_X5_run_112, f_4_6, y_iald_26, q_isL_I, q_isL_R, q_isL_S, true_and, and_true, and_self, List.length_nil, List.length_cons, Nat.zero_add, x_K, x_Kn, Int.reduceToNat, Nat.reduceAdd, Nat.reduceMul, Nat.reduceLeDiff, Nat.reduceLT, Nat.zero_le, Int.reduceAdd, Int.reduceSub, Int.reduceMul, Int.reduceNeg, q_add_e, q_sub_e, q_mul_e, q_neg_e, q_upd_s, q_upd_n, zr_shr0, zr_shr1, zr_shr2, zr_shr3, zr_shr4, zr_and, zr_dyn8, zr_or, zr_shl, q_cpy_n, y_cpy26, c_X4_passYear]
    refine sp_passYear hw hz (by omega) (fun M2 h1 h2 h3 => ?_)
    have hy2 := F_year_y h2
    simp (disch := omega) only [b_X5_run_0, x_loadI_1, y_if_lt_t, y_if_lt_f, b_X5_run_4, x_iconst, y_ic_le_t, y_ic_le_f, b_X5_run_10, x_ret0, b_X5_run_13, x_loadI_2, y_if_eq_t, y_if_eq_f, b_X5_run_17, y_ic_ne_t, y_ic_ne_f, b_X5_run_22, x_goto, b_X5_run_26, b_X5_run_27, x_storeI_3, x_loadI_3, y_if_ne_t, y_if_ne_f, b_X5_run_32, x_loadR_0, x_loadS_0, x_isub, b_X5_run_43, b_X5_run_46, f_5_4, f_5_3, x_storeI_4, x_loadI_4, y_ic_ge_t, y_ic_ge_f, b_X5_run_66, x_popI, x_popR, x_iinc_4, b_X5_run_84, b_X5_run_88, f_4_0, b_X5_run_101, b_X5_run_111, b_X5_run_112, f_4_6, y_iald_26, q_isL_I, q_isL_R, q_isL_S, true_and, and_true, and_self, List.length_nil, List.length_cons, Nat.zero_add, x_K, x_Kn, Int.reduceToNat, Nat.reduceAdd, Nat.reduceMul, Nat.reduceLeDiff, Nat.reduceLT, Nat.zero_le, Int.reduceAdd, Int.reduceSub, Int.reduceMul, Int.reduceNeg, q_add_e, q_sub_e, q_mul_e, q_neg_e, q_upd_s, q_upd_n, zr_shr0, zr_shr1, zr_shr2, zr_shr3, zr_shr4, zr_and, zr_dyn8, zr_or, zr_shl, q_cpy_n, y_cpy26, hl3]
    exact ih (i + 1) (by omega) M2 h1 (by rw [h2, hc]; rfl) (fun p hp => (h3 _ 5 (by omega) (by omega) (by have h := hw.2.2.2.2.2; have h9 := hf; omega) (by omega)).trans (hz p hp)) (by omega) (q_th_tr hf (q_th_yn h3))
end
section
/-! THE CLASS'S ENTRIES: run -/
def q_rnA (M : q_M) (wt : Int) : Int := if wt = 0 then F_dig (M (39 + 2)) (M 39 5).toNat else if wt = 1 then F_cnt (M (39 + 2)) 5 (M 39 5).toNat else M (38 + 24) (wt - 10).toNat
set_option maxHeartbeats 4000000 in
theorem sp_run {V : Nat → (Nat → Int) → Int} {d : Nat} {g : q_G} {M : q_M} {ta n : Nat} {wt : Int} {Q : Option q_V → q_G → q_M → Prop} (ht : ta = 8 ∨ 125 ≤ ta) (hw : q_wl V M 11 ta) (hr : q_rg5 M 38) (hz : ∀ p, p < 5 → M (38 + 1 + 3 + (1 + p)) 5 = 0) (hy : M 11 9 ≤ 999) (hn : n ≤ 40) (hwt : wt = 0 ∨ wt = 1 ∨ (0 ≤ wt - 10 ∧ wt - 10 < M 12 5)) (hq : ∀ M2 : q_M, q_th ta M M2 → q_wl V M2 38 ta → cW M2 38 = F_ys V (cW M 11) n → Q (some (qI (q_rnA M2 wt))) g M2) : q_S 1 (d + 5) 75 [qR 5 0, qI n, qI wt] g M Q := by
  have hla := hw.2.2.2.1
  have hta := hw.2.2.2.2.1
  have h12 : M 12 5 ≤ 5 := hw.1.1.2
  have copy : ∀ (nx : Nat) (ops : List Instr) (ls st : List q_V), (∀ M2 : q_M, q_cpd 38 11 M M2 → q_T 1 (d + 5) qP_X5_run nx ops ls st g M2 Q) → q_S 1 (d + 4) 49 [qR 4 38, qR 4 11] g M (q_K 1 (d + 5) qP_X5_run nx ops ls st Q) := fun nx ops ls st h => sp_copyFrom (by omega) hla hta h
  have body : ∀ l3 : Int, l3 = (if wt = 0 ∨ wt = 1 then 1 else 0) → ∀ M2 : q_M, q_cpd 38 11 M M2 → q_T 1 (d + 5) qP_X5_run 60 [] [qR 5 0, qI n, qI wt, qI l3, qI 0] [] g M2 Q := by
    intro l3 hl3 M2 h2
    obtain ⟨t1, t2, t3⟩ := q_think ht hw hr h2
    refine sp_runL (S := cW M 11) (V := V) (ta := ta) (M := M) (by omega) (q_isL_I) (fun M3 h3 h4 h5 => ?_) n 0 (by omega) M2 t1 t2 (fun p hp => (h2.2.2.2.2 _ 5 (by omega)).trans (hz p hp)) (by omega) (q_th_cpd h2)
    have a := hq M3 h5 h3 h4
    have b0 : 0 ≤ M3 39 5 := h3.1.1.1
    have b1 : M3 39 5 ≤ 5 := h3.1.1.2
    have b2 : ∀ i, 0 ≤ M3 (39 + 2) i ∧ M3 (39 + 2) i ≤ 5 := h3.1.2.2.2.2.2.2.1
    unfold q_rnA at a
    rw [b_X5_run_80]
    by_cases k0 : wt = 0
    · subst k0
      rw [if_pos (Or.inl rfl)] at hl3
      subst hl3
      rw [if_pos rfl] at a
      simp (disch := omega) only [b_X5_run_0, x_loadI_1, y_if_lt_t, y_if_lt_f, b_X5_run_4, x_iconst, y_ic_le_t, y_ic_le_f, b_X5_run_10, x_ret0, b_X5_run_13, x_loadI_2, y_if_eq_t, y_if_eq_f, b_X5_run_17, y_ic_ne_t, y_ic_ne_f, b_X5_run_22, x_goto, b_X5_run_26, b_X5_run_27, x_storeI_3, x_loadI_3, y_if_ne_t, y_if_ne_f, b_X5_run_32, x_loadR_0, x_loadS_0, x_isub, b_X5_run_43, b_X5_run_46, f_5_4, f_5_3, x_storeI_4, x_loadI_4, y_ic_ge_t, y_ic_ge_f, b_X5_run_66, x_popI, x_popR, x_iinc_4, b_X5_run_84, b_X5_run_88, f_4_0, b_X5_run_101, b_X5_run_111, b_X5_run_112, f_4_6, y_iald_26, q_isL_I, q_isL_R, q_isL_S, true_and, and_true, and_self, List.length_nil, List.length_cons, Nat.zero_add, x_K, x_Kn, Int.reduceToNat, Nat.reduceAdd, Nat.reduceMul, Nat.reduceLeDiff, Nat.reduceLT, Nat.zero_le, Int.reduceAdd, Int.reduceSub, Int.reduceMul, Int.reduceNeg, q_add_e, q_sub_e, q_mul_e, q_neg_e, q_upd_s, q_upd_n, zr_shr0, zr_shr1, zr_shr2, zr_shr3, zr_shr4, zr_and, zr_dyn8, zr_or, zr_shl, q_cpy_n, y_cpy26, c_X0_digits, sp_digits]
      exact a
    rw [if_neg k0] at a
    by_cases k1 : wt = 1
    · subst k1
      rw [if_pos (Or.inr rfl)] at hl3
      subst hl3
      rw [if_pos rfl] at a
      simp (disch := omega) only [b_X5_run_0, x_loadI_1, y_if_lt_t, y_if_lt_f, b_X5_run_4, x_iconst, y_ic_le_t, y_ic_le_f, b_X5_run_10, x_ret0, b_X5_run_13, x_loadI_2, y_if_eq_t, y_if_eq_f, b_X5_run_17, y_ic_ne_t, y_ic_ne_f, b_X5_run_22, x_goto, b_X5_run_26, b_X5_run_27, x_storeI_3, x_loadI_3, y_if_ne_t, y_if_ne_f, b_X5_run_32, x_loadR_0, x_loadS_0, x_isub, b_X5_run_43, b_X5_run_46, f_5_4, f_5_3, x_storeI_4, x_loadI_4, y_ic_ge_t, y_ic_ge_f, b_X5_run_66, x_popI, x_popR, x_iinc_4, b_X5_run_84, b_X5_run_88, f_4_0, b_X5_run_101, b_X5_run_111, b_X5_run_112, f_4_6, y_iald_26, q_isL_I, q_isL_R, q_isL_S, true_and, and_true, and_self, List.length_nil, List.length_cons, Nat.zero_add, x_K, x_Kn, Int.reduceToNat, Nat.reduceAdd, Nat.reduceMul, Nat.reduceLeDiff, Nat.reduceLT, Nat.zero_le, Int.reduceAdd, Int.reduceSub, Int.reduceMul, Int.reduceNeg, q_add_e, q_sub_e, q_mul_e, q_neg_e, q_upd_s, q_upd_n, zr_shr0, zr_shr1, zr_shr2, zr_shr3, zr_shr4, zr_and, zr_dyn8, zr_or, zr_shl, q_cpy_n, y_cpy26, c_X0_inNone, sp_inNone]
      exact a
    · rw [if_neg k1] at a
      rw [if_neg (fun z => z.elim k0 k1)] at hl3
      subst hl3
      simp (disch := omega) only [b_X5_run_0, x_loadI_1, y_if_lt_t, y_if_lt_f, b_X5_run_4, x_iconst, y_ic_le_t, y_ic_le_f, b_X5_run_10, x_ret0, b_X5_run_13, x_loadI_2, y_if_eq_t, y_if_eq_f, b_X5_run_17, y_ic_ne_t, y_ic_ne_f, b_X5_run_22, x_goto, b_X5_run_26, b_X5_run_27, x_storeI_3, x_loadI_3, y_if_ne_t, y_if_ne_f, b_X5_run_32, x_loadR_0, x_loadS_0, x_isub, b_X5_run_43, b_X5_run_46, f_5_4, f_5_3, x_storeI_4, x_loadI_4, y_ic_ge_t, y_ic_ge_f, b_X5_run_66, x_popI, x_popR, x_iinc_4, b_X5_run_84, b_X5_run_88, f_4_0, b_X5_run_101, b_X5_run_111, b_X5_run_112, f_4_6, y_iald_26, q_isL_I, q_isL_R, q_isL_S, true_and, and_true, and_self, List.length_nil, List.length_cons, Nat.zero_add, x_K, x_Kn, Int.reduceToNat, Nat.reduceAdd, Nat.reduceMul, Nat.reduceLeDiff, Nat.reduceLT, Nat.zero_le, Int.reduceAdd, Int.reduceSub, Int.reduceMul, Int.reduceNeg, q_add_e, q_sub_e, q_mul_e, q_neg_e, q_upd_s, q_upd_n, zr_shr0, zr_shr1, zr_shr2, zr_shr3, zr_shr4, zr_and, zr_dyn8, zr_or, zr_shl, q_cpy_n, y_cpy26]
      exact a
  rw [s_X5_run]
  rcases hwt with k | k | k
  · have b := body 1 (by rw [if_pos (Or.inl k)])
    simp (disch := omega) only [b_X5_run_0, x_loadI_1, y_if_lt_t, y_if_lt_f, b_X5_run_4, x_iconst, y_ic_le_t, y_ic_le_f, b_X5_run_10, x_ret0, b_X5_run_13, x_loadI_2, y_if_eq_t, y_if_eq_f, b_X5_run_17, y_ic_ne_t, y_ic_ne_f, b_X5_run_22, x_goto, b_X5_run_26, b_X5_run_27, x_storeI_3, x_loadI_3, y_if_ne_t, y_if_ne_f, b_X5_run_32, x_loadR_0, x_loadS_0, x_isub, b_X5_run_43, b_X5_run_46, f_5_4, f_5_3, x_storeI_4, x_loadI_4, y_ic_ge_t, y_ic_ge_f, b_X5_run_66, x_popI, x_popR, x_iinc_4, b_X5_run_84, b_X5_run_88, f_4_0, b_X5_run_101, b_X5_run_111, b_X5_run_112, f_4_6, y_iald_26, q_isL_I, q_isL_R, q_isL_S, true_and, and_true, and_self, List.length_nil, List.length_cons, Nat.zero_add, x_K, x_Kn, Int.reduceToNat, Nat.reduceAdd, Nat.reduceMul, Nat.reduceLeDiff, Nat.reduceLT, Nat.zero_le, Int.reduceAdd, Int.reduceSub, Int.reduceMul, Int.reduceNeg, q_add_e, q_sub_e, q_mul_e, q_neg_e, q_upd_s, q_upd_n, zr_shr0, zr_shr1, zr_shr2, zr_shr3, zr_shr4, zr_and, zr_dyn8, zr_or, zr_shl, q_cpy_n, y_cpy26, c_X4_copyFrom]
    refine copy _ _ _ _ (fun M2 h2 => ?_)
    simp (disch := omega) only [b_X5_run_0, x_loadI_1, y_if_lt_t, y_if_lt_f, b_X5_run_4, x_iconst, y_ic_le_t, y_ic_le_f, b_X5_run_10, x_ret0, b_X5_run_13, x_loadI_2, y_if_eq_t, y_if_eq_f, b_X5_run_17, y_ic_ne_t, y_ic_ne_f, b_X5_run_22, x_goto, b_X5_run_26, b_X5_run_27, x_storeI_3, x_loadI_3, y_if_ne_t, y_if_ne_f, b_X5_run_32, x_loadR_0, x_loadS_0, x_isub, b_X5_run_43, b_X5_run_46, f_5_4, f_5_3, x_storeI_4, x_loadI_4, y_ic_ge_t, y_ic_ge_f, b_X5_run_66, x_popI, x_popR, x_iinc_4, b_X5_run_84, b_X5_run_88, f_4_0, b_X5_run_101, b_X5_run_111, b_X5_run_112, f_4_6, y_iald_26, q_isL_I, q_isL_R, q_isL_S, true_and, and_true, and_self, List.length_nil, List.length_cons, Nat.zero_add, x_K, x_Kn, Int.reduceToNat, Nat.reduceAdd, Nat.reduceMul, Nat.reduceLeDiff, Nat.reduceLT, Nat.zero_le, Int.reduceAdd, Int.reduceSub, Int.reduceMul, Int.reduceNeg, q_add_e, q_sub_e, q_mul_e, q_neg_e, q_upd_s, q_upd_n, zr_shr0, zr_shr1, zr_shr2, zr_shr3, zr_shr4, zr_and, zr_dyn8, zr_or, zr_shl, q_cpy_n, y_cpy26]
    exact b M2 h2
  · have b := body 1 (by rw [if_pos (Or.inr k)])
    simp (disch := omega) only [b_X5_run_0, x_loadI_1, y_if_lt_t, y_if_lt_f, b_X5_run_4, x_iconst, y_ic_le_t, y_ic_le_f, b_X5_run_10, x_ret0, b_X5_run_13, x_loadI_2, y_if_eq_t, y_if_eq_f, b_X5_run_17, y_ic_ne_t, y_ic_ne_f, b_X5_run_22, x_goto, b_X5_run_26, b_X5_run_27, x_storeI_3, x_loadI_3, y_if_ne_t, y_if_ne_f, b_X5_run_32, x_loadR_0, x_loadS_0, x_isub, b_X5_run_43, b_X5_run_46, f_5_4, f_5_3, x_storeI_4, x_loadI_4, y_ic_ge_t, y_ic_ge_f, b_X5_run_66, x_popI, x_popR, x_iinc_4, b_X5_run_84, b_X5_run_88, f_4_0, b_X5_run_101, b_X5_run_111, b_X5_run_112, f_4_6, y_iald_26, q_isL_I, q_isL_R, q_isL_S, true_and, and_true, and_self, List.length_nil, List.length_cons, Nat.zero_add, x_K, x_Kn, Int.reduceToNat, Nat.reduceAdd, Nat.reduceMul, Nat.reduceLeDiff, Nat.reduceLT, Nat.zero_le, Int.reduceAdd, Int.reduceSub, Int.reduceMul, Int.reduceNeg, q_add_e, q_sub_e, q_mul_e, q_neg_e, q_upd_s, q_upd_n, zr_shr0, zr_shr1, zr_shr2, zr_shr3, zr_shr4, zr_and, zr_dyn8, zr_or, zr_shl, q_cpy_n, y_cpy26, c_X4_copyFrom]
    refine copy _ _ _ _ (fun M2 h2 => ?_)
    simp (disch := omega) only [b_X5_run_0, x_loadI_1, y_if_lt_t, y_if_lt_f, b_X5_run_4, x_iconst, y_ic_le_t, y_ic_le_f, b_X5_run_10, x_ret0, b_X5_run_13, x_loadI_2, y_if_eq_t, y_if_eq_f, b_X5_run_17, y_ic_ne_t, y_ic_ne_f, b_X5_run_22, x_goto, b_X5_run_26, b_X5_run_27, x_storeI_3, x_loadI_3, y_if_ne_t, y_if_ne_f, b_X5_run_32, x_loadR_0, x_loadS_0, x_isub, b_X5_run_43, b_X5_run_46, f_5_4, f_5_3, x_storeI_4, x_loadI_4, y_ic_ge_t, y_ic_ge_f, b_X5_run_66, x_popI, x_popR, x_iinc_4, b_X5_run_84, b_X5_run_88, f_4_0, b_X5_run_101, b_X5_run_111, b_X5_run_112, f_4_6, y_iald_26, q_isL_I, q_isL_R, q_isL_S, true_and, and_true, and_self, List.length_nil, List.length_cons, Nat.zero_add, x_K, x_Kn, Int.reduceToNat, Nat.reduceAdd, Nat.reduceMul, Nat.reduceLeDiff, Nat.reduceLT, Nat.zero_le, Int.reduceAdd, Int.reduceSub, Int.reduceMul, Int.reduceNeg, q_add_e, q_sub_e, q_mul_e, q_neg_e, q_upd_s, q_upd_n, zr_shr0, zr_shr1, zr_shr2, zr_shr3, zr_shr4, zr_and, zr_dyn8, zr_or, zr_shl, q_cpy_n, y_cpy26]
    exact b M2 h2
  · have b := body 0 (by rw [if_neg (by omega)])
    simp (disch := omega) only [b_X5_run_0, x_loadI_1, y_if_lt_t, y_if_lt_f, b_X5_run_4, x_iconst, y_ic_le_t, y_ic_le_f, b_X5_run_10, x_ret0, b_X5_run_13, x_loadI_2, y_if_eq_t, y_if_eq_f, b_X5_run_17, y_ic_ne_t, y_ic_ne_f, b_X5_run_22, x_goto, b_X5_run_26, b_X5_run_27, x_storeI_3, x_loadI_3, y_if_ne_t, y_if_ne_f, b_X5_run_32, x_loadR_0, x_loadS_0, x_isub, b_X5_run_43, b_X5_run_46, f_5_4, f_5_3, x_storeI_4, x_loadI_4, y_ic_ge_t, y_ic_ge_f, b_X5_run_66, x_popI, x_popR, x_iinc_4, b_X5_run_84, b_X5_run_88, f_4_0, b_X5_run_101, b_X5_run_111, b_X5_run_112, f_4_6, y_iald_26, q_isL_I, q_isL_R, q_isL_S, true_and, and_true, and_self, List.length_nil, List.length_cons, Nat.zero_add, x_K, x_Kn, Int.reduceToNat, Nat.reduceAdd, Nat.reduceMul, Nat.reduceLeDiff, Nat.reduceLT, Nat.zero_le, Int.reduceAdd, Int.reduceSub, Int.reduceMul, Int.reduceNeg, q_add_e, q_sub_e, q_mul_e, q_neg_e, q_upd_s, q_upd_n, zr_shr0, zr_shr1, zr_shr2, zr_shr3, zr_shr4, zr_and, zr_dyn8, zr_or, zr_shl, q_cpy_n, y_cpy26, c_X4_copyFrom, c_X5_isStone, sp_isStone, k, and_self, if_true]
    refine copy _ _ _ _ (fun M2 h2 => ?_)
    simp (disch := omega) only [b_X5_run_0, x_loadI_1, y_if_lt_t, y_if_lt_f, b_X5_run_4, x_iconst, y_ic_le_t, y_ic_le_f, b_X5_run_10, x_ret0, b_X5_run_13, x_loadI_2, y_if_eq_t, y_if_eq_f, b_X5_run_17, y_ic_ne_t, y_ic_ne_f, b_X5_run_22, x_goto, b_X5_run_26, b_X5_run_27, x_storeI_3, x_loadI_3, y_if_ne_t, y_if_ne_f, b_X5_run_32, x_loadR_0, x_loadS_0, x_isub, b_X5_run_43, b_X5_run_46, f_5_4, f_5_3, x_storeI_4, x_loadI_4, y_ic_ge_t, y_ic_ge_f, b_X5_run_66, x_popI, x_popR, x_iinc_4, b_X5_run_84, b_X5_run_88, f_4_0, b_X5_run_101, b_X5_run_111, b_X5_run_112, f_4_6, y_iald_26, q_isL_I, q_isL_R, q_isL_S, true_and, and_true, and_self, List.length_nil, List.length_cons, Nat.zero_add, x_K, x_Kn, Int.reduceToNat, Nat.reduceAdd, Nat.reduceMul, Nat.reduceLeDiff, Nat.reduceLT, Nat.zero_le, Int.reduceAdd, Int.reduceSub, Int.reduceMul, Int.reduceNeg, q_add_e, q_sub_e, q_mul_e, q_neg_e, q_upd_s, q_upd_n, zr_shr0, zr_shr1, zr_shr2, zr_shr3, zr_shr4, zr_and, zr_dyn8, zr_or, zr_shl, q_cpy_n, y_cpy26]
    exact b M2 h2
end
section
/-! THE CLASS'S ENTRIES: count -/
def q_ctA (M : q_M) (ta : Nat) (wt : Int) : Int := if wt = 0 then M 12 5 else if wt = 1 then M 11 9 else if wt = 2 then F_cnt (M (12 + 2)) 5 (M 12 5).toNat else if wt = 3 then M 0 2 else if wt = 4 then M ta 0 else if wt = 5 then M 1 1 else -2
set_option maxHeartbeats 4000000 in
theorem sp_count {V : Nat → (Nat → Int) → Int} {d : Nat} {g : q_G} {M : q_M} {ta : Nat} {wt : Int} {Q : Option q_V → q_G → q_M → Prop} (hw : q_wl V M 11 ta) (hq : Q (some (qI (q_ctA M ta wt))) g M) : q_S 1 (d + 2) 62 [qR 5 0, qI wt] g M Q := by
  have hla := q_dynT (k := 3) hw.2.2.2.1
  have g0 : 0 ≤ M 12 5 := hw.1.1.1
  have g5 : M 12 5 ≤ 5 := hw.1.1.2
  rw [s_X5_count]
  unfold q_ctA at hq
  by_cases k0 : wt = 0
  · subst k0
    rw [if_pos rfl] at hq
    simp (disch := omega) only [b_X5_count_0, x_loadI_1, tw_1_0, tw_1_1, tw_1_2, tw_1_3, tw_1_4, tw_1_5, tw_1_o, b_X5_count_40, x_loadR_0, x_loadS_0, f_5_3, f_4_0, f_0_5, x_ret0, b_X5_count_51, f_4_9, b_X5_count_59, b_X5_count_70, f_5_2, b_X5_count_75, f_4_10, f_3_0, b_X5_count_86, f_5_0, f_1_1, b_X5_count_94, x_iconst, q_isL_I, q_isL_R, q_isL_S, true_and, and_true, and_self, List.length_nil, List.length_cons, Nat.zero_add, x_K, x_Kn, Int.reduceToNat, Nat.reduceAdd, Nat.reduceMul, Nat.reduceLeDiff, Nat.reduceLT, Nat.zero_le, Int.reduceAdd, Int.reduceSub, Int.reduceMul, Int.reduceNeg, q_add_e, q_sub_e, q_mul_e, q_neg_e, q_upd_s, q_upd_n, zr_shr0, zr_shr1, zr_shr2, zr_shr3, zr_shr4, zr_and, zr_dyn8, zr_or, zr_shl, q_cpy_n, y_cpy26]
    exact hq
  rw [if_neg k0] at hq
  by_cases k1 : wt = 1
  · subst k1
    rw [if_pos rfl] at hq
    simp (disch := omega) only [b_X5_count_0, x_loadI_1, tw_1_0, tw_1_1, tw_1_2, tw_1_3, tw_1_4, tw_1_5, tw_1_o, b_X5_count_40, x_loadR_0, x_loadS_0, f_5_3, f_4_0, f_0_5, x_ret0, b_X5_count_51, f_4_9, b_X5_count_59, b_X5_count_70, f_5_2, b_X5_count_75, f_4_10, f_3_0, b_X5_count_86, f_5_0, f_1_1, b_X5_count_94, x_iconst, q_isL_I, q_isL_R, q_isL_S, true_and, and_true, and_self, List.length_nil, List.length_cons, Nat.zero_add, x_K, x_Kn, Int.reduceToNat, Nat.reduceAdd, Nat.reduceMul, Nat.reduceLeDiff, Nat.reduceLT, Nat.zero_le, Int.reduceAdd, Int.reduceSub, Int.reduceMul, Int.reduceNeg, q_add_e, q_sub_e, q_mul_e, q_neg_e, q_upd_s, q_upd_n, zr_shr0, zr_shr1, zr_shr2, zr_shr3, zr_shr4, zr_and, zr_dyn8, zr_or, zr_shl, q_cpy_n, y_cpy26]
    exact hq
  rw [if_neg k1] at hq
  by_cases k2 : wt = 2
  · subst k2
    rw [if_pos rfl] at hq
    simp (disch := omega) only [b_X5_count_0, x_loadI_1, tw_1_0, tw_1_1, tw_1_2, tw_1_3, tw_1_4, tw_1_5, tw_1_o, b_X5_count_40, x_loadR_0, x_loadS_0, f_5_3, f_4_0, f_0_5, x_ret0, b_X5_count_51, f_4_9, b_X5_count_59, b_X5_count_70, f_5_2, b_X5_count_75, f_4_10, f_3_0, b_X5_count_86, f_5_0, f_1_1, b_X5_count_94, x_iconst, q_isL_I, q_isL_R, q_isL_S, true_and, and_true, and_self, List.length_nil, List.length_cons, Nat.zero_add, x_K, x_Kn, Int.reduceToNat, Nat.reduceAdd, Nat.reduceMul, Nat.reduceLeDiff, Nat.reduceLT, Nat.zero_le, Int.reduceAdd, Int.reduceSub, Int.reduceMul, Int.reduceNeg, q_add_e, q_sub_e, q_mul_e, q_neg_e, q_upd_s, q_upd_n, zr_shr0, zr_shr1, zr_shr2, zr_shr3, zr_shr4, zr_and, zr_dyn8, zr_or, zr_shl, q_cpy_n, y_cpy26, c_X0_inNone, sp_inNone]
    exact hq
  rw [if_neg k2] at hq
  by_cases k3 : wt = 3
  · subst k3
    rw [if_pos rfl] at hq
    simp (disch := omega) only [b_X5_count_0, x_loadI_1, tw_1_0, tw_1_1, tw_1_2, tw_1_3, tw_1_4, tw_1_5, tw_1_o, b_X5_count_40, x_loadR_0, x_loadS_0, f_5_3, f_4_0, f_0_5, x_ret0, b_X5_count_51, f_4_9, b_X5_count_59, b_X5_count_70, f_5_2, b_X5_count_75, f_4_10, f_3_0, b_X5_count_86, f_5_0, f_1_1, b_X5_count_94, x_iconst, q_isL_I, q_isL_R, q_isL_S, true_and, and_true, and_self, List.length_nil, List.length_cons, Nat.zero_add, x_K, x_Kn, Int.reduceToNat, Nat.reduceAdd, Nat.reduceMul, Nat.reduceLeDiff, Nat.reduceLT, Nat.zero_le, Int.reduceAdd, Int.reduceSub, Int.reduceMul, Int.reduceNeg, q_add_e, q_sub_e, q_mul_e, q_neg_e, q_upd_s, q_upd_n, zr_shr0, zr_shr1, zr_shr2, zr_shr3, zr_shr4, zr_and, zr_dyn8, zr_or, zr_shl, q_cpy_n, y_cpy26]
    exact hq
  rw [if_neg k3] at hq
  by_cases k4 : wt = 4
  · subst k4
    rw [if_pos rfl] at hq
    simp (disch := omega) only [b_X5_count_0, x_loadI_1, tw_1_0, tw_1_1, tw_1_2, tw_1_3, tw_1_4, tw_1_5, tw_1_o, b_X5_count_40, x_loadR_0, x_loadS_0, f_5_3, f_4_0, f_0_5, x_ret0, b_X5_count_51, f_4_9, b_X5_count_59, b_X5_count_70, f_5_2, b_X5_count_75, f_4_10, f_3_0, b_X5_count_86, f_5_0, f_1_1, b_X5_count_94, x_iconst, q_isL_I, q_isL_R, q_isL_S, true_and, and_true, and_self, List.length_nil, List.length_cons, Nat.zero_add, x_K, x_Kn, Int.reduceToNat, Nat.reduceAdd, Nat.reduceMul, Nat.reduceLeDiff, Nat.reduceLT, Nat.zero_le, Int.reduceAdd, Int.reduceSub, Int.reduceMul, Int.reduceNeg, q_add_e, q_sub_e, q_mul_e, q_neg_e, q_upd_s, q_upd_n, zr_shr0, zr_shr1, zr_shr2, zr_shr3, zr_shr4, zr_and, zr_dyn8, zr_or, zr_shl, q_cpy_n, y_cpy26, hla]
    exact hq
  rw [if_neg k4] at hq
  by_cases k5 : wt = 5
  · subst k5
    rw [if_pos rfl] at hq
    simp (disch := omega) only [b_X5_count_0, x_loadI_1, tw_1_0, tw_1_1, tw_1_2, tw_1_3, tw_1_4, tw_1_5, tw_1_o, b_X5_count_40, x_loadR_0, x_loadS_0, f_5_3, f_4_0, f_0_5, x_ret0, b_X5_count_51, f_4_9, b_X5_count_59, b_X5_count_70, f_5_2, b_X5_count_75, f_4_10, f_3_0, b_X5_count_86, f_5_0, f_1_1, b_X5_count_94, x_iconst, q_isL_I, q_isL_R, q_isL_S, true_and, and_true, and_self, List.length_nil, List.length_cons, Nat.zero_add, x_K, x_Kn, Int.reduceToNat, Nat.reduceAdd, Nat.reduceMul, Nat.reduceLeDiff, Nat.reduceLT, Nat.zero_le, Int.reduceAdd, Int.reduceSub, Int.reduceMul, Int.reduceNeg, q_add_e, q_sub_e, q_mul_e, q_neg_e, q_upd_s, q_upd_n, zr_shr0, zr_shr1, zr_shr2, zr_shr3, zr_shr4, zr_and, zr_dyn8, zr_or, zr_shl, q_cpy_n, y_cpy26]
    exact hq
  rw [if_neg k5] at hq
  simp (disch := omega) only [b_X5_count_0, x_loadI_1, tw_1_0, tw_1_1, tw_1_2, tw_1_3, tw_1_4, tw_1_5, tw_1_o, b_X5_count_40, x_loadR_0, x_loadS_0, f_5_3, f_4_0, f_0_5, x_ret0, b_X5_count_51, f_4_9, b_X5_count_59, b_X5_count_70, f_5_2, b_X5_count_75, f_4_10, f_3_0, b_X5_count_86, f_5_0, f_1_1, b_X5_count_94, x_iconst, q_isL_I, q_isL_R, q_isL_S, true_and, and_true, and_self, List.length_nil, List.length_cons, Nat.zero_add, x_K, x_Kn, Int.reduceToNat, Nat.reduceAdd, Nat.reduceMul, Nat.reduceLeDiff, Nat.reduceLT, Nat.zero_le, Int.reduceAdd, Int.reduceSub, Int.reduceMul, Int.reduceNeg, q_add_e, q_sub_e, q_mul_e, q_neg_e, q_upd_s, q_upd_n, zr_shr0, zr_shr1, zr_shr2, zr_shr3, zr_shr4, zr_and, zr_dyn8, zr_or, zr_shl, q_cpy_n, y_cpy26]
  exact hq
end
section
/-! THE CLASS'S ENTRIES: years till one is in -/
def F_hit (x b : Int) : Bool := decide ((b = -1 ∧ x ≠ 5) ∨ (b ≠ -1 ∧ x = b))
def F_till (V : Nat → (Nat → Int) → Int) (S : q_M) (p : Nat) (b : Int) : Nat → Nat → Int
  | 0, y => if F_hit (F_ys V S y 4 p) b = true then y else -1
  | j + 1, y => if F_hit (F_ys V S y 4 p) b = true then y else F_till V S p b j (y + 1)
set_option maxHeartbeats 4000000 in
theorem sp_tillL {V : Nat → (Nat → Int) → Int} {d : Nat} {g : q_G} {M S : q_M} {ta p n : Nat} {b : Int} {Q : Option q_V → q_G → q_M → Prop} (hn : n ≤ 1000) (hp6 : p < 6) : ∀ j y : Nat, y + j = n → ∀ (l : q_V) (M1 : q_M), q_isL l = false → p < (M1 (38 + 1) 5).toNat → q_wl V M1 38 ta → cW M1 38 = F_ys V S y → (∀ p, p < 5 → M1 (38 + 1 + 3 + (1 + p)) 5 = 0) → M1 38 9 + j ≤ 2000 → q_th ta M M1 → (∀ M2 : q_M, q_th ta M M2 → Q (some (qI (F_till V S p b j y))) g M2) → q_T 1 (d + 5) qP_X5_yearsTillIn 22 [] [qR 5 0, qI p, qI b, qI n, qI y, l] [] g M1 Q := by
  intro j
  induction j with
  | zero =>
    intro y hy l M1 hl hp hw hc hz hyr hf hq
    have ein : F_ys V S y 4 p = M1 (38 + 3) p := by rw [← hc]; exact cW_4 hp
    rw [F_till, ein] at hq
    rw [b_X5_yearsTillIn_22]
    by_cases hit : F_hit (M1 (38 + 3) p) b = true
    · rw [if_pos hit] at hq
      rcases of_decide_eq_true hit with h | h
      · have h2 : M1 41 p ≠ 5 := h.2
        simp (disch := omega) only [b_X5_yearsTillIn_0, x_iconst, x_storeI_4, b_X5_yearsTillIn_3, x_loadI_4, x_loadI_3, y_ic_gt_t, y_ic_gt_f, b_X5_yearsTillIn_9, y_if_le_t, y_if_le_f, b_X5_yearsTillIn_14, x_loadR_0, x_loadS_0, f_5_4, x_popI, x_popR, f_4_0, f_0_1, x_loadI_1, y_iald_26, x_storeI_5, x_loadI_2, y_ic_ne_t, y_ic_ne_f, b_X5_yearsTillIn_41, x_loadI_5, y_ic_eq_t, y_ic_eq_f, b_X5_yearsTillIn_47, x_goto, b_X5_yearsTillIn_50, b_X5_yearsTillIn_56, x_ret0, b_X5_yearsTillIn_59, x_iinc_4, b_X5_yearsTillIn_65, q_isL_I, q_isL_R, q_isL_S, true_and, and_true, and_self, List.length_nil, List.length_cons, Nat.zero_add, x_K, x_Kn, Int.reduceToNat, Nat.reduceAdd, Nat.reduceMul, Nat.reduceLeDiff, Nat.reduceLT, Nat.zero_le, Int.reduceAdd, Int.reduceSub, Int.reduceMul, Int.reduceNeg, q_add_e, q_sub_e, q_mul_e, q_neg_e, q_upd_s, q_upd_n, zr_shr0, zr_shr1, zr_shr2, zr_shr3, zr_shr4, zr_and, zr_dyn8, zr_or, zr_shl, q_cpy_n, y_cpy26, hl, Int.toNat_natCast]
        exact hq M1 hf
      · have h2 : M1 41 p = b := h.2
        simp (disch := omega) only [b_X5_yearsTillIn_0, x_iconst, x_storeI_4, b_X5_yearsTillIn_3, x_loadI_4, x_loadI_3, y_ic_gt_t, y_ic_gt_f, b_X5_yearsTillIn_9, y_if_le_t, y_if_le_f, b_X5_yearsTillIn_14, x_loadR_0, x_loadS_0, f_5_4, x_popI, x_popR, f_4_0, f_0_1, x_loadI_1, y_iald_26, x_storeI_5, x_loadI_2, y_ic_ne_t, y_ic_ne_f, b_X5_yearsTillIn_41, x_loadI_5, y_ic_eq_t, y_ic_eq_f, b_X5_yearsTillIn_47, x_goto, b_X5_yearsTillIn_50, b_X5_yearsTillIn_56, x_ret0, b_X5_yearsTillIn_59, x_iinc_4, b_X5_yearsTillIn_65, q_isL_I, q_isL_R, q_isL_S, true_and, and_true, and_self, List.length_nil, List.length_cons, Nat.zero_add, x_K, x_Kn, Int.reduceToNat, Nat.reduceAdd, Nat.reduceMul, Nat.reduceLeDiff, Nat.reduceLT, Nat.zero_le, Int.reduceAdd, Int.reduceSub, Int.reduceMul, Int.reduceNeg, q_add_e, q_sub_e, q_mul_e, q_neg_e, q_upd_s, q_upd_n, zr_shr0, zr_shr1, zr_shr2, zr_shr3, zr_shr4, zr_and, zr_dyn8, zr_or, zr_shl, q_cpy_n, y_cpy26, hl, Int.toNat_natCast]
        exact hq M1 hf
    · rw [if_neg hit] at hq
      by_cases hb : b = -1
      · have h5 : M1 (38 + 3) p = 5 := Decidable.byContradiction fun z => hit (decide_eq_true (Or.inl ⟨hb, z⟩))
        simp (disch := omega) only [b_X5_yearsTillIn_0, x_iconst, x_storeI_4, b_X5_yearsTillIn_3, x_loadI_4, x_loadI_3, y_ic_gt_t, y_ic_gt_f, b_X5_yearsTillIn_9, y_if_le_t, y_if_le_f, b_X5_yearsTillIn_14, x_loadR_0, x_loadS_0, f_5_4, x_popI, x_popR, f_4_0, f_0_1, x_loadI_1, y_iald_26, x_storeI_5, x_loadI_2, y_ic_ne_t, y_ic_ne_f, b_X5_yearsTillIn_41, x_loadI_5, y_ic_eq_t, y_ic_eq_f, b_X5_yearsTillIn_47, x_goto, b_X5_yearsTillIn_50, b_X5_yearsTillIn_56, x_ret0, b_X5_yearsTillIn_59, x_iinc_4, b_X5_yearsTillIn_65, q_isL_I, q_isL_R, q_isL_S, true_and, and_true, and_self, List.length_nil, List.length_cons, Nat.zero_add, x_K, x_Kn, Int.reduceToNat, Nat.reduceAdd, Nat.reduceMul, Nat.reduceLeDiff, Nat.reduceLT, Nat.zero_le, Int.reduceAdd, Int.reduceSub, Int.reduceMul, Int.reduceNeg, q_add_e, q_sub_e, q_mul_e, q_neg_e, q_upd_s, q_upd_n, zr_shr0, zr_shr1, zr_shr2, zr_shr3, zr_shr4, zr_and, zr_dyn8, zr_or, zr_shl, q_cpy_n, y_cpy26, hl, h5, Int.toNat_natCast]
        exact hq M1 hf
      · have h5 : M1 (38 + 3) p ≠ b := fun z => hit (decide_eq_true (Or.inr ⟨hb, z⟩))
        simp (disch := omega) only [b_X5_yearsTillIn_0, x_iconst, x_storeI_4, b_X5_yearsTillIn_3, x_loadI_4, x_loadI_3, y_ic_gt_t, y_ic_gt_f, b_X5_yearsTillIn_9, y_if_le_t, y_if_le_f, b_X5_yearsTillIn_14, x_loadR_0, x_loadS_0, f_5_4, x_popI, x_popR, f_4_0, f_0_1, x_loadI_1, y_iald_26, x_storeI_5, x_loadI_2, y_ic_ne_t, y_ic_ne_f, b_X5_yearsTillIn_41, x_loadI_5, y_ic_eq_t, y_ic_eq_f, b_X5_yearsTillIn_47, x_goto, b_X5_yearsTillIn_50, b_X5_yearsTillIn_56, x_ret0, b_X5_yearsTillIn_59, x_iinc_4, b_X5_yearsTillIn_65, q_isL_I, q_isL_R, q_isL_S, true_and, and_true, and_self, List.length_nil, List.length_cons, Nat.zero_add, x_K, x_Kn, Int.reduceToNat, Nat.reduceAdd, Nat.reduceMul, Nat.reduceLeDiff, Nat.reduceLT, Nat.zero_le, Int.reduceAdd, Int.reduceSub, Int.reduceMul, Int.reduceNeg, q_add_e, q_sub_e, q_mul_e, q_neg_e, q_upd_s, q_upd_n, zr_shr0, zr_shr1, zr_shr2, zr_shr3, zr_shr4, zr_and, zr_dyn8, zr_or, zr_shl, q_cpy_n, y_cpy26, hl, Int.toNat_natCast]
        exact hq M1 hf
  | succ j ih =>
    intro y hy l M1 hl hp hw hc hz hyr hf hq
    have ein : F_ys V S y 4 p = M1 (38 + 3) p := by rw [← hc]; exact cW_4 hp
    rw [F_till, ein] at hq
    have next : ∀ (l : q_V), q_isL l = false → (∀ M2 : q_M, q_th ta M M2 → Q (some (qI (F_till V S p b j (y + 1)))) g M2) → q_S 1 (d + 4) 59 [qR 4 38] g M1 (q_K 1 (d + 5) qP_X5_yearsTillIn 22 [.pop] [qR 5 0, qI p, qI b, qI n, qI (y + 1 : Nat), l] [] Q) := by
      intro l hl hq
      refine sp_passYear hw hz (by omega) (fun M2 h1 h2 h3 => ?_)
      have hy2 := F_year_y h2
      have e5 : M2 (38 + 1) 5 = M1 (38 + 1) 5 := h3 _ 5 (by omega) (by omega) (by have h := hw.2.2.2.2.2; omega) (by omega)
      simp (disch := omega) only [b_X5_yearsTillIn_0, x_iconst, x_storeI_4, b_X5_yearsTillIn_3, x_loadI_4, x_loadI_3, y_ic_gt_t, y_ic_gt_f, b_X5_yearsTillIn_9, y_if_le_t, y_if_le_f, b_X5_yearsTillIn_14, x_loadR_0, x_loadS_0, f_5_4, x_popI, x_popR, f_4_0, f_0_1, x_loadI_1, y_iald_26, x_storeI_5, x_loadI_2, y_ic_ne_t, y_ic_ne_f, b_X5_yearsTillIn_41, x_loadI_5, y_ic_eq_t, y_ic_eq_f, b_X5_yearsTillIn_47, x_goto, b_X5_yearsTillIn_50, b_X5_yearsTillIn_56, x_ret0, b_X5_yearsTillIn_59, x_iinc_4, b_X5_yearsTillIn_65, q_isL_I, q_isL_R, q_isL_S, true_and, and_true, and_self, List.length_nil, List.length_cons, Nat.zero_add, x_K, x_Kn, Int.reduceToNat, Nat.reduceAdd, Nat.reduceMul, Nat.reduceLeDiff, Nat.reduceLT, Nat.zero_le, Int.reduceAdd, Int.reduceSub, Int.reduceMul, Int.reduceNeg, q_add_e, q_sub_e, q_mul_e, q_neg_e, q_upd_s, q_upd_n, zr_shr0, zr_shr1, zr_shr2, zr_shr3, zr_shr4, zr_and, zr_dyn8, zr_or, zr_shl, q_cpy_n, y_cpy26]
      exact ih (y + 1) (by omega) l M2 hl (by rw [e5]; exact hp) h1 (by rw [h2, hc]; rfl) (fun p hp => (h3 _ 5 (by omega) (by omega) (by have h := hw.2.2.2.2.2; omega) (by omega)).trans (hz p hp)) (by omega) (q_th_tr hf (q_th_yn h3)) hq
    rw [b_X5_yearsTillIn_22]
    by_cases hit : F_hit (M1 (38 + 3) p) b = true
    · rw [if_pos hit] at hq
      rcases of_decide_eq_true hit with h | h
      · have h2 : M1 41 p ≠ 5 := h.2
        simp (disch := omega) only [b_X5_yearsTillIn_0, x_iconst, x_storeI_4, b_X5_yearsTillIn_3, x_loadI_4, x_loadI_3, y_ic_gt_t, y_ic_gt_f, b_X5_yearsTillIn_9, y_if_le_t, y_if_le_f, b_X5_yearsTillIn_14, x_loadR_0, x_loadS_0, f_5_4, x_popI, x_popR, f_4_0, f_0_1, x_loadI_1, y_iald_26, x_storeI_5, x_loadI_2, y_ic_ne_t, y_ic_ne_f, b_X5_yearsTillIn_41, x_loadI_5, y_ic_eq_t, y_ic_eq_f, b_X5_yearsTillIn_47, x_goto, b_X5_yearsTillIn_50, b_X5_yearsTillIn_56, x_ret0, b_X5_yearsTillIn_59, x_iinc_4, b_X5_yearsTillIn_65, q_isL_I, q_isL_R, q_isL_S, true_and, and_true, and_self, List.length_nil, List.length_cons, Nat.zero_add, x_K, x_Kn, Int.reduceToNat, Nat.reduceAdd, Nat.reduceMul, Nat.reduceLeDiff, Nat.reduceLT, Nat.zero_le, Int.reduceAdd, Int.reduceSub, Int.reduceMul, Int.reduceNeg, q_add_e, q_sub_e, q_mul_e, q_neg_e, q_upd_s, q_upd_n, zr_shr0, zr_shr1, zr_shr2, zr_shr3, zr_shr4, zr_and, zr_dyn8, zr_or, zr_shl, q_cpy_n, y_cpy26, hl, Int.toNat_natCast]
        exact hq M1 hf
      · have h2 : M1 41 p = b := h.2
        simp (disch := omega) only [b_X5_yearsTillIn_0, x_iconst, x_storeI_4, b_X5_yearsTillIn_3, x_loadI_4, x_loadI_3, y_ic_gt_t, y_ic_gt_f, b_X5_yearsTillIn_9, y_if_le_t, y_if_le_f, b_X5_yearsTillIn_14, x_loadR_0, x_loadS_0, f_5_4, x_popI, x_popR, f_4_0, f_0_1, x_loadI_1, y_iald_26, x_storeI_5, x_loadI_2, y_ic_ne_t, y_ic_ne_f, b_X5_yearsTillIn_41, x_loadI_5, y_ic_eq_t, y_ic_eq_f, b_X5_yearsTillIn_47, x_goto, b_X5_yearsTillIn_50, b_X5_yearsTillIn_56, x_ret0, b_X5_yearsTillIn_59, x_iinc_4, b_X5_yearsTillIn_65, q_isL_I, q_isL_R, q_isL_S, true_and, and_true, and_self, List.length_nil, List.length_cons, Nat.zero_add, x_K, x_Kn, Int.reduceToNat, Nat.reduceAdd, Nat.reduceMul, Nat.reduceLeDiff, Nat.reduceLT, Nat.zero_le, Int.reduceAdd, Int.reduceSub, Int.reduceMul, Int.reduceNeg, q_add_e, q_sub_e, q_mul_e, q_neg_e, q_upd_s, q_upd_n, zr_shr0, zr_shr1, zr_shr2, zr_shr3, zr_shr4, zr_and, zr_dyn8, zr_or, zr_shl, q_cpy_n, y_cpy26, hl, Int.toNat_natCast]
        exact hq M1 hf
    · rw [if_neg hit] at hq
      by_cases hb : b = -1
      · have h5 : M1 (38 + 3) p = 5 := Decidable.byContradiction fun z => hit (decide_eq_true (Or.inl ⟨hb, z⟩))
        simp (disch := omega) only [b_X5_yearsTillIn_0, x_iconst, x_storeI_4, b_X5_yearsTillIn_3, x_loadI_4, x_loadI_3, y_ic_gt_t, y_ic_gt_f, b_X5_yearsTillIn_9, y_if_le_t, y_if_le_f, b_X5_yearsTillIn_14, x_loadR_0, x_loadS_0, f_5_4, x_popI, x_popR, f_4_0, f_0_1, x_loadI_1, y_iald_26, x_storeI_5, x_loadI_2, y_ic_ne_t, y_ic_ne_f, b_X5_yearsTillIn_41, x_loadI_5, y_ic_eq_t, y_ic_eq_f, b_X5_yearsTillIn_47, x_goto, b_X5_yearsTillIn_50, b_X5_yearsTillIn_56, x_ret0, b_X5_yearsTillIn_59, x_iinc_4, b_X5_yearsTillIn_65, q_isL_I, q_isL_R, q_isL_S, true_and, and_true, and_self, List.length_nil, List.length_cons, Nat.zero_add, x_K, x_Kn, Int.reduceToNat, Nat.reduceAdd, Nat.reduceMul, Nat.reduceLeDiff, Nat.reduceLT, Nat.zero_le, Int.reduceAdd, Int.reduceSub, Int.reduceMul, Int.reduceNeg, q_add_e, q_sub_e, q_mul_e, q_neg_e, q_upd_s, q_upd_n, zr_shr0, zr_shr1, zr_shr2, zr_shr3, zr_shr4, zr_and, zr_dyn8, zr_or, zr_shl, q_cpy_n, y_cpy26, hl, h5, Int.toNat_natCast, c_X4_passYear]
        exact next _ rfl hq
      · have h5 : M1 (38 + 3) p ≠ b := fun z => hit (decide_eq_true (Or.inr ⟨hb, z⟩))
        simp (disch := omega) only [b_X5_yearsTillIn_0, x_iconst, x_storeI_4, b_X5_yearsTillIn_3, x_loadI_4, x_loadI_3, y_ic_gt_t, y_ic_gt_f, b_X5_yearsTillIn_9, y_if_le_t, y_if_le_f, b_X5_yearsTillIn_14, x_loadR_0, x_loadS_0, f_5_4, x_popI, x_popR, f_4_0, f_0_1, x_loadI_1, y_iald_26, x_storeI_5, x_loadI_2, y_ic_ne_t, y_ic_ne_f, b_X5_yearsTillIn_41, x_loadI_5, y_ic_eq_t, y_ic_eq_f, b_X5_yearsTillIn_47, x_goto, b_X5_yearsTillIn_50, b_X5_yearsTillIn_56, x_ret0, b_X5_yearsTillIn_59, x_iinc_4, b_X5_yearsTillIn_65, q_isL_I, q_isL_R, q_isL_S, true_and, and_true, and_self, List.length_nil, List.length_cons, Nat.zero_add, x_K, x_Kn, Int.reduceToNat, Nat.reduceAdd, Nat.reduceMul, Nat.reduceLeDiff, Nat.reduceLT, Nat.zero_le, Int.reduceAdd, Int.reduceSub, Int.reduceMul, Int.reduceNeg, q_add_e, q_sub_e, q_mul_e, q_neg_e, q_upd_s, q_upd_n, zr_shr0, zr_shr1, zr_shr2, zr_shr3, zr_shr4, zr_and, zr_dyn8, zr_or, zr_shl, q_cpy_n, y_cpy26, hl, Int.toNat_natCast, c_X4_passYear]
        exact next _ rfl hq
end
section
/-! A WORLD with a room, a weight, vain or a place set -/
theorem cW_up3 {M : q_M} {w p : Nat} {v : Int} (hp : p < (M (w + 1) 5).toNat) : cW (q_upd M (w + 25) p v) w = q_upd (cW M w) 3 p v := by
  funext f i
  by_cases hf : f = 3 ∧ i = p
  · obtain ⟨rfl, rfl⟩ := hf
    rw [q_upd_s, cW_3 (by rw [q_upd_n (by omega)]; exact hp), q_upd_s]
  · rw [q_upd_n (by omega)]
    unfold cW
    split <;> simp (disch := omega) only [q_upd_n]
theorem cW_up6 {M : q_M} {w p : Nat} {v : Int} (hp : p < 5) : cW (q_upd M (w + 2) p v) w = q_upd (cW M w) 6 p v := by
  funext f i
  by_cases hf : f = 6 ∧ i = p
  · obtain ⟨rfl, rfl⟩ := hf
    rw [q_upd_s, cW_6 hp, q_upd_s]
  · rw [q_upd_n (by omega)]
    unfold cW
    split <;> simp (disch := omega) only [q_upd_n]
theorem cW_up7 {M : q_M} {w p : Nat} {v : Int} (hp : p < 5) : cW (q_upd M (w + 20) p v) w = q_upd (cW M w) 7 p v := by
  funext f i
  by_cases hf : f = 7 ∧ i = p
  · obtain ⟨rfl, rfl⟩ := hf
    rw [q_upd_s, cW_7 hp, q_upd_s]
  · rw [q_upd_n (by omega)]
    unfold cW
    split <;> simp (disch := omega) only [q_upd_n]
theorem q_wl_up2 {V : Nat → (Nat → Int) → Int} {w ta a i : Nat} {v : Int} {M : q_M} (hw : q_wl V M w ta) (h : (a = w + 25 ∧ 0 ≤ v ∧ v ≤ 99) ∨ (a = w + 2 ∧ 0 ≤ v ∧ v ≤ 6) ∨ (a = w + 20 ∧ i < 5 ∧ 0 ≤ v ∧ v ≤ 99) ∨ (a = w + 19 ∧ 0 ≤ v ∧ v ≤ 99)) : q_wl V (q_upd M a i v) w ta := by
  obtain ⟨⟨r0, r1, r2, r3, r4, r5, r6, r7, r8, r9, ra, rb, rc⟩, h2, h3, h4, h5, h6⟩ := hw
  refine ⟨⟨?_, ?_, q_upd_b r2 (by omega), q_upd_b r3 (by omega), q_upd_b r4 (by omega), q_upd_b r5 (by omega), q_upd_b r6 (by omega), q_upd_b r7 (by omega), q_upd_b r8 (by omega), q_upd_b r9 (by omega), q_upd_b ra (by omega), ?_, ?_⟩, h2, fun M' hM => h3 M' (fun x j hx => (hM x j hx).trans (q_upd_n (by omega))), (q_upd_n (by omega)).trans h4, h5, h6⟩
  · rw [q_upd_n (by omega)]
    exact r0
  · rw [q_upd_n (by omega)]
    exact r1
  · rw [q_upd_n (by omega)]
    exact rb
  · rw [q_upd_n (by omega)]
    exact rc
end
section
/-! THE CLASS'S ENTRIES: when -/
set_option maxHeartbeats 4000000 in
theorem sp_till {V : Nat → (Nat → Int) → Int} {d : Nat} {g : q_G} {M : q_M} {ta p n : Nat} {b : Int} {Q : Option q_V → q_G → q_M → Prop} (hn : n ≤ 1000) (hp6 : p < 6) (hp : p < (M (38 + 1) 5).toNat) (hw : q_wl V M 38 ta) (hz : ∀ p, p < 5 → M (38 + 1 + 3 + (1 + p)) 5 = 0) (hyr : M 38 9 + n ≤ 2000) (hq : ∀ M2 : q_M, q_th ta M M2 → Q (some (qI (F_till V (cW M 38) p b n 0))) g M2) : q_S 1 (d + 5) 106 [qR 5 0, qI p, qI b, qI n] g M Q := by
  rw [s_X5_yearsTillIn]
  simp (disch := omega) only [b_X5_yearsTillIn_0, x_iconst, x_storeI_4, b_X5_yearsTillIn_3, x_loadI_4, x_loadI_3, y_ic_gt_t, y_ic_gt_f, b_X5_yearsTillIn_9, y_if_le_t, y_if_le_f, b_X5_yearsTillIn_14, x_loadR_0, x_loadS_0, f_5_4, x_popI, x_popR, f_4_0, f_0_1, x_loadI_1, y_iald_26, x_storeI_5, x_loadI_2, y_ic_ne_t, y_ic_ne_f, b_X5_yearsTillIn_41, x_loadI_5, y_ic_eq_t, y_ic_eq_f, b_X5_yearsTillIn_47, x_goto, b_X5_yearsTillIn_50, b_X5_yearsTillIn_56, x_ret0, b_X5_yearsTillIn_59, x_iinc_4, b_X5_yearsTillIn_65, q_isL_I, q_isL_R, q_isL_S, true_and, and_true, and_self, List.length_nil, List.length_cons, Nat.zero_add, x_K, x_Kn, Int.reduceToNat, Nat.reduceAdd, Nat.reduceMul, Nat.reduceLeDiff, Nat.reduceLT, Nat.zero_le, Int.reduceAdd, Int.reduceSub, Int.reduceMul, Int.reduceNeg, q_add_e, q_sub_e, q_mul_e, q_neg_e, q_upd_s, q_upd_n, zr_shr0, zr_shr1, zr_shr2, zr_shr3, zr_shr4, zr_and, zr_dyn8, zr_or, zr_shl, q_cpy_n, y_cpy26]
  exact sp_tillL (S := cW M 38) (M := M) hn hp6 n 0 (by omega) _ M rfl hp hw rfl hz (by omega) q_th_rf hq
theorem sp_whenF {d : Nat} {g : q_G} {M : q_M} {p wt : Int} {Q : Option q_V → q_G → q_M → Prop} (h : ¬(0 ≤ p ∧ p < M 12 5)) (hq : Q (some (qI (-5))) g M) : q_S 1 (d + 1) 76 [qR 5 0, qI p, qI wt] g M Q := by
  rw [s_X5_when]
  simp (disch := omega) only [b_X5_when_0, x_loadR_0, x_loadS_0, x_loadI_1, y_if_ne_t, y_if_ne_f, b_X5_when_8, x_iconst, x_ret0, b_X5_when_11, x_loadI_2, y_ic_eq_t, y_ic_eq_f, b_X5_when_16, b_X5_when_23, b_X5_when_26, f_5_4, f_5_3, q_isL_I, q_isL_R, q_isL_S, true_and, and_true, and_self, List.length_nil, List.length_cons, Nat.zero_add, x_K, x_Kn, Int.reduceToNat, Nat.reduceAdd, Nat.reduceMul, Nat.reduceLeDiff, Nat.reduceLT, Nat.zero_le, Int.reduceAdd, Int.reduceSub, Int.reduceMul, Int.reduceNeg, q_add_e, q_sub_e, q_mul_e, q_neg_e, q_upd_s, q_upd_n, zr_shr0, zr_shr1, zr_shr2, zr_shr3, zr_shr4, zr_and, zr_dyn8, zr_or, zr_shl, q_cpy_n, y_cpy26, c_X5_isStone, sp_isStone, h, if_false]
  exact hq
theorem sp_whenG {d : Nat} {g : q_G} {M : q_M} {p wt : Int} {Q : Option q_V → q_G → q_M → Prop} (h : 0 ≤ p ∧ p < M 12 5) (h1 : wt ≠ -1) (h2 : ¬(0 ≤ wt ∧ wt < 5)) (hq : Q (some (qI (-7))) g M) : q_S 1 (d + 1) 76 [qR 5 0, qI p, qI wt] g M Q := by
  rw [s_X5_when]
  simp (disch := omega) only [b_X5_when_0, x_loadR_0, x_loadS_0, x_loadI_1, y_if_ne_t, y_if_ne_f, b_X5_when_8, x_iconst, x_ret0, b_X5_when_11, x_loadI_2, y_ic_eq_t, y_ic_eq_f, b_X5_when_16, b_X5_when_23, b_X5_when_26, f_5_4, f_5_3, q_isL_I, q_isL_R, q_isL_S, true_and, and_true, and_self, List.length_nil, List.length_cons, Nat.zero_add, x_K, x_Kn, Int.reduceToNat, Nat.reduceAdd, Nat.reduceMul, Nat.reduceLeDiff, Nat.reduceLT, Nat.zero_le, Int.reduceAdd, Int.reduceSub, Int.reduceMul, Int.reduceNeg, q_add_e, q_sub_e, q_mul_e, q_neg_e, q_upd_s, q_upd_n, zr_shr0, zr_shr1, zr_shr2, zr_shr3, zr_shr4, zr_and, zr_dyn8, zr_or, zr_shl, q_cpy_n, y_cpy26, c_X5_isStone, sp_isStone, h, c_X5_isBuilding, sp_isBuilding, h2, and_self, if_true, if_false]
  exact hq
set_option maxHeartbeats 4000000 in
theorem sp_when {V : Nat → (Nat → Int) → Int} {d : Nat} {g : q_G} {M : q_M} {ta p : Nat} {wt : Int} {Q : Option q_V → q_G → q_M → Prop} (ht : ta = 8 ∨ 125 ≤ ta) (hw : q_wl V M 11 ta) (hr : q_rg5 M 38) (hz : ∀ p, p < 5 → M (38 + 1 + 3 + (1 + p)) 5 = 0) (hy : M 11 9 ≤ 999) (hp : p < (M 12 5).toNat) (hwt : wt = -1 ∨ (0 ≤ wt ∧ wt < 5)) (hq : ∀ M2 : q_M, q_th ta M M2 → Q (some (qI (F_till V (cW M 11) p wt 60 0))) g M2) : q_S 1 (d + 6) 76 [qR 5 0, qI p, qI wt] g M Q := by
  have hla := hw.2.2.2.1
  have hta := hw.2.2.2.2.1
  have h12 : M 12 5 ≤ 5 := hw.1.1.2
  have hst : 0 ≤ (p : Int) ∧ (p : Int) < M 12 5 := ⟨by omega, by omega⟩
  have copy : ∀ (nx : Nat) (ops : List Instr) (ls st : List q_V), (∀ M2 : q_M, q_cpd 38 11 M M2 → q_T 1 (d + 6) qP_X5_when nx ops ls st g M2 Q) → q_S 1 (d + 5) 49 [qR 4 38, qR 4 11] g M (q_K 1 (d + 6) qP_X5_when nx ops ls st Q) := fun nx ops ls st h => sp_copyFrom (by omega) hla hta h
  have till : ∀ M2 : q_M, q_cpd 38 11 M M2 → ∀ (nx : Nat) (ops : List Instr) (ls st : List q_V), (∀ M3 : q_M, q_th ta M M3 → q_T 1 (d + 6) qP_X5_when nx ops ls (qI (F_till V (cW M 11) p wt 60 0) :: st) g M3 Q) → q_S 1 (d + 5) 106 [qR 5 0, qI p, qI wt, qI 60] g M2 (q_K 1 (d + 6) qP_X5_when nx ops ls st Q) := by
    intro M2 h2 nx ops ls st h
    obtain ⟨t1, t2, t3⟩ := q_think ht hw hr h2
    have e5 : M2 (38 + 1) 5 = M 12 5 := h2.2.1
    refine sp_till (n := 60) (by omega) (by omega) (by rw [e5]; exact hp) t1 (fun p hp => (h2.2.2.2.2 _ 5 (by omega)).trans (hz p hp)) (by omega) (fun M3 h3 => ?_)
    rw [t2]
    exact h M3 (q_th_tr (q_th_cpd h2) h3)
  rw [s_X5_when]
  rcases hwt with k | k
  · simp (disch := omega) only [b_X5_when_0, x_loadR_0, x_loadS_0, x_loadI_1, y_if_ne_t, y_if_ne_f, b_X5_when_8, x_iconst, x_ret0, b_X5_when_11, x_loadI_2, y_ic_eq_t, y_ic_eq_f, b_X5_when_16, b_X5_when_23, b_X5_when_26, f_5_4, f_5_3, q_isL_I, q_isL_R, q_isL_S, true_and, and_true, and_self, List.length_nil, List.length_cons, Nat.zero_add, x_K, x_Kn, Int.reduceToNat, Nat.reduceAdd, Nat.reduceMul, Nat.reduceLeDiff, Nat.reduceLT, Nat.zero_le, Int.reduceAdd, Int.reduceSub, Int.reduceMul, Int.reduceNeg, q_add_e, q_sub_e, q_mul_e, q_neg_e, q_upd_s, q_upd_n, zr_shr0, zr_shr1, zr_shr2, zr_shr3, zr_shr4, zr_and, zr_dyn8, zr_or, zr_shl, q_cpy_n, y_cpy26, c_X5_isStone, sp_isStone, hst, and_self, if_true, c_X4_copyFrom]
    refine copy _ _ _ _ (fun M2 h2 => ?_)
    simp (disch := omega) only [b_X5_when_0, x_loadR_0, x_loadS_0, x_loadI_1, y_if_ne_t, y_if_ne_f, b_X5_when_8, x_iconst, x_ret0, b_X5_when_11, x_loadI_2, y_ic_eq_t, y_ic_eq_f, b_X5_when_16, b_X5_when_23, b_X5_when_26, f_5_4, f_5_3, q_isL_I, q_isL_R, q_isL_S, true_and, and_true, and_self, List.length_nil, List.length_cons, Nat.zero_add, x_K, x_Kn, Int.reduceToNat, Nat.reduceAdd, Nat.reduceMul, Nat.reduceLeDiff, Nat.reduceLT, Nat.zero_le, Int.reduceAdd, Int.reduceSub, Int.reduceMul, Int.reduceNeg, q_add_e, q_sub_e, q_mul_e, q_neg_e, q_upd_s, q_upd_n, zr_shr0, zr_shr1, zr_shr2, zr_shr3, zr_shr4, zr_and, zr_dyn8, zr_or, zr_shl, q_cpy_n, y_cpy26, c_X5_yearsTillIn]
    refine till M2 h2 _ _ _ _ (fun M3 h3 => ?_)
    simp (disch := omega) only [b_X5_when_0, x_loadR_0, x_loadS_0, x_loadI_1, y_if_ne_t, y_if_ne_f, b_X5_when_8, x_iconst, x_ret0, b_X5_when_11, x_loadI_2, y_ic_eq_t, y_ic_eq_f, b_X5_when_16, b_X5_when_23, b_X5_when_26, f_5_4, f_5_3, q_isL_I, q_isL_R, q_isL_S, true_and, and_true, and_self, List.length_nil, List.length_cons, Nat.zero_add, x_K, x_Kn, Int.reduceToNat, Nat.reduceAdd, Nat.reduceMul, Nat.reduceLeDiff, Nat.reduceLT, Nat.zero_le, Int.reduceAdd, Int.reduceSub, Int.reduceMul, Int.reduceNeg, q_add_e, q_sub_e, q_mul_e, q_neg_e, q_upd_s, q_upd_n, zr_shr0, zr_shr1, zr_shr2, zr_shr3, zr_shr4, zr_and, zr_dyn8, zr_or, zr_shl, q_cpy_n, y_cpy26]
    exact hq M3 h3
  · simp (disch := omega) only [b_X5_when_0, x_loadR_0, x_loadS_0, x_loadI_1, y_if_ne_t, y_if_ne_f, b_X5_when_8, x_iconst, x_ret0, b_X5_when_11, x_loadI_2, y_ic_eq_t, y_ic_eq_f, b_X5_when_16, b_X5_when_23, b_X5_when_26, f_5_4, f_5_3, q_isL_I, q_isL_R, q_isL_S, true_and, and_true, and_self, List.length_nil, List.length_cons, Nat.zero_add, x_K, x_Kn, Int.reduceToNat, Nat.reduceAdd, Nat.reduceMul, Nat.reduceLeDiff, Nat.reduceLT, Nat.zero_le, Int.reduceAdd, Int.reduceSub, Int.reduceMul, Int.reduceNeg, q_add_e, q_sub_e, q_mul_e, q_neg_e, q_upd_s, q_upd_n, zr_shr0, zr_shr1, zr_shr2, zr_shr3, zr_shr4, zr_and, zr_dyn8, zr_or, zr_shl, q_cpy_n, y_cpy26, c_X5_isStone, sp_isStone, hst, c_X5_isBuilding, sp_isBuilding, k, and_self, if_true, c_X4_copyFrom]
    refine copy _ _ _ _ (fun M2 h2 => ?_)
    simp (disch := omega) only [b_X5_when_0, x_loadR_0, x_loadS_0, x_loadI_1, y_if_ne_t, y_if_ne_f, b_X5_when_8, x_iconst, x_ret0, b_X5_when_11, x_loadI_2, y_ic_eq_t, y_ic_eq_f, b_X5_when_16, b_X5_when_23, b_X5_when_26, f_5_4, f_5_3, q_isL_I, q_isL_R, q_isL_S, true_and, and_true, and_self, List.length_nil, List.length_cons, Nat.zero_add, x_K, x_Kn, Int.reduceToNat, Nat.reduceAdd, Nat.reduceMul, Nat.reduceLeDiff, Nat.reduceLT, Nat.zero_le, Int.reduceAdd, Int.reduceSub, Int.reduceMul, Int.reduceNeg, q_add_e, q_sub_e, q_mul_e, q_neg_e, q_upd_s, q_upd_n, zr_shr0, zr_shr1, zr_shr2, zr_shr3, zr_shr4, zr_and, zr_dyn8, zr_or, zr_shl, q_cpy_n, y_cpy26, c_X5_yearsTillIn]
    refine till M2 h2 _ _ _ _ (fun M3 h3 => ?_)
    simp (disch := omega) only [b_X5_when_0, x_loadR_0, x_loadS_0, x_loadI_1, y_if_ne_t, y_if_ne_f, b_X5_when_8, x_iconst, x_ret0, b_X5_when_11, x_loadI_2, y_ic_eq_t, y_ic_eq_f, b_X5_when_16, b_X5_when_23, b_X5_when_26, f_5_4, f_5_3, q_isL_I, q_isL_R, q_isL_S, true_and, and_true, and_self, List.length_nil, List.length_cons, Nat.zero_add, x_K, x_Kn, Int.reduceToNat, Nat.reduceAdd, Nat.reduceMul, Nat.reduceLeDiff, Nat.reduceLT, Nat.zero_le, Int.reduceAdd, Int.reduceSub, Int.reduceMul, Int.reduceNeg, q_add_e, q_sub_e, q_mul_e, q_neg_e, q_upd_s, q_upd_n, zr_shr0, zr_shr1, zr_shr2, zr_shr3, zr_shr4, zr_and, zr_dyn8, zr_or, zr_shl, q_cpy_n, y_cpy26]
    exact hq M3 h3
end
section
/-! THE CLASS'S CHOICE: the sums, asked of its own cells alone -/
theorem F_sum_le2 {L : Nat → Nat → Int} {f : Nat → Int} {N : Nat} (hf : ∀ i, 0 ≤ f i ∧ f i ≤ 5) (hL : ∀ p b, p < N → b < 6 → -1000 ≤ L p b ∧ L p b ≤ 1000) : ∀ n : Nat, n ≤ N → -1000 * n ≤ F_sum L f n ∧ F_sum L f n ≤ 1000 * n
  | 0, _ => by rw [F_sum]; omega
  | n + 1, hn => by
    have h := F_sum_le2 hf hL n (by omega)
    have h3 := hf n
    have h2 := hL n (f n).toNat (by omega) (by omega)
    rw [F_sum]
    omega
theorem sp_liked2 {d : Nat} {g : q_G} {M : q_M} {c : Nat} (h0 : 0 ≤ M c 5) (h5 : M c 5 ≤ 5) (hf : ∀ i, 0 ≤ M (c + 2) i ∧ M (c + 2) i ≤ 5) (hL : ∀ p b, p < (M c 5).toNat → b < 6 → -1000 ≤ M (c + 3 + (1 + p)) b ∧ M (c + 3 + (1 + p)) b ≤ 1000) (Q : Option q_V → q_G → q_M → Prop) : q_S 1 d 7 [qR 0 c] g M Q = Q (some (qI (F_sum (fun p => M (c + 3 + (1 + p))) (M (c + 2)) (M c 5).toNat))) g M := by
  refine q_S_eq (fun Q hq => ?_) Q
  rw [s_X0_liked]
  have loop : ∀ k p : Nat, p + k = (M c 5).toNat → q_T 1 d qP_X0_liked 4 [] [qR 0 c, qI (F_sum (fun p => M (c + 3 + (1 + p))) (M (c + 2)) p), qI p] [] g M Q := by
    intro k
    induction k with
    | zero =>
      intro p hp
      have e : p = (M c 5).toNat := by omega
      subst e
      rw [b_X0_liked_4]
      simp (disch := omega) only [b_X0_liked_0, x_iconst, x_storeI_1, x_storeI_2, x_loadI_2, x_loadR_0, x_loadS_0, f_0_5, y_ic_ge_t, y_ic_ge_f, b_X0_liked_12, x_loadI_1, f_0_2, y_aald7, f_0_1, y_iald_26, x_iadd, x_iinc_2, x_goto, b_X0_liked_34, x_ret0, q_isL_I, q_isL_R, q_isL_S, true_and, and_true, and_self, List.length_nil, List.length_cons, Nat.zero_add, x_K, x_Kn, Int.reduceToNat, Nat.reduceAdd, Nat.reduceMul, Nat.reduceLeDiff, Nat.reduceLT, Nat.zero_le, Int.reduceAdd, Int.reduceSub, Int.reduceMul, Int.reduceNeg, q_add_e, q_sub_e, q_mul_e, q_neg_e, q_upd_s, q_upd_n, zr_shr0, zr_shr1, zr_shr2, zr_shr3, zr_shr4, zr_and, zr_dyn8, zr_or, zr_shl, q_cpy_n, y_cpy26]
      exact hq
    | succ k ih =>
      intro p hp
      have hc := F_sum_le2 (N := (M c 5).toNat) (L := fun p => M (c + 3 + (1 + p))) (f := M (c + 2)) hf hL p (by omega)
      have hp9 := hf p
      have hl9 := hL p (M (c + 2) p).toNat (by omega) (by omega)
      have h9 := ih (p + 1) (by omega)
      rw [F_sum] at h9
      rw [b_X0_liked_4]
      simp (disch := omega) only [b_X0_liked_0, x_iconst, x_storeI_1, x_storeI_2, x_loadI_2, x_loadR_0, x_loadS_0, f_0_5, y_ic_ge_t, y_ic_ge_f, b_X0_liked_12, x_loadI_1, f_0_2, y_aald7, f_0_1, y_iald_26, x_iadd, x_iinc_2, x_goto, b_X0_liked_34, x_ret0, q_isL_I, q_isL_R, q_isL_S, true_and, and_true, and_self, List.length_nil, List.length_cons, Nat.zero_add, x_K, x_Kn, Int.reduceToNat, Nat.reduceAdd, Nat.reduceMul, Nat.reduceLeDiff, Nat.reduceLT, Nat.zero_le, Int.reduceAdd, Int.reduceSub, Int.reduceMul, Int.reduceNeg, q_add_e, q_sub_e, q_mul_e, q_neg_e, q_upd_s, q_upd_n, zr_shr0, zr_shr1, zr_shr2, zr_shr3, zr_shr4, zr_and, zr_dyn8, zr_or, zr_shl, q_cpy_n, y_cpy26, Int.toNat_natCast]
      exact h9
  simp (disch := omega) only [b_X0_liked_0, x_iconst, x_storeI_1, x_storeI_2, x_loadI_2, x_loadR_0, x_loadS_0, f_0_5, y_ic_ge_t, y_ic_ge_f, b_X0_liked_12, x_loadI_1, f_0_2, y_aald7, f_0_1, y_iald_26, x_iadd, x_iinc_2, x_goto, b_X0_liked_34, x_ret0, q_isL_I, q_isL_R, q_isL_S, true_and, and_true, and_self, List.length_nil, List.length_cons, Nat.zero_add, x_K, x_Kn, Int.reduceToNat, Nat.reduceAdd, Nat.reduceMul, Nat.reduceLeDiff, Nat.reduceLT, Nat.zero_le, Int.reduceAdd, Int.reduceSub, Int.reduceMul, Int.reduceNeg, q_add_e, q_sub_e, q_mul_e, q_neg_e, q_upd_s, q_upd_n, zr_shr0, zr_shr1, zr_shr2, zr_shr3, zr_shr4, zr_and, zr_dyn8, zr_or, zr_shl, q_cpy_n, y_cpy26]
  exact loop (M c 5).toNat 0 (by omega)
theorem sp_wanted2 {d : Nat} {g : q_G} {M : q_M} {c : Nat} (h0 : 0 ≤ M c 5) (h5 : M c 5 ≤ 5) (hf : ∀ i, 0 ≤ M (c + 2) i ∧ M (c + 2) i ≤ 5) (hL : ∀ p b, p < (M c 5).toNat → b < 6 → -1000 ≤ M (c + 10 + (1 + p)) b ∧ M (c + 10 + (1 + p)) b ≤ 1000) (Q : Option q_V → q_G → q_M → Prop) : q_S 1 d 8 [qR 0 c] g M Q = Q (some (qI (F_sum (fun p => M (c + 10 + (1 + p))) (M (c + 2)) (M c 5).toNat))) g M := by
  refine q_S_eq (fun Q hq => ?_) Q
  rw [s_X0_wanted]
  have loop : ∀ k p : Nat, p + k = (M c 5).toNat → q_T 1 d qP_X0_wanted 4 [] [qR 0 c, qI (F_sum (fun p => M (c + 10 + (1 + p))) (M (c + 2)) p), qI p] [] g M Q := by
    intro k
    induction k with
    | zero =>
      intro p hp
      have e : p = (M c 5).toNat := by omega
      subst e
      rw [b_X0_wanted_4]
      simp (disch := omega) only [b_X0_wanted_0, x_iconst, x_storeI_1, x_storeI_2, x_loadI_2, x_loadR_0, x_loadS_0, f_0_5, y_ic_ge_t, y_ic_ge_f, b_X0_wanted_12, x_loadI_1, f_0_3, y_aald7, f_0_1, y_iald_26, x_iadd, x_iinc_2, x_goto, b_X0_wanted_34, x_ret0, q_isL_I, q_isL_R, q_isL_S, true_and, and_true, and_self, List.length_nil, List.length_cons, Nat.zero_add, x_K, x_Kn, Int.reduceToNat, Nat.reduceAdd, Nat.reduceMul, Nat.reduceLeDiff, Nat.reduceLT, Nat.zero_le, Int.reduceAdd, Int.reduceSub, Int.reduceMul, Int.reduceNeg, q_add_e, q_sub_e, q_mul_e, q_neg_e, q_upd_s, q_upd_n, zr_shr0, zr_shr1, zr_shr2, zr_shr3, zr_shr4, zr_and, zr_dyn8, zr_or, zr_shl, q_cpy_n, y_cpy26]
      exact hq
    | succ k ih =>
      intro p hp
      have hc := F_sum_le2 (N := (M c 5).toNat) (L := fun p => M (c + 10 + (1 + p))) (f := M (c + 2)) hf hL p (by omega)
      have hp9 := hf p
      have hl9 := hL p (M (c + 2) p).toNat (by omega) (by omega)
      have h9 := ih (p + 1) (by omega)
      rw [F_sum] at h9
      rw [b_X0_wanted_4]
      simp (disch := omega) only [b_X0_wanted_0, x_iconst, x_storeI_1, x_storeI_2, x_loadI_2, x_loadR_0, x_loadS_0, f_0_5, y_ic_ge_t, y_ic_ge_f, b_X0_wanted_12, x_loadI_1, f_0_3, y_aald7, f_0_1, y_iald_26, x_iadd, x_iinc_2, x_goto, b_X0_wanted_34, x_ret0, q_isL_I, q_isL_R, q_isL_S, true_and, and_true, and_self, List.length_nil, List.length_cons, Nat.zero_add, x_K, x_Kn, Int.reduceToNat, Nat.reduceAdd, Nat.reduceMul, Nat.reduceLeDiff, Nat.reduceLT, Nat.zero_le, Int.reduceAdd, Int.reduceSub, Int.reduceMul, Int.reduceNeg, q_add_e, q_sub_e, q_mul_e, q_neg_e, q_upd_s, q_upd_n, zr_shr0, zr_shr1, zr_shr2, zr_shr3, zr_shr4, zr_and, zr_dyn8, zr_or, zr_shl, q_cpy_n, y_cpy26, Int.toNat_natCast]
      exact h9
  simp (disch := omega) only [b_X0_wanted_0, x_iconst, x_storeI_1, x_storeI_2, x_loadI_2, x_loadR_0, x_loadS_0, f_0_5, y_ic_ge_t, y_ic_ge_f, b_X0_wanted_12, x_loadI_1, f_0_3, y_aald7, f_0_1, y_iald_26, x_iadd, x_iinc_2, x_goto, b_X0_wanted_34, x_ret0, q_isL_I, q_isL_R, q_isL_S, true_and, and_true, and_self, List.length_nil, List.length_cons, Nat.zero_add, x_K, x_Kn, Int.reduceToNat, Nat.reduceAdd, Nat.reduceMul, Nat.reduceLeDiff, Nat.reduceLT, Nat.zero_le, Int.reduceAdd, Int.reduceSub, Int.reduceMul, Int.reduceNeg, q_add_e, q_sub_e, q_mul_e, q_neg_e, q_upd_s, q_upd_n, zr_shr0, zr_shr1, zr_shr2, zr_shr3, zr_shr4, zr_and, zr_dyn8, zr_or, zr_shl, q_cpy_n, y_cpy26]
  exact loop (M c 5).toNat 0 (by omega)
end
section
/-! THE CLASS'S ENTRIES: peace -/
theorem F_wants_le9 {V : Nat → (Nat → Int) → Int} {M : q_M} {w ta p b : Nat} (hw : q_wl V M w ta) (hp : p < (M (w + 1) 5).toNat) : -99 ≤ F_wants V (cW M w) p b ∧ F_wants V (cW M w) p b ≤ 189 := F_wants_le (by rw [cW_1 hp]; exact hw.1.2.2.2.1 p)
theorem q_tld_L {V : Nat → (Nat → Int) → Int} {M M2 : q_M} {w ta : Nat} (hf : q_tel w ta M M2) (hn : M (w + 1) 5 ≤ 5) (hd : w + 27 < ta ∨ ta + 2 < w) (hz : ∀ p, p < 5 → M (w + 1 + 3 + (1 + p)) 5 = 0) (ht : ∀ p b, p < (M (w + 1) 5).toNat → b < 5 → q_tld V w (cW M w) M2 p b) : ∀ p b, p < (M2 (w + 1) 5).toNat → b < 6 → -1000 ≤ M2 (w + 1 + 3 + (1 + p)) b ∧ M2 (w + 1 + 3 + (1 + p)) b ≤ 1000 := by
  intro p b hp hb
  have e5 : M2 (w + 1) 5 = M (w + 1) 5 := hf (w + 1) 5 (by omega) (by omega) (by omega)
  rw [e5] at hp
  by_cases c : b < 5
  · rw [(ht p b hp c).1]
    have h := F_likes_le (V := V) (S := cW M w) (p := p) (b := b)
    omega
  · have e : b = 5 := by omega
    subst e
    rw [hf _ 5 (by omega) (by omega) (by omega), hz p (by omega)]
    omega
theorem q_tld_W {V : Nat → (Nat → Int) → Int} {M M2 : q_M} {w ta : Nat} (hw : q_wl V M w ta) (hf : q_tel w ta M M2) (hz : ∀ p, p < 5 → M (w + 1 + 10 + (1 + p)) 5 = 0) (ht : ∀ p b, p < (M (w + 1) 5).toNat → b < 5 → q_tld V w (cW M w) M2 p b) : ∀ p b, p < (M2 (w + 1) 5).toNat → b < 6 → -1000 ≤ M2 (w + 1 + 10 + (1 + p)) b ∧ M2 (w + 1 + 10 + (1 + p)) b ≤ 1000 := by
  intro p b hp hb
  have hn := hw.1.1
  have hd := hw.2.2.2.2.2
  have e5 : M2 (w + 1) 5 = M (w + 1) 5 := hf (w + 1) 5 (by omega) (by omega) (by omega)
  rw [e5] at hp
  by_cases c : b < 5
  · rw [(ht p b hp c).2]
    have h := F_wants_le9 (b := b) hw hp
    omega
  · have e : b = 5 := by omega
    subst e
    rw [hf _ 5 (by omega) (by omega) (by omega), hz p (by omega)]
    omega
end
section
/-! THE CLASS'S ENTRIES: peace, answered of its own cells -/
def q_pcA (M : q_M) (c : Nat) (wt : Int) : Int := if wt = 0 then F_cmp (q_Lk M c) (q_Tk M c) (M (c + 2)) (M c 5).toNat 0 else if wt = 1 then F_sum (fun p => M (c + 3 + (1 + p))) (M (c + 2)) (M c 5).toNat else F_sum (fun p => M (c + 10 + (1 + p))) (M (c + 2)) (M c 5).toNat
theorem sp_peaceF {d : Nat} {g : q_G} {M : q_M} {wt : Int} {Q : Option q_V → q_G → q_M → Prop} (h : wt < 0 ∨ 2 < wt) (hq : Q (some (qI (-100000))) g M) : q_S 1 d 77 [qR 5 0, qI wt] g M Q := by
  rw [s_X5_peace]
  rcases h with h | h
  · simp (disch := omega) only [b_X5_peace_0, x_loadI_1, y_if_lt_t, y_if_lt_f, b_X5_peace_4, x_iconst, y_ic_le_t, y_ic_le_f, b_X5_peace_9, x_ret0, b_X5_peace_12, x_loadR_0, x_loadS_0, f_5_3, tw_6_0, tw_6_1, tw_6_o, b_X5_peace_48, f_4_0, b_X5_peace_59, b_X5_peace_70, q_isL_I, q_isL_R, q_isL_S, true_and, and_true, and_self, List.length_nil, List.length_cons, Nat.zero_add, x_K, x_Kn, Int.reduceToNat, Nat.reduceAdd, Nat.reduceMul, Nat.reduceLeDiff, Nat.reduceLT, Nat.zero_le, Int.reduceAdd, Int.reduceSub, Int.reduceMul, Int.reduceNeg, q_add_e, q_sub_e, q_mul_e, q_neg_e, q_upd_s, q_upd_n, zr_shr0, zr_shr1, zr_shr2, zr_shr3, zr_shr4, zr_and, zr_dyn8, zr_or, zr_shl, q_cpy_n, y_cpy26]
    exact hq
  · simp (disch := omega) only [b_X5_peace_0, x_loadI_1, y_if_lt_t, y_if_lt_f, b_X5_peace_4, x_iconst, y_ic_le_t, y_ic_le_f, b_X5_peace_9, x_ret0, b_X5_peace_12, x_loadR_0, x_loadS_0, f_5_3, tw_6_0, tw_6_1, tw_6_o, b_X5_peace_48, f_4_0, b_X5_peace_59, b_X5_peace_70, q_isL_I, q_isL_R, q_isL_S, true_and, and_true, and_self, List.length_nil, List.length_cons, Nat.zero_add, x_K, x_Kn, Int.reduceToNat, Nat.reduceAdd, Nat.reduceMul, Nat.reduceLeDiff, Nat.reduceLT, Nat.zero_le, Int.reduceAdd, Int.reduceSub, Int.reduceMul, Int.reduceNeg, q_add_e, q_sub_e, q_mul_e, q_neg_e, q_upd_s, q_upd_n, zr_shr0, zr_shr1, zr_shr2, zr_shr3, zr_shr4, zr_and, zr_dyn8, zr_or, zr_shl, q_cpy_n, y_cpy26]
    exact hq
set_option maxHeartbeats 4000000 in
theorem sp_peace {V : Nat → (Nat → Int) → Int} {d : Nat} {g : q_G} {M : q_M} {ta : Nat} {wt : Int} {Q : Option q_V → q_G → q_M → Prop} (hw : q_wl V M 11 ta) (hz : ∀ p, p < 5 → M (11 + 1 + 3 + (1 + p)) 5 = 0) (hz2 : ∀ p, p < 5 → M (11 + 1 + 10 + (1 + p)) 5 = 0) (hwt : 0 ≤ wt ∧ wt ≤ 2) (hq : ∀ M2 : q_M, q_tel 11 ta M M2 → (∀ p b, p < (M (11 + 1) 5).toNat → b < 5 → q_tld V 11 (cW M 11) M2 p b) → Q (some (qI (q_pcA M2 12 wt))) g M2) : q_S 1 (d + 4) 77 [qR 5 0, qI wt] g M Q := by
  have tell : ∀ (nx : Nat) (ops : List Instr) (ls st : List q_V), (∀ M2 : q_M, q_tel 11 ta M M2 → (∀ p b, p < (M (11 + 1) 5).toNat → b < 5 → q_tld V 11 (cW M 11) M2 p b) → q_T 1 (d + 4) qP_X5_peace nx ops ls st g M2 Q) → q_S 1 (d + 3) 57 [qR 4 11] g M (q_K 1 (d + 4) qP_X5_peace nx ops ls st Q) := fun nx ops ls st h => sp_tellAll hw h
  rw [s_X5_peace]
  simp (disch := omega) only [b_X5_peace_0, x_loadI_1, y_if_lt_t, y_if_lt_f, b_X5_peace_4, x_iconst, y_ic_le_t, y_ic_le_f, b_X5_peace_9, x_ret0, b_X5_peace_12, x_loadR_0, x_loadS_0, f_5_3, tw_6_0, tw_6_1, tw_6_o, b_X5_peace_48, f_4_0, b_X5_peace_59, b_X5_peace_70, q_isL_I, q_isL_R, q_isL_S, true_and, and_true, and_self, List.length_nil, List.length_cons, Nat.zero_add, x_K, x_Kn, Int.reduceToNat, Nat.reduceAdd, Nat.reduceMul, Nat.reduceLeDiff, Nat.reduceLT, Nat.zero_le, Int.reduceAdd, Int.reduceSub, Int.reduceMul, Int.reduceNeg, q_add_e, q_sub_e, q_mul_e, q_neg_e, q_upd_s, q_upd_n, zr_shr0, zr_shr1, zr_shr2, zr_shr3, zr_shr4, zr_and, zr_dyn8, zr_or, zr_shl, q_cpy_n, y_cpy26, c_X4_tellAll]
  refine tell _ _ _ _ (fun M2 h2 h3 => ?_)
  have w2 := q_tel_wl h2 hw
  have bL := q_tld_L h2 hw.1.1.2 hw.2.2.2.2.2 hz h3
  have bW := q_tld_W hw h2 hz2 h3
  have a := hq M2 h2 h3
  have n0 : 0 ≤ M2 12 5 := w2.1.1.1
  have n5 : M2 12 5 ≤ 5 := w2.1.1.2
  have hin : ∀ i, 0 ≤ M2 (12 + 2) i ∧ M2 (12 + 2) i ≤ 5 := w2.1.2.2.2.2.2.2.1
  unfold q_pcA at a
  rcases (show wt = 0 ∨ wt = 1 ∨ wt = 2 by omega) with k | k | k
  · subst k
    rw [if_pos rfl] at a
    simp (disch := omega) only [b_X5_peace_0, x_loadI_1, y_if_lt_t, y_if_lt_f, b_X5_peace_4, x_iconst, y_ic_le_t, y_ic_le_f, b_X5_peace_9, x_ret0, b_X5_peace_12, x_loadR_0, x_loadS_0, f_5_3, tw_6_0, tw_6_1, tw_6_o, b_X5_peace_48, f_4_0, b_X5_peace_59, b_X5_peace_70, q_isL_I, q_isL_R, q_isL_S, true_and, and_true, and_self, List.length_nil, List.length_cons, Nat.zero_add, x_K, x_Kn, Int.reduceToNat, Nat.reduceAdd, Nat.reduceMul, Nat.reduceLeDiff, Nat.reduceLT, Nat.zero_le, Int.reduceAdd, Int.reduceSub, Int.reduceMul, Int.reduceNeg, q_add_e, q_sub_e, q_mul_e, q_neg_e, q_upd_s, q_upd_n, zr_shr0, zr_shr1, zr_shr2, zr_shr3, zr_shr4, zr_and, zr_dyn8, zr_or, zr_shl, q_cpy_n, y_cpy26, c_X0_complaint]
    refine sp_complaint n0 n5 hin ?_
    simp (disch := omega) only [b_X5_peace_0, x_loadI_1, y_if_lt_t, y_if_lt_f, b_X5_peace_4, x_iconst, y_ic_le_t, y_ic_le_f, b_X5_peace_9, x_ret0, b_X5_peace_12, x_loadR_0, x_loadS_0, f_5_3, tw_6_0, tw_6_1, tw_6_o, b_X5_peace_48, f_4_0, b_X5_peace_59, b_X5_peace_70, q_isL_I, q_isL_R, q_isL_S, true_and, and_true, and_self, List.length_nil, List.length_cons, Nat.zero_add, x_K, x_Kn, Int.reduceToNat, Nat.reduceAdd, Nat.reduceMul, Nat.reduceLeDiff, Nat.reduceLT, Nat.zero_le, Int.reduceAdd, Int.reduceSub, Int.reduceMul, Int.reduceNeg, q_add_e, q_sub_e, q_mul_e, q_neg_e, q_upd_s, q_upd_n, zr_shr0, zr_shr1, zr_shr2, zr_shr3, zr_shr4, zr_and, zr_dyn8, zr_or, zr_shl, q_cpy_n, y_cpy26]
    exact a
  · subst k
    rw [if_neg (by decide), if_pos rfl] at a
    simp (disch := omega) only [b_X5_peace_0, x_loadI_1, y_if_lt_t, y_if_lt_f, b_X5_peace_4, x_iconst, y_ic_le_t, y_ic_le_f, b_X5_peace_9, x_ret0, b_X5_peace_12, x_loadR_0, x_loadS_0, f_5_3, tw_6_0, tw_6_1, tw_6_o, b_X5_peace_48, f_4_0, b_X5_peace_59, b_X5_peace_70, q_isL_I, q_isL_R, q_isL_S, true_and, and_true, and_self, List.length_nil, List.length_cons, Nat.zero_add, x_K, x_Kn, Int.reduceToNat, Nat.reduceAdd, Nat.reduceMul, Nat.reduceLeDiff, Nat.reduceLT, Nat.zero_le, Int.reduceAdd, Int.reduceSub, Int.reduceMul, Int.reduceNeg, q_add_e, q_sub_e, q_mul_e, q_neg_e, q_upd_s, q_upd_n, zr_shr0, zr_shr1, zr_shr2, zr_shr3, zr_shr4, zr_and, zr_dyn8, zr_or, zr_shl, q_cpy_n, y_cpy26, c_X0_liked]
    rw [sp_liked2 n0 n5 hin bL]
    simp (disch := omega) only [b_X5_peace_0, x_loadI_1, y_if_lt_t, y_if_lt_f, b_X5_peace_4, x_iconst, y_ic_le_t, y_ic_le_f, b_X5_peace_9, x_ret0, b_X5_peace_12, x_loadR_0, x_loadS_0, f_5_3, tw_6_0, tw_6_1, tw_6_o, b_X5_peace_48, f_4_0, b_X5_peace_59, b_X5_peace_70, q_isL_I, q_isL_R, q_isL_S, true_and, and_true, and_self, List.length_nil, List.length_cons, Nat.zero_add, x_K, x_Kn, Int.reduceToNat, Nat.reduceAdd, Nat.reduceMul, Nat.reduceLeDiff, Nat.reduceLT, Nat.zero_le, Int.reduceAdd, Int.reduceSub, Int.reduceMul, Int.reduceNeg, q_add_e, q_sub_e, q_mul_e, q_neg_e, q_upd_s, q_upd_n, zr_shr0, zr_shr1, zr_shr2, zr_shr3, zr_shr4, zr_and, zr_dyn8, zr_or, zr_shl, q_cpy_n, y_cpy26]
    exact a
  · subst k
    rw [if_neg (by decide), if_neg (by decide)] at a
    simp (disch := omega) only [b_X5_peace_0, x_loadI_1, y_if_lt_t, y_if_lt_f, b_X5_peace_4, x_iconst, y_ic_le_t, y_ic_le_f, b_X5_peace_9, x_ret0, b_X5_peace_12, x_loadR_0, x_loadS_0, f_5_3, tw_6_0, tw_6_1, tw_6_o, b_X5_peace_48, f_4_0, b_X5_peace_59, b_X5_peace_70, q_isL_I, q_isL_R, q_isL_S, true_and, and_true, and_self, List.length_nil, List.length_cons, Nat.zero_add, x_K, x_Kn, Int.reduceToNat, Nat.reduceAdd, Nat.reduceMul, Nat.reduceLeDiff, Nat.reduceLT, Nat.zero_le, Int.reduceAdd, Int.reduceSub, Int.reduceMul, Int.reduceNeg, q_add_e, q_sub_e, q_mul_e, q_neg_e, q_upd_s, q_upd_n, zr_shr0, zr_shr1, zr_shr2, zr_shr3, zr_shr4, zr_and, zr_dyn8, zr_or, zr_shl, q_cpy_n, y_cpy26, c_X0_wanted]
    rw [sp_wanted2 n0 n5 hin bW]
    simp (disch := omega) only [b_X5_peace_0, x_loadI_1, y_if_lt_t, y_if_lt_f, b_X5_peace_4, x_iconst, y_ic_le_t, y_ic_le_f, b_X5_peace_9, x_ret0, b_X5_peace_12, x_loadR_0, x_loadS_0, f_5_3, tw_6_0, tw_6_1, tw_6_o, b_X5_peace_48, f_4_0, b_X5_peace_59, b_X5_peace_70, q_isL_I, q_isL_R, q_isL_S, true_and, and_true, and_self, List.length_nil, List.length_cons, Nat.zero_add, x_K, x_Kn, Int.reduceToNat, Nat.reduceAdd, Nat.reduceMul, Nat.reduceLeDiff, Nat.reduceLT, Nat.zero_le, Int.reduceAdd, Int.reduceSub, Int.reduceMul, Int.reduceNeg, q_add_e, q_sub_e, q_mul_e, q_neg_e, q_upd_s, q_upd_n, zr_shr0, zr_shr1, zr_shr2, zr_shr3, zr_shr4, zr_and, zr_dyn8, zr_or, zr_shl, q_cpy_n, y_cpy26]
    exact a
end
section
/-! WHO IS IN WHAT stays within its bounds -/
def q_f5 (f : Nat → Int) : Prop := ∀ i, 0 ≤ f i ∧ f i ≤ 5
theorem F_u_b {f : Nat → Int} {p : Nat} {v : Int} (h : q_f5 f) (h0 : 0 ≤ v) (h5 : v ≤ 5) : q_f5 (F_u f p v) := by
  intro i
  unfold F_u
  by_cases e : i = p
  · rw [if_pos e]
    exact ⟨h0, h5⟩
  · rw [if_neg e]
    exact h i
theorem F_ask_b {W : Nat → Nat → Int} {R : Nat → Int} {n p b : Nat} {x : (Nat → Int) × (Nat → Int)} (h : q_f5 x.1) (hb : b < 5) : q_f5 (F_ask W R n p b x).1 := by
  unfold F_ask
  split
  · split
    · exact F_u_b h (by omega) (by omega)
    · exact F_u_b (F_u_b h (by omega) (by omega)) (by omega) (by omega)
  · exact h
theorem F_rd_b {L W : Nat → Nat → Int} {R : Nat → Int} {n : Nat} {x : (Nat → Int) × (Nat → Int)} (h : q_f5 x.1) : ∀ p : Nat, q_f5 (F_rd L W R n x p).2.1
  | 0 => h
  | p + 1 => by
    have h1 := F_rd_b (L := L) (W := W) (R := R) (n := n) h p
    rw [F_rd]
    by_cases c : (F_rd L W R n x p).2.1 p = 5 ∧ F_dst L (F_rd L W R n x p).2 p ≠ 5
    · rw [if_pos c]
      rcases F_dst_le (L := L) (x := (F_rd L W R n x p).2) (p := p) with k | k
      · exact F_ask_b h1 k
      · exact absurd k c.2
    · rw [if_neg c]
      exact h1
theorem F_turn_b {L W : Nat → Nat → Int} {R : Nat → Int} {n : Nat} : ∀ (k : Nat) (x : (Nat → Int) × (Nat → Int)), q_f5 x.1 → q_f5 (F_turn L W R n k x).1
  | 0, _, h => h
  | k + 1, x, h => by
    rw [F_turn]
    split
    · exact F_turn_b k _ (F_rd_b h n)
    · exact F_rd_b h n
theorem F_fr_b {x : (Nat → Int) × (Nat → Int)} (h : q_f5 x.1) : q_f5 (F_fr x).1 := F_u_b (F_u_b (F_u_b (F_u_b (F_u_b h (by omega) (by omega)) (by omega) (by omega)) (by omega) (by omega)) (by omega) (by omega)) (by omega) (by omega)
theorem F_next_b : ∀ (p : Nat) (f : Nat → Int), q_f5 f → q_f5 (F_next f p).2
  | 0, _, h => h
  | p + 1, f, h => by
    have h1 := h p
    rw [F_next]
    split
    · exact F_u_b h (by omega) (by omega)
    · split
      · exact F_next_b p _ (F_u_b h (by omega) (by omega))
      · exact F_u_b h (by omega) (by omega)
end
section
/-! THE CLASS'S ENTRIES: court -/
theorem q_cM_self {M : q_M} {c : Nat} : q_cM M c (M (c + 2), M (c + 17)) = M := by
  funext a i
  unfold q_cM
  by_cases h : a = c + 2
  · rw [if_pos h, h]
  · rw [if_neg h]
    by_cases h2 : a = c + 17
    · rw [if_pos h2, h2]
    · rw [if_neg h2]
def q_crA (M : q_M) (c : Nat) (wt : Int) : Int := if wt = 0 then F_dig (M (c + 2)) (M c 5).toNat else if wt = 1 then F_sum (fun p => M (c + 3 + (1 + p))) (M (c + 2)) (M c 5).toNat else F_sum (fun p => M (c + 10 + (1 + p))) (M (c + 2)) (M c 5).toNat
theorem sp_courtF {d : Nat} {g : q_G} {M : q_M} {wt : Int} {Q : Option q_V → q_G → q_M → Prop} (h : wt < 0 ∨ 2 < wt) (hq : Q (some (qI (-100000))) g M) : q_S 1 d 78 [qR 5 0, qI wt] g M Q := by
  rw [s_X5_court]
  rcases h with h | h
  · simp (disch := omega) only [b_X5_court_0, x_loadI_1, y_if_lt_t, y_if_lt_f, b_X5_court_4, x_iconst, y_ic_le_t, y_ic_le_f, b_X5_court_9, x_ret0, b_X5_court_12, x_loadR_0, x_loadS_0, f_5_4, f_5_3, f_4_0, tw_7_0, tw_7_1, tw_7_o, b_X5_court_68, b_X5_court_79, b_X5_court_90, q_isL_I, q_isL_R, q_isL_S, true_and, and_true, and_self, List.length_nil, List.length_cons, Nat.zero_add, x_K, x_Kn, Int.reduceToNat, Nat.reduceAdd, Nat.reduceMul, Nat.reduceLeDiff, Nat.reduceLT, Nat.zero_le, Int.reduceAdd, Int.reduceSub, Int.reduceMul, Int.reduceNeg, q_add_e, q_sub_e, q_mul_e, q_neg_e, q_upd_s, q_upd_n, zr_shr0, zr_shr1, zr_shr2, zr_shr3, zr_shr4, zr_and, zr_dyn8, zr_or, zr_shl, q_cpy_n, y_cpy26]
    exact hq
  · simp (disch := omega) only [b_X5_court_0, x_loadI_1, y_if_lt_t, y_if_lt_f, b_X5_court_4, x_iconst, y_ic_le_t, y_ic_le_f, b_X5_court_9, x_ret0, b_X5_court_12, x_loadR_0, x_loadS_0, f_5_4, f_5_3, f_4_0, tw_7_0, tw_7_1, tw_7_o, b_X5_court_68, b_X5_court_79, b_X5_court_90, q_isL_I, q_isL_R, q_isL_S, true_and, and_true, and_self, List.length_nil, List.length_cons, Nat.zero_add, x_K, x_Kn, Int.reduceToNat, Nat.reduceAdd, Nat.reduceMul, Nat.reduceLeDiff, Nat.reduceLT, Nat.zero_le, Int.reduceAdd, Int.reduceSub, Int.reduceMul, Int.reduceNeg, q_add_e, q_sub_e, q_mul_e, q_neg_e, q_upd_s, q_upd_n, zr_shr0, zr_shr1, zr_shr2, zr_shr3, zr_shr4, zr_and, zr_dyn8, zr_or, zr_shl, q_cpy_n, y_cpy26]
    exact hq
theorem sp_turnS {d : Nat} {g : q_G} {M : q_M} {c : Nat} {Q : Option q_V → q_G → q_M → Prop} (h0 : 0 ≤ M c 5) (h5 : M c 5 ≤ 5) (hL5 : ∀ p, p < 5 → M (c + 3 + (1 + p)) 5 = 0) (hq : Q none g (q_cM M c (F_turn (q_Lk M c) (q_Wn M c) (M (c + 1)) (M c 5).toNat 1000 (F_fr (M (c + 2), M (c + 17)))))) : q_S 1 (d + 4) 15 [qR 0 c] g M Q := by
  have h := sp_askInTurn (d := d) (g := g) (x := (M (c + 2), M (c + 17))) (Q := Q) h0 h5 hL5 hq
  rw [q_cM_self] at h
  exact h
end
section
/-! THE CLASS'S ENTRIES: court, answered of the thought -/
set_option maxHeartbeats 4000000 in
theorem sp_court {V : Nat → (Nat → Int) → Int} {d : Nat} {g : q_G} {M : q_M} {ta : Nat} {wt : Int} {Q : Option q_V → q_G → q_M → Prop} (ht : ta = 8 ∨ 125 ≤ ta) (hw : q_wl V M 11 ta) (hr : q_rg5 M 38) (hz : ∀ p, p < 5 → M (38 + 1 + 3 + (1 + p)) 5 = 0) (hz2 : ∀ p, p < 5 → M (38 + 1 + 10 + (1 + p)) 5 = 0) (hwt : 0 ≤ wt ∧ wt ≤ 2) (hq : ∀ M2 M3 : q_M, q_th ta M M2 → cW M2 38 = cW M 11 → (∀ p b, p < (M2 (38 + 1) 5).toNat → b < 5 → q_tld V 38 (cW M 11) M2 p b) → M3 = q_cM M2 39 (F_turn (q_Lk M2 39) (q_Wn M2 39) (M2 (39 + 1)) (M2 39 5).toNat 1000 (F_fr (M2 (39 + 2), M2 (39 + 17)))) → Q (some (qI (q_crA M3 39 wt))) g M3) : q_S 1 (d + 5) 78 [qR 5 0, qI wt] g M Q := by
  have hla := hw.2.2.2.1
  have hta := hw.2.2.2.2.1
  have copy : ∀ (nx : Nat) (ops : List Instr) (ls st : List q_V), (∀ M2 : q_M, q_cpd 38 11 M M2 → q_T 1 (d + 5) qP_X5_court nx ops ls st g M2 Q) → q_S 1 (d + 4) 49 [qR 4 38, qR 4 11] g M (q_K 1 (d + 5) qP_X5_court nx ops ls st Q) := fun nx ops ls st h => sp_copyFrom (by omega) hla hta h
  rw [s_X5_court]
  simp (disch := omega) only [b_X5_court_0, x_loadI_1, y_if_lt_t, y_if_lt_f, b_X5_court_4, x_iconst, y_ic_le_t, y_ic_le_f, b_X5_court_9, x_ret0, b_X5_court_12, x_loadR_0, x_loadS_0, f_5_4, f_5_3, f_4_0, tw_7_0, tw_7_1, tw_7_o, b_X5_court_68, b_X5_court_79, b_X5_court_90, q_isL_I, q_isL_R, q_isL_S, true_and, and_true, and_self, List.length_nil, List.length_cons, Nat.zero_add, x_K, x_Kn, Int.reduceToNat, Nat.reduceAdd, Nat.reduceMul, Nat.reduceLeDiff, Nat.reduceLT, Nat.zero_le, Int.reduceAdd, Int.reduceSub, Int.reduceMul, Int.reduceNeg, q_add_e, q_sub_e, q_mul_e, q_neg_e, q_upd_s, q_upd_n, zr_shr0, zr_shr1, zr_shr2, zr_shr3, zr_shr4, zr_and, zr_dyn8, zr_or, zr_shl, q_cpy_n, y_cpy26, c_X4_copyFrom]
  refine copy _ _ _ _ (fun M1 h1 => ?_)
  obtain ⟨t1, t2, t3⟩ := q_think ht hw hr h1
  have z1 : ∀ p, p < 5 → M1 (38 + 1 + 3 + (1 + p)) 5 = 0 := fun p hp => (h1.2.2.2.2 _ 5 (by omega)).trans (hz p hp)
  have z2 : ∀ p, p < 5 → M1 (38 + 1 + 10 + (1 + p)) 5 = 0 := fun p hp => (h1.2.2.2.2 _ 5 (by omega)).trans (hz2 p hp)
  simp (disch := omega) only [b_X5_court_0, x_loadI_1, y_if_lt_t, y_if_lt_f, b_X5_court_4, x_iconst, y_ic_le_t, y_ic_le_f, b_X5_court_9, x_ret0, b_X5_court_12, x_loadR_0, x_loadS_0, f_5_4, f_5_3, f_4_0, tw_7_0, tw_7_1, tw_7_o, b_X5_court_68, b_X5_court_79, b_X5_court_90, q_isL_I, q_isL_R, q_isL_S, true_and, and_true, and_self, List.length_nil, List.length_cons, Nat.zero_add, x_K, x_Kn, Int.reduceToNat, Nat.reduceAdd, Nat.reduceMul, Nat.reduceLeDiff, Nat.reduceLT, Nat.zero_le, Int.reduceAdd, Int.reduceSub, Int.reduceMul, Int.reduceNeg, q_add_e, q_sub_e, q_mul_e, q_neg_e, q_upd_s, q_upd_n, zr_shr0, zr_shr1, zr_shr2, zr_shr3, zr_shr4, zr_and, zr_dyn8, zr_or, zr_shl, q_cpy_n, y_cpy26, c_X4_tellAll]
  refine sp_tellAll t1 (fun M2 h2 h3 => ?_)
  have w2 := q_tel_wl h2 t1
  have c2 := q_tel_cW h2 t1.2.2.2.2.2
  have e5 : M2 (38 + 1) 5 = M1 (38 + 1) 5 := h2 _ 5 (by omega) (by omega) (by omega)
  have n0 : 0 ≤ M2 39 5 := w2.1.1.1
  have n5 : M2 39 5 ≤ 5 := w2.1.1.2
  have hin : ∀ i, 0 ≤ M2 (39 + 2) i ∧ M2 (39 + 2) i ≤ 5 := w2.1.2.2.2.2.2.2.1
  have bL := q_tld_L h2 t1.1.1.2 t1.2.2.2.2.2 z1 h3
  have bW := q_tld_W t1 h2 z2 h3
  have f2 : q_th ta M M2 := q_th_tr (q_th_cpd h1) (fun a i q1 q2 => h2 a i (by omega) q2 (fun _ => by omega))
  have a := hq M2 _ f2 (c2.trans t2) (fun p b q1 q2 => by rw [← t2]; exact h3 p b (by rw [← e5]; exact q1) q2) rfl
  have hfb := F_turn_b (L := q_Lk M2 39) (W := q_Wn M2 39) (R := M2 (39 + 1)) (n := (M2 39 5).toNat) 1000 _ (F_fr_b (x := (M2 (39 + 2), M2 (39 + 17))) hin)
  simp (disch := omega) only [b_X5_court_0, x_loadI_1, y_if_lt_t, y_if_lt_f, b_X5_court_4, x_iconst, y_ic_le_t, y_ic_le_f, b_X5_court_9, x_ret0, b_X5_court_12, x_loadR_0, x_loadS_0, f_5_4, f_5_3, f_4_0, tw_7_0, tw_7_1, tw_7_o, b_X5_court_68, b_X5_court_79, b_X5_court_90, q_isL_I, q_isL_R, q_isL_S, true_and, and_true, and_self, List.length_nil, List.length_cons, Nat.zero_add, x_K, x_Kn, Int.reduceToNat, Nat.reduceAdd, Nat.reduceMul, Nat.reduceLeDiff, Nat.reduceLT, Nat.zero_le, Int.reduceAdd, Int.reduceSub, Int.reduceMul, Int.reduceNeg, q_add_e, q_sub_e, q_mul_e, q_neg_e, q_upd_s, q_upd_n, zr_shr0, zr_shr1, zr_shr2, zr_shr3, zr_shr4, zr_and, zr_dyn8, zr_or, zr_shl, q_cpy_n, y_cpy26, c_X0_askInTurn]
  refine sp_turnS (c := 39) n0 n5 (fun p hp => (h2 _ 5 (by omega) (by omega) (by omega)).trans (z1 p hp)) ?_
  generalize F_turn (q_Lk M2 39) (q_Wn M2 39) (M2 (39 + 1)) (M2 39 5).toNat 1000 (F_fr (M2 (39 + 2), M2 (39 + 17))) = X at a hfb ⊢
  have m5 : q_cM M2 39 X 39 5 = M2 39 5 := q_cM_n (by omega) (by omega)
  have min5 : ∀ i, 0 ≤ q_cM M2 39 X (39 + 2) i ∧ q_cM M2 39 X (39 + 2) i ≤ 5 := fun i => by rw [q_cM_f]; exact hfb i
  have mL : ∀ p b, p < (q_cM M2 39 X 39 5).toNat → b < 6 → -1000 ≤ q_cM M2 39 X (39 + 3 + (1 + p)) b ∧ q_cM M2 39 X (39 + 3 + (1 + p)) b ≤ 1000 := fun p b q1 q2 => by
    rw [m5] at q1
    rw [q_cM_n (by omega) (by omega)]
    exact bL p b q1 q2
  have mW : ∀ p b, p < (q_cM M2 39 X 39 5).toNat → b < 6 → -1000 ≤ q_cM M2 39 X (39 + 10 + (1 + p)) b ∧ q_cM M2 39 X (39 + 10 + (1 + p)) b ≤ 1000 := fun p b q1 q2 => by
    rw [m5] at q1
    rw [q_cM_n (by omega) (by omega)]
    exact bW p b q1 q2
  unfold q_crA at a
  rcases (show wt = 0 ∨ wt = 1 ∨ wt = 2 by omega) with k | k | k
  · subst k
    rw [if_pos rfl] at a
    simp (disch := omega) only [b_X5_court_0, x_loadI_1, y_if_lt_t, y_if_lt_f, b_X5_court_4, x_iconst, y_ic_le_t, y_ic_le_f, b_X5_court_9, x_ret0, b_X5_court_12, x_loadR_0, x_loadS_0, f_5_4, f_5_3, f_4_0, tw_7_0, tw_7_1, tw_7_o, b_X5_court_68, b_X5_court_79, b_X5_court_90, q_isL_I, q_isL_R, q_isL_S, true_and, and_true, and_self, List.length_nil, List.length_cons, Nat.zero_add, x_K, x_Kn, Int.reduceToNat, Nat.reduceAdd, Nat.reduceMul, Nat.reduceLeDiff, Nat.reduceLT, Nat.zero_le, Int.reduceAdd, Int.reduceSub, Int.reduceMul, Int.reduceNeg, q_add_e, q_sub_e, q_mul_e, q_neg_e, q_upd_s, q_upd_n, zr_shr0, zr_shr1, zr_shr2, zr_shr3, zr_shr4, zr_and, zr_dyn8, zr_or, zr_shl, q_cpy_n, y_cpy26, c_X0_digits]
    rw [sp_digits (by rw [m5]; exact n0) (by rw [m5]; exact n5) min5]
    simp (disch := omega) only [b_X5_court_0, x_loadI_1, y_if_lt_t, y_if_lt_f, b_X5_court_4, x_iconst, y_ic_le_t, y_ic_le_f, b_X5_court_9, x_ret0, b_X5_court_12, x_loadR_0, x_loadS_0, f_5_4, f_5_3, f_4_0, tw_7_0, tw_7_1, tw_7_o, b_X5_court_68, b_X5_court_79, b_X5_court_90, q_isL_I, q_isL_R, q_isL_S, true_and, and_true, and_self, List.length_nil, List.length_cons, Nat.zero_add, x_K, x_Kn, Int.reduceToNat, Nat.reduceAdd, Nat.reduceMul, Nat.reduceLeDiff, Nat.reduceLT, Nat.zero_le, Int.reduceAdd, Int.reduceSub, Int.reduceMul, Int.reduceNeg, q_add_e, q_sub_e, q_mul_e, q_neg_e, q_upd_s, q_upd_n, zr_shr0, zr_shr1, zr_shr2, zr_shr3, zr_shr4, zr_and, zr_dyn8, zr_or, zr_shl, q_cpy_n, y_cpy26]
    exact a
  · subst k
    rw [if_neg (by decide), if_pos rfl] at a
    simp (disch := omega) only [b_X5_court_0, x_loadI_1, y_if_lt_t, y_if_lt_f, b_X5_court_4, x_iconst, y_ic_le_t, y_ic_le_f, b_X5_court_9, x_ret0, b_X5_court_12, x_loadR_0, x_loadS_0, f_5_4, f_5_3, f_4_0, tw_7_0, tw_7_1, tw_7_o, b_X5_court_68, b_X5_court_79, b_X5_court_90, q_isL_I, q_isL_R, q_isL_S, true_and, and_true, and_self, List.length_nil, List.length_cons, Nat.zero_add, x_K, x_Kn, Int.reduceToNat, Nat.reduceAdd, Nat.reduceMul, Nat.reduceLeDiff, Nat.reduceLT, Nat.zero_le, Int.reduceAdd, Int.reduceSub, Int.reduceMul, Int.reduceNeg, q_add_e, q_sub_e, q_mul_e, q_neg_e, q_upd_s, q_upd_n, zr_shr0, zr_shr1, zr_shr2, zr_shr3, zr_shr4, zr_and, zr_dyn8, zr_or, zr_shl, q_cpy_n, y_cpy26, c_X0_liked]
    rw [sp_liked2 (by rw [m5]; exact n0) (by rw [m5]; exact n5) min5 mL]
    simp (disch := omega) only [b_X5_court_0, x_loadI_1, y_if_lt_t, y_if_lt_f, b_X5_court_4, x_iconst, y_ic_le_t, y_ic_le_f, b_X5_court_9, x_ret0, b_X5_court_12, x_loadR_0, x_loadS_0, f_5_4, f_5_3, f_4_0, tw_7_0, tw_7_1, tw_7_o, b_X5_court_68, b_X5_court_79, b_X5_court_90, q_isL_I, q_isL_R, q_isL_S, true_and, and_true, and_self, List.length_nil, List.length_cons, Nat.zero_add, x_K, x_Kn, Int.reduceToNat, Nat.reduceAdd, Nat.reduceMul, Nat.reduceLeDiff, Nat.reduceLT, Nat.zero_le, Int.reduceAdd, Int.reduceSub, Int.reduceMul, Int.reduceNeg, q_add_e, q_sub_e, q_mul_e, q_neg_e, q_upd_s, q_upd_n, zr_shr0, zr_shr1, zr_shr2, zr_shr3, zr_shr4, zr_and, zr_dyn8, zr_or, zr_shl, q_cpy_n, y_cpy26]
    exact a
  · subst k
    rw [if_neg (by decide), if_neg (by decide)] at a
    simp (disch := omega) only [b_X5_court_0, x_loadI_1, y_if_lt_t, y_if_lt_f, b_X5_court_4, x_iconst, y_ic_le_t, y_ic_le_f, b_X5_court_9, x_ret0, b_X5_court_12, x_loadR_0, x_loadS_0, f_5_4, f_5_3, f_4_0, tw_7_0, tw_7_1, tw_7_o, b_X5_court_68, b_X5_court_79, b_X5_court_90, q_isL_I, q_isL_R, q_isL_S, true_and, and_true, and_self, List.length_nil, List.length_cons, Nat.zero_add, x_K, x_Kn, Int.reduceToNat, Nat.reduceAdd, Nat.reduceMul, Nat.reduceLeDiff, Nat.reduceLT, Nat.zero_le, Int.reduceAdd, Int.reduceSub, Int.reduceMul, Int.reduceNeg, q_add_e, q_sub_e, q_mul_e, q_neg_e, q_upd_s, q_upd_n, zr_shr0, zr_shr1, zr_shr2, zr_shr3, zr_shr4, zr_and, zr_dyn8, zr_or, zr_shl, q_cpy_n, y_cpy26, c_X0_wanted]
    rw [sp_wanted2 (by rw [m5]; exact n0) (by rw [m5]; exact n5) min5 mW]
    simp (disch := omega) only [b_X5_court_0, x_loadI_1, y_if_lt_t, y_if_lt_f, b_X5_court_4, x_iconst, y_ic_le_t, y_ic_le_f, b_X5_court_9, x_ret0, b_X5_court_12, x_loadR_0, x_loadS_0, f_5_4, f_5_3, f_4_0, tw_7_0, tw_7_1, tw_7_o, b_X5_court_68, b_X5_court_79, b_X5_court_90, q_isL_I, q_isL_R, q_isL_S, true_and, and_true, and_self, List.length_nil, List.length_cons, Nat.zero_add, x_K, x_Kn, Int.reduceToNat, Nat.reduceAdd, Nat.reduceMul, Nat.reduceLeDiff, Nat.reduceLT, Nat.zero_le, Int.reduceAdd, Int.reduceSub, Int.reduceMul, Int.reduceNeg, q_add_e, q_sub_e, q_mul_e, q_neg_e, q_upd_s, q_upd_n, zr_shr0, zr_shr1, zr_shr2, zr_shr3, zr_shr4, zr_and, zr_dyn8, zr_or, zr_shl, q_cpy_n, y_cpy26]
    exact a
end
section
/-! THE CLASS'S ENTRIES: a sheet's numbers against the years of a thought -/
theorem sp_isMissing {d : Nat} {g : q_G} {M : q_M} {a : Nat} (Q : Option q_V → q_G → q_M → Prop) : q_S 1 d 43 [qR 2 a] g M Q = Q (some (qI (if M a 1 = -1 then 1 else 0))) g M := by
  rw [s_X2_isMissing]
  by_cases h : M a 1 = -1
  · rw [if_pos h]
    simp (disch := omega) only [b_X2_isMissing_0, x_loadR_0, x_loadS_0, f_2_1, x_iconst, y_ic_ne_t, y_ic_ne_f, b_X2_isMissing_8, x_goto, b_X2_isMissing_12, b_X2_isMissing_13, x_ret1_0, x_ret1_1, q_isL_I, q_isL_R, q_isL_S, true_and, and_true, and_self, List.length_nil, List.length_cons, Nat.zero_add, x_K, x_Kn, Int.reduceToNat, Nat.reduceAdd, Nat.reduceMul, Nat.reduceLeDiff, Nat.reduceLT, Nat.zero_le, Int.reduceAdd, Int.reduceSub, Int.reduceMul, Int.reduceNeg, q_add_e, q_sub_e, q_mul_e, q_neg_e, q_upd_s, q_upd_n, zr_shr0, zr_shr1, zr_shr2, zr_shr3, zr_shr4, zr_and, zr_dyn8, zr_or, zr_shl, q_cpy_n, y_cpy26]
  · rw [if_neg h]
    simp (disch := omega) only [b_X2_isMissing_0, x_loadR_0, x_loadS_0, f_2_1, x_iconst, y_ic_ne_t, y_ic_ne_f, b_X2_isMissing_8, x_goto, b_X2_isMissing_12, b_X2_isMissing_13, x_ret1_0, x_ret1_1, q_isL_I, q_isL_R, q_isL_S, true_and, and_true, and_self, List.length_nil, List.length_cons, Nat.zero_add, x_K, x_Kn, Int.reduceToNat, Nat.reduceAdd, Nat.reduceMul, Nat.reduceLeDiff, Nat.reduceLT, Nat.zero_le, Int.reduceAdd, Int.reduceSub, Int.reduceMul, Int.reduceNeg, q_add_e, q_sub_e, q_mul_e, q_neg_e, q_upd_s, q_upd_n, zr_shr0, zr_shr1, zr_shr2, zr_shr3, zr_shr4, zr_and, zr_dyn8, zr_or, zr_shl, q_cpy_n, y_cpy26]
def q_rfA (M : q_M) (s : Int) : Int := if ¬(0 ≤ s ∧ s < 4) then -2 else if M (6 + (86 + 2 * s.toNat)) 1 = -1 then -11 else if 20 < M (6 + (86 + 2 * s.toNat)) 2 then -2 else 0
theorem sp_refusal {d : Nat} {g : q_G} {M : q_M} {s : Int} (Q : Option q_V → q_G → q_M → Prop) : q_S 1 (d + 1) 104 [qR 5 0, qI s] g M Q = Q (some (qI (q_rfA M s))) g M := by
  rw [s_X5_refusalOfTold]
  unfold q_rfA
  by_cases h1 : 0 ≤ s ∧ s < 4
  · rw [if_neg (fun z => z h1)]
    by_cases h2 : M (6 + (86 + 2 * s.toNat)) 1 = -1
    · rw [if_pos h2]
      simp (disch := omega) only [b_X5_refusalOfTold_0, x_loadI_1, y_if_ne_t, y_if_ne_f, b_X5_refusalOfTold_7, x_iconst, x_ret0, b_X5_refusalOfTold_10, x_loadR_0, x_loadS_0, f_5_7, y_aald9, y_if_eq_t, y_if_eq_f, b_X5_refusalOfTold_22, b_X5_refusalOfTold_25, f_2_2, y_ic_le_t, y_ic_le_f, b_X5_refusalOfTold_39, x_goto, b_X5_refusalOfTold_44, b_X5_refusalOfTold_45, q_isL_I, q_isL_R, q_isL_S, true_and, and_true, and_self, List.length_nil, List.length_cons, Nat.zero_add, x_K, x_Kn, Int.reduceToNat, Nat.reduceAdd, Nat.reduceMul, Nat.reduceLeDiff, Nat.reduceLT, Nat.zero_le, Int.reduceAdd, Int.reduceSub, Int.reduceMul, Int.reduceNeg, q_add_e, q_sub_e, q_mul_e, q_neg_e, q_upd_s, q_upd_n, zr_shr0, zr_shr1, zr_shr2, zr_shr3, zr_shr4, zr_and, zr_dyn8, zr_or, zr_shl, q_cpy_n, y_cpy26, c_X5_isSheet, sp_isSheet, h1, and_self, if_true, c_X2_isMissing, sp_isMissing, h2]
    · rw [if_neg h2]
      by_cases h3 : 20 < M (6 + (86 + 2 * s.toNat)) 2
      · rw [if_pos h3]
        simp (disch := omega) only [b_X5_refusalOfTold_0, x_loadI_1, y_if_ne_t, y_if_ne_f, b_X5_refusalOfTold_7, x_iconst, x_ret0, b_X5_refusalOfTold_10, x_loadR_0, x_loadS_0, f_5_7, y_aald9, y_if_eq_t, y_if_eq_f, b_X5_refusalOfTold_22, b_X5_refusalOfTold_25, f_2_2, y_ic_le_t, y_ic_le_f, b_X5_refusalOfTold_39, x_goto, b_X5_refusalOfTold_44, b_X5_refusalOfTold_45, q_isL_I, q_isL_R, q_isL_S, true_and, and_true, and_self, List.length_nil, List.length_cons, Nat.zero_add, x_K, x_Kn, Int.reduceToNat, Nat.reduceAdd, Nat.reduceMul, Nat.reduceLeDiff, Nat.reduceLT, Nat.zero_le, Int.reduceAdd, Int.reduceSub, Int.reduceMul, Int.reduceNeg, q_add_e, q_sub_e, q_mul_e, q_neg_e, q_upd_s, q_upd_n, zr_shr0, zr_shr1, zr_shr2, zr_shr3, zr_shr4, zr_and, zr_dyn8, zr_or, zr_shl, q_cpy_n, y_cpy26, c_X5_isSheet, sp_isSheet, h1, and_self, if_true, c_X2_isMissing, sp_isMissing, h2, if_false]
      · rw [if_neg h3]
        simp (disch := omega) only [b_X5_refusalOfTold_0, x_loadI_1, y_if_ne_t, y_if_ne_f, b_X5_refusalOfTold_7, x_iconst, x_ret0, b_X5_refusalOfTold_10, x_loadR_0, x_loadS_0, f_5_7, y_aald9, y_if_eq_t, y_if_eq_f, b_X5_refusalOfTold_22, b_X5_refusalOfTold_25, f_2_2, y_ic_le_t, y_ic_le_f, b_X5_refusalOfTold_39, x_goto, b_X5_refusalOfTold_44, b_X5_refusalOfTold_45, q_isL_I, q_isL_R, q_isL_S, true_and, and_true, and_self, List.length_nil, List.length_cons, Nat.zero_add, x_K, x_Kn, Int.reduceToNat, Nat.reduceAdd, Nat.reduceMul, Nat.reduceLeDiff, Nat.reduceLT, Nat.zero_le, Int.reduceAdd, Int.reduceSub, Int.reduceMul, Int.reduceNeg, q_add_e, q_sub_e, q_mul_e, q_neg_e, q_upd_s, q_upd_n, zr_shr0, zr_shr1, zr_shr2, zr_shr3, zr_shr4, zr_and, zr_dyn8, zr_or, zr_shl, q_cpy_n, y_cpy26, c_X5_isSheet, sp_isSheet, h1, and_self, if_true, c_X2_isMissing, sp_isMissing, h2, if_false]
  · rw [if_pos h1]
    simp (disch := omega) only [b_X5_refusalOfTold_0, x_loadI_1, y_if_ne_t, y_if_ne_f, b_X5_refusalOfTold_7, x_iconst, x_ret0, b_X5_refusalOfTold_10, x_loadR_0, x_loadS_0, f_5_7, y_aald9, y_if_eq_t, y_if_eq_f, b_X5_refusalOfTold_22, b_X5_refusalOfTold_25, f_2_2, y_ic_le_t, y_ic_le_f, b_X5_refusalOfTold_39, x_goto, b_X5_refusalOfTold_44, b_X5_refusalOfTold_45, q_isL_I, q_isL_R, q_isL_S, true_and, and_true, and_self, List.length_nil, List.length_cons, Nat.zero_add, x_K, x_Kn, Int.reduceToNat, Nat.reduceAdd, Nat.reduceMul, Nat.reduceLeDiff, Nat.reduceLT, Nat.zero_le, Int.reduceAdd, Int.reduceSub, Int.reduceMul, Int.reduceNeg, q_add_e, q_sub_e, q_mul_e, q_neg_e, q_upd_s, q_upd_n, zr_shr0, zr_shr1, zr_shr2, zr_shr3, zr_shr4, zr_and, zr_dyn8, zr_or, zr_shl, q_cpy_n, y_cpy26, c_X5_isSheet, sp_isSheet, h1, if_false]
/-- the first of the numbers C that is otherwise than where stone p lies behind the years -/
def F_fo (V : Nat → (Nat → Int) → Int) (S : q_M) (p : Nat) (C : Nat → Int) : Nat → Nat → Int
  | 0, _ => -1
  | j + 1, i => if F_ys V S (i + 1) 2 p = C i then F_fo V S p C j (i + 1) else i
set_option maxHeartbeats 4000000 in
theorem sp_fo {V : Nat → (Nat → Int) → Int} {d : Nat} {g : q_G} {M : q_M} {ta s p n : Nat} {Q : Option q_V → q_G → q_M → Prop} (ht : ta = 8 ∨ 125 ≤ ta) (hs : s < 4) (hn : n ≤ 1000) (hsz : M (6 + (86 + 2 * s)) 2 = n) (hn40 : n ≤ 40) (hp6 : p < 6) (hp : p < (M (38 + 1) 5).toNat) (hw : q_wl V M 38 ta) (hz : ∀ p, p < 5 → M (38 + 1 + 3 + (1 + p)) 5 = 0) (hyr : M 38 9 + n ≤ 2000) (hq : ∀ M2 : q_M, q_th ta M M2 → Q (some (qI (F_fo V (cW M 38) p (M (6 + (86 + 2 * s) + 1)) n 0))) g M2) : q_S 1 (d + 5) 105 [qR 5 0, qI s, qI p] g M Q := by
  generalize hS : cW M 38 = S at hq
  have loop : ∀ j i : Nat, i + j = n → ∀ M1 : q_M, p < (M1 (38 + 1) 5).toNat → q_wl V M1 38 ta → cW M1 38 = F_ys V S i → (∀ p, p < 5 → M1 (38 + 1 + 3 + (1 + p)) 5 = 0) → M1 38 9 + j ≤ 2000 → q_th ta M M1 → (∀ M2 : q_M, q_th ta M M2 → Q (some (qI (F_fo V S p (M (6 + (86 + 2 * s) + 1)) j i))) g M2) → q_T 1 (d + 5) qP_X5_firstOtherwise 10 [] [qR 5 0, qI s, qI p, qR 2 (6 + (86 + 2 * s)), qI i] [] g M1 Q := by
    intro j
    induction j with
    | zero =>
      intro i hi M1 hp hw hc hz hyr hf hq
      have z1 : M1 (6 + (86 + 2 * s)) 2 = n := (hf _ 2 (by omega) (by omega)).trans hsz
      rw [F_fo] at hq
      rw [b_X5_firstOtherwise_10]
      simp (disch := omega) only [b_X5_firstOtherwise_0, x_loadR_0, x_loadS_0, f_5_7, x_loadI_1, y_aald9, x_storeR_3, x_iconst, x_storeI_4, x_loadI_4, x_loadR_3, x_loadS_3, f_2_2, y_ic_ge_t, y_ic_ge_f, b_X5_firstOtherwise_19, f_5_4, x_popI, x_popR, f_4_6, x_loadI_2, y_iald_26, y_iald_60, f_2_0, y_ic_eq_t, y_ic_eq_f, b_X5_firstOtherwise_46, x_ret0, b_X5_firstOtherwise_49, x_iinc_4, x_goto, b_X5_firstOtherwise_55, q_isL_I, q_isL_R, q_isL_S, true_and, and_true, and_self, List.length_nil, List.length_cons, Nat.zero_add, x_K, x_Kn, Int.reduceToNat, Nat.reduceAdd, Nat.reduceMul, Nat.reduceLeDiff, Nat.reduceLT, Nat.zero_le, Int.reduceAdd, Int.reduceSub, Int.reduceMul, Int.reduceNeg, q_add_e, q_sub_e, q_mul_e, q_neg_e, q_upd_s, q_upd_n, zr_shr0, zr_shr1, zr_shr2, zr_shr3, zr_shr4, zr_and, zr_dyn8, zr_or, zr_shl, q_cpy_n, y_cpy26]
      exact hq M1 hf
    | succ j ih =>
      intro i hi M1 hp hw hc hz hyr hf hq
      have z1 : M1 (6 + (86 + 2 * s)) 2 = n := (hf _ 2 (by omega) (by omega)).trans hsz
      have hds := hw.2.2.2.2.2
      rw [b_X5_firstOtherwise_10]
      simp (disch := omega) only [b_X5_firstOtherwise_0, x_loadR_0, x_loadS_0, f_5_7, x_loadI_1, y_aald9, x_storeR_3, x_iconst, x_storeI_4, x_loadI_4, x_loadR_3, x_loadS_3, f_2_2, y_ic_ge_t, y_ic_ge_f, b_X5_firstOtherwise_19, f_5_4, x_popI, x_popR, f_4_6, x_loadI_2, y_iald_26, y_iald_60, f_2_0, y_ic_eq_t, y_ic_eq_f, b_X5_firstOtherwise_46, x_ret0, b_X5_firstOtherwise_49, x_iinc_4, x_goto, b_X5_firstOtherwise_55, q_isL_I, q_isL_R, q_isL_S, true_and, and_true, and_self, List.length_nil, List.length_cons, Nat.zero_add, x_K, x_Kn, Int.reduceToNat, Nat.reduceAdd, Nat.reduceMul, Nat.reduceLeDiff, Nat.reduceLT, Nat.zero_le, Int.reduceAdd, Int.reduceSub, Int.reduceMul, Int.reduceNeg, q_add_e, q_sub_e, q_mul_e, q_neg_e, q_upd_s, q_upd_n, zr_shr0, zr_shr1, zr_shr2, zr_shr3, zr_shr4, zr_and, zr_dyn8, zr_or, zr_shl, q_cpy_n, y_cpy26, c_X4_passYear]
      refine sp_passYear hw hz (by omega) (fun M2 h1 h2 h3 => ?_)
      have hy2 := F_year_y h2
      have h4 := q_th_tr hf (q_th_yn h3)
      have e5 : M2 (38 + 1) 5 = M1 (38 + 1) 5 := h3 _ 5 (by omega) (by omega) (by omega) (by omega)
      have hc2 : cW M2 38 = F_ys V S (i + 1) := by rw [h2, hc]; rfl
      have ea : F_ys V S (i + 1) 2 p = M2 62 p := by rw [← hc2]; exact cW_2 (by rw [e5]; exact hp)
      have ec : M2 (6 + (86 + 2 * s) + 1) i = M (6 + (86 + 2 * s) + 1) i := h4 _ i (by omega) (by omega)
      rw [F_fo, ea, ← ec] at hq
      by_cases c : M2 62 p = M2 (6 + (86 + 2 * s) + 1) i
      · rw [if_pos c] at hq
        simp (disch := omega) only [b_X5_firstOtherwise_0, x_loadR_0, x_loadS_0, f_5_7, x_loadI_1, y_aald9, x_storeR_3, x_iconst, x_storeI_4, x_loadI_4, x_loadR_3, x_loadS_3, f_2_2, y_ic_ge_t, y_ic_ge_f, b_X5_firstOtherwise_19, f_5_4, x_popI, x_popR, f_4_6, x_loadI_2, y_iald_26, y_iald_60, f_2_0, y_ic_eq_t, y_ic_eq_f, b_X5_firstOtherwise_46, x_ret0, b_X5_firstOtherwise_49, x_iinc_4, x_goto, b_X5_firstOtherwise_55, q_isL_I, q_isL_R, q_isL_S, true_and, and_true, and_self, List.length_nil, List.length_cons, Nat.zero_add, x_K, x_Kn, Int.reduceToNat, Nat.reduceAdd, Nat.reduceMul, Nat.reduceLeDiff, Nat.reduceLT, Nat.zero_le, Int.reduceAdd, Int.reduceSub, Int.reduceMul, Int.reduceNeg, q_add_e, q_sub_e, q_mul_e, q_neg_e, q_upd_s, q_upd_n, zr_shr0, zr_shr1, zr_shr2, zr_shr3, zr_shr4, zr_and, zr_dyn8, zr_or, zr_shl, q_cpy_n, y_cpy26, Int.toNat_natCast]
        exact ih (i + 1) (by omega) M2 (by rw [e5]; exact hp) h1 hc2 (fun p hp => (h3 _ 5 (by omega) (by omega) (by omega) (by omega)).trans (hz p hp)) (by omega) h4 hq
      · rw [if_neg c] at hq
        simp (disch := omega) only [b_X5_firstOtherwise_0, x_loadR_0, x_loadS_0, f_5_7, x_loadI_1, y_aald9, x_storeR_3, x_iconst, x_storeI_4, x_loadI_4, x_loadR_3, x_loadS_3, f_2_2, y_ic_ge_t, y_ic_ge_f, b_X5_firstOtherwise_19, f_5_4, x_popI, x_popR, f_4_6, x_loadI_2, y_iald_26, y_iald_60, f_2_0, y_ic_eq_t, y_ic_eq_f, b_X5_firstOtherwise_46, x_ret0, b_X5_firstOtherwise_49, x_iinc_4, x_goto, b_X5_firstOtherwise_55, q_isL_I, q_isL_R, q_isL_S, true_and, and_true, and_self, List.length_nil, List.length_cons, Nat.zero_add, x_K, x_Kn, Int.reduceToNat, Nat.reduceAdd, Nat.reduceMul, Nat.reduceLeDiff, Nat.reduceLT, Nat.zero_le, Int.reduceAdd, Int.reduceSub, Int.reduceMul, Int.reduceNeg, q_add_e, q_sub_e, q_mul_e, q_neg_e, q_upd_s, q_upd_n, zr_shr0, zr_shr1, zr_shr2, zr_shr3, zr_shr4, zr_and, zr_dyn8, zr_or, zr_shl, q_cpy_n, y_cpy26, Int.toNat_natCast]
        exact hq M2 h4
  rw [s_X5_firstOtherwise]
  simp (disch := omega) only [b_X5_firstOtherwise_0, x_loadR_0, x_loadS_0, f_5_7, x_loadI_1, y_aald9, x_storeR_3, x_iconst, x_storeI_4, x_loadI_4, x_loadR_3, x_loadS_3, f_2_2, y_ic_ge_t, y_ic_ge_f, b_X5_firstOtherwise_19, f_5_4, x_popI, x_popR, f_4_6, x_loadI_2, y_iald_26, y_iald_60, f_2_0, y_ic_eq_t, y_ic_eq_f, b_X5_firstOtherwise_46, x_ret0, b_X5_firstOtherwise_49, x_iinc_4, x_goto, b_X5_firstOtherwise_55, q_isL_I, q_isL_R, q_isL_S, true_and, and_true, and_self, List.length_nil, List.length_cons, Nat.zero_add, x_K, x_Kn, Int.reduceToNat, Nat.reduceAdd, Nat.reduceMul, Nat.reduceLeDiff, Nat.reduceLT, Nat.zero_le, Int.reduceAdd, Int.reduceSub, Int.reduceMul, Int.reduceNeg, q_add_e, q_sub_e, q_mul_e, q_neg_e, q_upd_s, q_upd_n, zr_shr0, zr_shr1, zr_shr2, zr_shr3, zr_shr4, zr_and, zr_dyn8, zr_or, zr_shl, q_cpy_n, y_cpy26, Int.toNat_natCast]
  exact loop n 0 (by omega) M hp hw hS hz hyr q_th_rf hq
end
section
/-! THE CLASS'S ENTRIES: what they ask of the memory, what a question leaves -/
def q_tas (ta : Nat) : Prop := ta = 8 ∨ (125 ≤ ta ∧ ta ≤ 141 ∧ ta % 4 = 1)
/-- what questions change: the thought, the names' cells, the texts' stacks, the tables of now -/
def q_tq (M M2 : q_M) : Prop := ∀ a i, (a < 37 ∨ 65 ≤ a ∨ (5 ≤ i ∧ 40 ≤ a ∧ a < 64)) → a ≠ 10 → (a < 127 ∨ 143 < a ∨ a % 4 ≠ 3) → (i < 5 → a < 16 ∨ (20 < a ∧ a < 23) ∨ 27 < a) → M2 a i = M a i
theorem q_tq_rf {M : q_M} : q_tq M M := fun _ _ _ _ _ _ => rfl
theorem q_tq_tr {M M2 M3 : q_M} (h : q_tq M M2) (h2 : q_tq M2 M3) : q_tq M M3 := fun a i h3 h4 h5 h6 => (h2 a i h3 h4 h5 h6).trans (h a i h3 h4 h5 h6)
theorem q_tq_th {ta : Nat} {M M2 : q_M} (ht : q_tas ta) (h : q_th ta M M2) : q_tq M M2 := fun a i h1 h2 h3 _ => h a i (by omega) (by unfold q_tas at ht; omega)
theorem q_tq_tel {ta : Nat} {M M2 : q_M} (ht : q_tas ta) (h : q_tel 11 ta M M2) : q_tq M M2 := fun a i h1 h2 h3 h4 => h a i (by omega) (by unfold q_tas at ht; omega) (fun h5 => by have := h4 h5; omega)
theorem q_tq_fwd {ta : Nat} {M M2 : q_M} (ht : q_tas ta) (h : q_fwd 11 ta M M2) : q_tq M M2 := fun a i h1 h2 h3 h4 => h a i (by omega) (by unfold q_tas at ht; omega)
/-- the columns of what may be none are blank -/
def q_z5 (M : q_M) (w : Nat) : Prop := (∀ p, p < 5 → M (w + 1 + 3 + (1 + p)) 5 = 0) ∧ (∀ p, p < 5 → M (w + 1 + 10 + (1 + p)) 5 = 0)
def q_shB (M : q_M) : Prop := ∀ s, s < 4 → 0 ≤ M (6 + (86 + 2 * s)) 2 ∧ M (6 + (86 + 2 * s)) 2 ≤ 40
def q_ci (V : Nat → (Nat → Int) → Int) (M : q_M) (ta : Nat) : Prop := q_tas ta ∧ q_wl V M 11 ta ∧ q_rg5 M 38 ∧ q_z5 M 11 ∧ q_z5 M 38 ∧ M 11 9 ≤ 999 ∧ q_shB M
theorem q_z5_eq {M M2 : q_M} {w : Nat} (h : ∀ a, w + 5 ≤ a → a ≤ w + 16 → M2 a 5 = M a 5) (hz : q_z5 M w) : q_z5 M2 w := ⟨fun p hp => (h _ (by omega) (by omega)).trans (hz.1 p hp), fun p hp => (h _ (by omega) (by omega)).trans (hz.2 p hp)⟩
theorem q_ci_tq {V : Nat → (Nat → Int) → Int} {ta : Nat} {M M2 : q_M} (h : q_tq M M2) (C : q_ci V M ta) : q_ci V M2 ta := by
  obtain ⟨h1, h2, h3, h4, h5, h6, h7⟩ := C
  have ht := h1
  unfold q_tas at ht
  refine ⟨h1, ?_, q_rg5_eq (fun a i q1 q2 q3 => h a i (by omega) (by omega) (by omega) (by omega)) h3, q_z5_eq (fun a q1 q2 => h a 5 (by omega) (by omega) (by omega) (by omega)) h4, q_z5_eq (fun a q1 q2 => h a 5 (by omega) (by omega) (by omega) (by omega)) h5, ?_, ?_⟩
  · obtain ⟨w1, w2, w3, w4, w5, w6⟩ := h2
    have e : ∀ a i, ((11 ≤ a ∧ a ≤ 14) ∨ (30 ≤ a ∧ a ≤ 36)) → M2 a i = M a i := fun a i q1 => h a i (by omega) (by omega) (by omega) (by omega)
    refine ⟨?_, w2, fun M' hM => w3 M' (fun a i ha => (hM a i ha).trans (h a i (by omega) (by omega) (by omega) (by omega))), (e 11 10 (by omega)).trans w4, w5, w6⟩
    unfold q_rgW at w1 ⊢
    simp only [fun i => e 11 i (by omega), fun i => e (11 + 1) i (by omega), fun i => e (11 + 2) i (by omega), fun i => e (11 + 3) i (by omega), fun i => e (11 + 19) i (by omega), fun i => e (11 + 20) i (by omega), fun i => e (11 + 21) i (by omega), fun i => e (11 + 22) i (by omega), fun i => e (11 + 23) i (by omega), fun i => e (11 + 24) i (by omega), fun i => e (11 + 25) i (by omega)]
    exact w1
  · rw [h 11 9 (by omega) (by omega) (by omega) (by omega)]
    exact h6
  · intro s hs
    rw [h _ 2 (by omega) (by omega) (by omega) (by omega)]
    exact h7 s hs
theorem q_ci_cW {M M2 : q_M} (h : q_tq M M2) : cW M2 11 = cW M 11 := cW_same (fun a i ha => h a i (by omega) (by omega) (by omega) (by omega))
/-- a thought as now, at the text ta -/
def q_tk (V : Nat → (Nat → Int) → Int) (M M2 : q_M) (ta : Nat) : Prop := q_wl V M2 38 ta ∧ cW M2 38 = cW M 11 ∧ q_z5 M2 38 ∧ M2 38 9 = M 11 9 ∧ M2 (38 + 1) 5 = M 12 5 ∧ q_tq M M2
theorem q_tq_cpd {M M2 : q_M} (h : q_cpd 38 11 M M2) : q_tq M M2 := fun a i h1 _ _ _ => h.2.2.2.2 a i (by omega)
theorem q_tk_of {V : Nat → (Nat → Int) → Int} {ta : Nat} {M M1 M2 : q_M} (C : q_ci V M ta) (hf : q_tq M M1) (h : q_cpd 38 11 M1 M2) : q_tk V M M2 ta := by
  have C1 := q_ci_tq hf C
  have ht : ta = 8 ∨ 125 ≤ ta := by have := C.1; unfold q_tas at this; omega
  obtain ⟨a1, a2, a3⟩ := q_think ht C1.2.1 C1.2.2.1 h
  exact ⟨a1, a2.trans (q_ci_cW hf), q_z5_eq (fun a q1 q2 => h.2.2.2.2 a 5 (by omega)) C1.2.2.2.2.1, a3.trans (hf 11 9 (by omega) (by omega) (by omega) (by omega)), h.2.1.trans (hf 12 5 (by omega) (by omega) (by omega) (by omega)), q_tq_tr hf (q_tq_cpd h)⟩
/-- the copy of now to the thought, within a question -/
theorem sp_think {V : Nat → (Nat → Int) → Int} {d dd : Nat} {g : q_G} {M M1 : q_M} {ta : Nat} (C : q_ci V M ta) (hf : q_tq M M1) {P : q_P} {nx : Nat} {ops : List Instr} {ls st : List q_V} {Q : Option q_V → q_G → q_M → Prop} (h : ∀ M2 : q_M, q_tk V M M2 ta → q_T 1 dd P nx ops ls st g M2 Q) : q_S 1 (d + 1) 49 [qR 4 38, qR 4 11] g M1 (q_K 1 dd P nx ops ls st Q) := sp_copyFrom (by omega) (q_ci_tq hf C).2.1.2.2.2.1 C.2.1.2.2.2.2.1 (fun M2 h2 => h M2 (q_tk_of C hf h2))
theorem q_ci_n {V : Nat → (Nat → Int) → Int} {ta : Nat} {M : q_M} (C : q_ci V M ta) : 0 ≤ M 12 5 ∧ M 12 5 ≤ 5 := C.2.1.1.1
theorem q_ci_y {V : Nat → (Nat → Int) → Int} {ta : Nat} {M : q_M} (C : q_ci V M ta) : 0 ≤ M 11 9 ∧ M 11 9 ≤ 999 := ⟨C.2.1.1.2.1.1, C.2.2.2.2.2.1⟩
theorem q_ci_t {V : Nat → (Nat → Int) → Int} {ta : Nat} {M : q_M} (C : q_ci V M ta) : ta = 8 ∨ 125 ≤ ta := by have := C.1; unfold q_tas at this; omega
/-- a thought's stone of another kind, or with another more -/
theorem cW_up0 {M : q_M} {w p : Nat} {v : Int} (hp : p < (M (w + 1) 5).toNat) : cW (q_upd M (w + 22) p v) w = q_upd (cW M w) 0 p v := by
  funext f i
  by_cases hf : f = 0 ∧ i = p
  · obtain ⟨rfl, rfl⟩ := hf
    rw [q_upd_s, cW_0 (by rw [q_upd_n (by omega)]; exact hp), q_upd_s]
  · rw [q_upd_n (by omega)]
    unfold cW
    split <;> simp (disch := omega) only [q_upd_n]
theorem cW_up1 {M : q_M} {w p : Nat} {v : Int} (hp : p < (M (w + 1) 5).toNat) : cW (q_upd M (w + 23) p v) w = q_upd (cW M w) 1 p v := by
  funext f i
  by_cases hf : f = 1 ∧ i = p
  · obtain ⟨rfl, rfl⟩ := hf
    rw [q_upd_s, cW_1 (by rw [q_upd_n (by omega)]; exact hp), q_upd_s]
  · rw [q_upd_n (by omega)]
    unfold cW
    split <;> simp (disch := omega) only [q_upd_n]
theorem q_wl_up3 {V : Nat → (Nat → Int) → Int} {w ta a i : Nat} {v : Int} {M : q_M} (hw : q_wl V M w ta) (h : (a = w + 22 ∧ 0 ≤ v ∧ v ≤ 5) ∨ (a = w + 23 ∧ 0 ≤ v ∧ v ≤ 9)) : q_wl V (q_upd M a i v) w ta := by
  obtain ⟨⟨r0, r1, r2, r3, r4, r5, r6, r7, r8, r9, ra, rb, rc⟩, h2, h3, h4, h5, h6⟩ := hw
  refine ⟨⟨?_, ?_, q_upd_b r2 (by omega), q_upd_b r3 (by omega), q_upd_b r4 (by omega), q_upd_b r5 (by omega), q_upd_b r6 (by omega), q_upd_b r7 (by omega), q_upd_b r8 (by omega), q_upd_b r9 (by omega), q_upd_b ra (by omega), ?_, ?_⟩, h2, fun M' hM => h3 M' (fun x j hx => (hM x j hx).trans (q_upd_n (by omega))), (q_upd_n (by omega)).trans h4, h5, h6⟩
  · rw [q_upd_n (by omega)]
    exact r0
  · rw [q_upd_n (by omega)]
    exact r1
  · rw [q_upd_n (by omega)]
    exact rb
  · rw [q_upd_n (by omega)]
    exact rc
/-- a thought changed at one cell of its stones -/
theorem q_tq_up {a i : Nat} {v : Int} {M M2 : q_M} (h : q_tq M M2) (ha : 38 ≤ a) (ha2 : a < 65) (hi : i < 5 ∨ a < 40 ∨ a = 64) : q_tq M (q_upd M2 a i v) := by
  intro x j h1 h2 h3 h4
  rw [q_upd_n (by omega)]
  exact h x j h1 h2 h3 h4
end
section
/-! THE CLASS'S ENTRIES: judge, kinds -/
theorem q_rfA_0 {M : q_M} {s : Int} (h : q_rfA M s = 0) : (0 ≤ s ∧ s < 4) ∧ M (6 + (86 + 2 * s.toNat)) 2 ≤ 20 := by
  unfold q_rfA at h
  by_cases h1 : 0 ≤ s ∧ s < 4
  · rw [if_neg (fun z => z h1)] at h
    by_cases h2 : M (6 + (86 + 2 * s.toNat)) 1 = -1
    · rw [if_pos h2] at h
      omega
    · rw [if_neg h2] at h
      by_cases h3 : 20 < M (6 + (86 + 2 * s.toNat)) 2
      · rw [if_pos h3] at h
        omega
      · exact ⟨h1, by omega⟩
  · rw [if_pos h1] at h
    omega
/-- the first number of sheet s that is otherwise, stone p in the world S -/
def q_foA (V : Nat → (Nat → Int) → Int) (M S : q_M) (s p : Nat) : Int := F_fo V S p (M (6 + (86 + 2 * s) + 1)) (M (6 + (86 + 2 * s)) 2).toNat 0
theorem sp_fo2 {V0 V : Nat → (Nat → Int) → Int} {d dd : Nat} {g : q_G} {M M2 : q_M} {ta0 ta s p : Nat} (C : q_ci V0 M ta0) (hs : s < 4) (hsz : M (6 + (86 + 2 * s)) 2 ≤ 20) (hp : p < (M 12 5).toNat) (hta : q_tas ta) (hw : q_wl V M2 38 ta) (hz : q_z5 M2 38) (hy : M2 38 9 = M 11 9) (hn : M2 (38 + 1) 5 = M 12 5) (hf : q_tq M M2) {P : q_P} {nx : Nat} {ops : List Instr} {ls st : List q_V} {Q : Option q_V → q_G → q_M → Prop} (h : ∀ M3 : q_M, q_tq M M3 → q_T 1 dd P nx ops ls (qI (q_foA V M (cW M2 38) s p) :: st) g M3 Q) : q_S 1 (d + 5) 105 [qR 5 0, qI s, qI p] g M2 (q_K 1 dd P nx ops ls st Q) := by
  have h12 := q_ci_n C
  have h9 := q_ci_y C
  have hsz0 := C.2.2.2.2.2.2 s hs
  have ht : ta = 8 ∨ 125 ≤ ta := by unfold q_tas at hta; omega
  have e2 : M2 (6 + (86 + 2 * s)) 2 = M (6 + (86 + 2 * s)) 2 := hf _ 2 (by omega) (by omega) (by omega) (by omega)
  have e3 : M2 (6 + (86 + 2 * s) + 1) = M (6 + (86 + 2 * s) + 1) := funext (fun i => hf _ i (by omega) (by omega) (by omega) (by omega))
  refine sp_fo (n := (M (6 + (86 + 2 * s)) 2).toNat) ht hs (by omega) (by omega) (by omega) (by omega) (by rw [hn]; exact hp) hw hz.1 (by omega) (fun M3 h3 => ?_)
  rw [e3]
  exact h M3 (q_tq_tr hf (q_tq_th hta h3))
def A_judge (V : Nat → (Nat → Int) → Int) (M : q_M) (s p : Int) : Int := if q_rfA M s ≠ 0 then q_rfA M s else if ¬(0 ≤ p ∧ p < M 12 5) then -5 else q_foA V M (cW M 11) s.toNat p.toNat
set_option maxHeartbeats 4000000 in
theorem sp_judge {V : Nat → (Nat → Int) → Int} {d : Nat} {g : q_G} {M : q_M} {ta : Nat} {s p : Int} {Q : Option q_V → q_G → q_M → Prop} (C : q_ci V M ta) (hq : ∀ M2 : q_M, q_tq M M2 → Q (some (qI (A_judge V M s p))) g M2) : q_S 1 (d + 6) 83 [qR 5 0, qI s, qI p] g M Q := by
  rw [s_X5_judge]
  unfold A_judge at hq
  by_cases c1 : q_rfA M s = 0
  · rw [if_neg (fun z => z c1)] at hq
    by_cases c2 : 0 ≤ p ∧ p < M 12 5
    · rw [if_neg (fun z => z c2)] at hq
      obtain ⟨⟨s0, s4⟩, sz⟩ := q_rfA_0 c1
      obtain ⟨S, rfl⟩ : ∃ S : Nat, s = S := ⟨s.toNat, by omega⟩
      obtain ⟨N, rfl⟩ : ∃ N : Nat, p = N := ⟨p.toNat, by omega⟩
      simp only [Int.toNat_natCast] at hq sz
      simp (disch := omega) only [b_X5_judge_0, x_loadR_0, x_loadS_0, x_loadI_1, x_storeI_3, x_loadI_3, y_if_eq_t, y_if_eq_f, b_X5_judge_10, x_ret0, b_X5_judge_12, x_loadI_2, y_if_ne_t, y_if_ne_f, b_X5_judge_20, x_iconst, b_X5_judge_23, f_5_4, f_5_3, q_isL_I, q_isL_R, q_isL_S, true_and, and_true, and_self, List.length_nil, List.length_cons, Nat.zero_add, x_K, x_Kn, Int.reduceToNat, Nat.reduceAdd, Nat.reduceMul, Nat.reduceLeDiff, Nat.reduceLT, Nat.zero_le, Int.reduceAdd, Int.reduceSub, Int.reduceMul, Int.reduceNeg, q_add_e, q_sub_e, q_mul_e, q_neg_e, q_upd_s, q_upd_n, zr_shr0, zr_shr1, zr_shr2, zr_shr3, zr_shr4, zr_and, zr_dyn8, zr_or, zr_shl, q_cpy_n, y_cpy26, c_X5_refusalOfTold, sp_refusal, c_X5_isStone, sp_isStone, c2, and_self, if_true, c_X4_copyFrom]
      refine sp_think C q_tq_rf (fun M2 h2 => ?_)
      simp (disch := omega) only [b_X5_judge_0, x_loadR_0, x_loadS_0, x_loadI_1, x_storeI_3, x_loadI_3, y_if_eq_t, y_if_eq_f, b_X5_judge_10, x_ret0, b_X5_judge_12, x_loadI_2, y_if_ne_t, y_if_ne_f, b_X5_judge_20, x_iconst, b_X5_judge_23, f_5_4, f_5_3, q_isL_I, q_isL_R, q_isL_S, true_and, and_true, and_self, List.length_nil, List.length_cons, Nat.zero_add, x_K, x_Kn, Int.reduceToNat, Nat.reduceAdd, Nat.reduceMul, Nat.reduceLeDiff, Nat.reduceLT, Nat.zero_le, Int.reduceAdd, Int.reduceSub, Int.reduceMul, Int.reduceNeg, q_add_e, q_sub_e, q_mul_e, q_neg_e, q_upd_s, q_upd_n, zr_shr0, zr_shr1, zr_shr2, zr_shr3, zr_shr4, zr_and, zr_dyn8, zr_or, zr_shl, q_cpy_n, y_cpy26, c_X5_firstOtherwise]
      refine sp_fo2 C (by omega) sz (by omega) C.1 h2.1 h2.2.2.1 h2.2.2.2.1 h2.2.2.2.2.1 h2.2.2.2.2.2 (fun M3 h3 => ?_)
      simp (disch := omega) only [b_X5_judge_0, x_loadR_0, x_loadS_0, x_loadI_1, x_storeI_3, x_loadI_3, y_if_eq_t, y_if_eq_f, b_X5_judge_10, x_ret0, b_X5_judge_12, x_loadI_2, y_if_ne_t, y_if_ne_f, b_X5_judge_20, x_iconst, b_X5_judge_23, f_5_4, f_5_3, q_isL_I, q_isL_R, q_isL_S, true_and, and_true, and_self, List.length_nil, List.length_cons, Nat.zero_add, x_K, x_Kn, Int.reduceToNat, Nat.reduceAdd, Nat.reduceMul, Nat.reduceLeDiff, Nat.reduceLT, Nat.zero_le, Int.reduceAdd, Int.reduceSub, Int.reduceMul, Int.reduceNeg, q_add_e, q_sub_e, q_mul_e, q_neg_e, q_upd_s, q_upd_n, zr_shr0, zr_shr1, zr_shr2, zr_shr3, zr_shr4, zr_and, zr_dyn8, zr_or, zr_shl, q_cpy_n, y_cpy26]
      rw [h2.2.1]
      exact hq M3 h3
    · rw [if_pos c2] at hq
      simp (disch := omega) only [b_X5_judge_0, x_loadR_0, x_loadS_0, x_loadI_1, x_storeI_3, x_loadI_3, y_if_eq_t, y_if_eq_f, b_X5_judge_10, x_ret0, b_X5_judge_12, x_loadI_2, y_if_ne_t, y_if_ne_f, b_X5_judge_20, x_iconst, b_X5_judge_23, f_5_4, f_5_3, q_isL_I, q_isL_R, q_isL_S, true_and, and_true, and_self, List.length_nil, List.length_cons, Nat.zero_add, x_K, x_Kn, Int.reduceToNat, Nat.reduceAdd, Nat.reduceMul, Nat.reduceLeDiff, Nat.reduceLT, Nat.zero_le, Int.reduceAdd, Int.reduceSub, Int.reduceMul, Int.reduceNeg, q_add_e, q_sub_e, q_mul_e, q_neg_e, q_upd_s, q_upd_n, zr_shr0, zr_shr1, zr_shr2, zr_shr3, zr_shr4, zr_and, zr_dyn8, zr_or, zr_shl, q_cpy_n, y_cpy26, c_X5_refusalOfTold, sp_refusal, c_X5_isStone, sp_isStone, c2, if_false]
      exact hq M q_tq_rf
  · rw [if_pos c1] at hq
    simp (disch := omega) only [b_X5_judge_0, x_loadR_0, x_loadS_0, x_loadI_1, x_storeI_3, x_loadI_3, y_if_eq_t, y_if_eq_f, b_X5_judge_10, x_ret0, b_X5_judge_12, x_loadI_2, y_if_ne_t, y_if_ne_f, b_X5_judge_20, x_iconst, b_X5_judge_23, f_5_4, f_5_3, q_isL_I, q_isL_R, q_isL_S, true_and, and_true, and_self, List.length_nil, List.length_cons, Nat.zero_add, x_K, x_Kn, Int.reduceToNat, Nat.reduceAdd, Nat.reduceMul, Nat.reduceLeDiff, Nat.reduceLT, Nat.zero_le, Int.reduceAdd, Int.reduceSub, Int.reduceMul, Int.reduceNeg, q_add_e, q_sub_e, q_mul_e, q_neg_e, q_upd_s, q_upd_n, zr_shr0, zr_shr1, zr_shr2, zr_shr3, zr_shr4, zr_and, zr_dyn8, zr_or, zr_shl, q_cpy_n, y_cpy26, c_X5_refusalOfTold, sp_refusal]
    exact hq M q_tq_rf
/-- bits of those below k of which T says -1 -/
def F_set (T : Nat → Int) : Nat → Int
  | 0 => 0
  | k + 1 => if T k = -1 then q_or (F_set T k) (q_shl 1 k) else F_set T k
def A_kinds (V : Nat → (Nat → Int) → Int) (M : q_M) (s p so : Int) : Int := if q_rfA M s ≠ 0 then q_rfA M s else if ¬(0 ≤ p ∧ p < M 12 5) then -5 else if ¬(0 ≤ so ∧ so ≤ 1) then -7 else F_set (fun k => q_foA V M (q_upd (cW M 11) so.toNat p.toNat k) s.toNat p.toNat) (if so = 0 then 6 else 10)
set_option maxHeartbeats 4000000 in
theorem sp_kinds {V : Nat → (Nat → Int) → Int} {d : Nat} {g : q_G} {M : q_M} {ta : Nat} {s p so : Int} {Q : Option q_V → q_G → q_M → Prop} (C : q_ci V M ta) (hq : ∀ M2 : q_M, q_tq M M2 → Q (some (qI (A_kinds V M s p so))) g M2) : q_S 1 (d + 6) 84 [qR 5 0, qI s, qI p, qI so] g M Q := by
  have h12 := q_ci_n C
  rw [s_X5_kinds]
  unfold A_kinds at hq
  by_cases c1 : q_rfA M s = 0
  · rw [if_neg (fun z => z c1)] at hq
    by_cases c2 : 0 ≤ p ∧ p < M 12 5
    · rw [if_neg (fun z => z c2)] at hq
      by_cases c3 : 0 ≤ so ∧ so ≤ 1
      · rw [if_neg (fun z => z c3)] at hq
        obtain ⟨⟨s0, s4⟩, sz⟩ := q_rfA_0 c1
        obtain ⟨S, rfl⟩ : ∃ S : Nat, s = S := ⟨s.toNat, by omega⟩
        obtain ⟨N, rfl⟩ : ∃ N : Nat, p = N := ⟨p.toNat, by omega⟩
        simp only [Int.toNat_natCast] at hq sz
        generalize hT : (fun k : Nat => q_foA V M (q_upd (cW M 11) so.toNat N k) S N) = T at hq
        have loop : ∀ K : Nat, K = (if so = 0 then 6 else 10) → ∀ j k : Nat, k + j = K → ∀ M1 : q_M, q_tq M M1 → q_T 1 (d + 6) qP_X5_kinds 57 [] [qR 5 0, qI S, qI N, qI so, qI (q_rfA M S), qI (F_set T k), qI K, qI k] [] g M1 Q := by
          intro K hK
          rw [← hK] at hq
          have hK10 : K ≤ 10 := by rw [hK]; split <;> omega
          have hK6 : so = 0 → K = 6 := fun e => by rw [hK, if_pos e]
          intro j
          induction j with
          | zero =>
            intro k hk M1 hf
            have e : k = K := by omega
            subst e
            rw [b_X5_kinds_57]
            simp (disch := omega) only [b_X5_kinds_0, x_loadR_0, x_loadS_0, x_loadI_1, x_storeI_4, x_loadI_4, y_if_eq_t, y_if_eq_f, b_X5_kinds_12, x_ret0, b_X5_kinds_15, x_loadI_2, y_if_ne_t, y_if_ne_f, b_X5_kinds_23, x_iconst, b_X5_kinds_26, x_loadI_3, y_if_lt_t, y_if_lt_f, b_X5_kinds_30, y_ic_le_t, y_ic_le_f, b_X5_kinds_35, b_X5_kinds_38, x_storeI_5, b_X5_kinds_45, x_goto, b_X5_kinds_50, b_X5_kinds_52, x_storeI_6, x_storeI_7, x_loadI_7, x_loadI_6, y_ic_ge_t, y_ic_ge_f, b_X5_kinds_64, f_5_4, f_5_3, b_X5_kinds_79, f_4_4, y_iast_26, b_X5_kinds_93, f_4_5, b_X5_kinds_104, y_ic_ne_t, y_ic_ne_f, b_X5_kinds_114, x_loadI_5, x_ishl, x_ior, b_X5_kinds_123, x_iinc_7, b_X5_kinds_129, q_isL_I, q_isL_R, q_isL_S, true_and, and_true, and_self, List.length_nil, List.length_cons, Nat.zero_add, x_K, x_Kn, Int.reduceToNat, Nat.reduceAdd, Nat.reduceMul, Nat.reduceLeDiff, Nat.reduceLT, Nat.zero_le, Int.reduceAdd, Int.reduceSub, Int.reduceMul, Int.reduceNeg, q_add_e, q_sub_e, q_mul_e, q_neg_e, q_upd_s, q_upd_n, zr_shr0, zr_shr1, zr_shr2, zr_shr3, zr_shr4, zr_and, zr_dyn8, zr_or, zr_shl, q_cpy_n, y_cpy26]
            exact hq M1 hf
          | succ j ih =>
            intro k hk M1 hf
            have ih2 := ih (k + 1) (by omega)
            rw [F_set] at ih2
            rw [b_X5_kinds_57]
            simp (disch := omega) only [b_X5_kinds_0, x_loadR_0, x_loadS_0, x_loadI_1, x_storeI_4, x_loadI_4, y_if_eq_t, y_if_eq_f, b_X5_kinds_12, x_ret0, b_X5_kinds_15, x_loadI_2, y_if_ne_t, y_if_ne_f, b_X5_kinds_23, x_iconst, b_X5_kinds_26, x_loadI_3, y_if_lt_t, y_if_lt_f, b_X5_kinds_30, y_ic_le_t, y_ic_le_f, b_X5_kinds_35, b_X5_kinds_38, x_storeI_5, b_X5_kinds_45, x_goto, b_X5_kinds_50, b_X5_kinds_52, x_storeI_6, x_storeI_7, x_loadI_7, x_loadI_6, y_ic_ge_t, y_ic_ge_f, b_X5_kinds_64, f_5_4, f_5_3, b_X5_kinds_79, f_4_4, y_iast_26, b_X5_kinds_93, f_4_5, b_X5_kinds_104, y_ic_ne_t, y_ic_ne_f, b_X5_kinds_114, x_loadI_5, x_ishl, x_ior, b_X5_kinds_123, x_iinc_7, b_X5_kinds_129, q_isL_I, q_isL_R, q_isL_S, true_and, and_true, and_self, List.length_nil, List.length_cons, Nat.zero_add, x_K, x_Kn, Int.reduceToNat, Nat.reduceAdd, Nat.reduceMul, Nat.reduceLeDiff, Nat.reduceLT, Nat.zero_le, Int.reduceAdd, Int.reduceSub, Int.reduceMul, Int.reduceNeg, q_add_e, q_sub_e, q_mul_e, q_neg_e, q_upd_s, q_upd_n, zr_shr0, zr_shr1, zr_shr2, zr_shr3, zr_shr4, zr_and, zr_dyn8, zr_or, zr_shl, q_cpy_n, y_cpy26, c_X4_copyFrom]
            refine sp_think C hf (fun M2 h2 => ?_)
            obtain ⟨t1, t2, t3, t4, t5, t6⟩ := h2
            rcases (show so = 0 ∨ so = 1 by omega) with e | e
            · subst e
              simp (disch := omega) only [b_X5_kinds_0, x_loadR_0, x_loadS_0, x_loadI_1, x_storeI_4, x_loadI_4, y_if_eq_t, y_if_eq_f, b_X5_kinds_12, x_ret0, b_X5_kinds_15, x_loadI_2, y_if_ne_t, y_if_ne_f, b_X5_kinds_23, x_iconst, b_X5_kinds_26, x_loadI_3, y_if_lt_t, y_if_lt_f, b_X5_kinds_30, y_ic_le_t, y_ic_le_f, b_X5_kinds_35, b_X5_kinds_38, x_storeI_5, b_X5_kinds_45, x_goto, b_X5_kinds_50, b_X5_kinds_52, x_storeI_6, x_storeI_7, x_loadI_7, x_loadI_6, y_ic_ge_t, y_ic_ge_f, b_X5_kinds_64, f_5_4, f_5_3, b_X5_kinds_79, f_4_4, y_iast_26, b_X5_kinds_93, f_4_5, b_X5_kinds_104, y_ic_ne_t, y_ic_ne_f, b_X5_kinds_114, x_loadI_5, x_ishl, x_ior, b_X5_kinds_123, x_iinc_7, b_X5_kinds_129, q_isL_I, q_isL_R, q_isL_S, true_and, and_true, and_self, List.length_nil, List.length_cons, Nat.zero_add, x_K, x_Kn, Int.reduceToNat, Nat.reduceAdd, Nat.reduceMul, Nat.reduceLeDiff, Nat.reduceLT, Nat.zero_le, Int.reduceAdd, Int.reduceSub, Int.reduceMul, Int.reduceNeg, q_add_e, q_sub_e, q_mul_e, q_neg_e, q_upd_s, q_upd_n, zr_shr0, zr_shr1, zr_shr2, zr_shr3, zr_shr4, zr_and, zr_dyn8, zr_or, zr_shl, q_cpy_n, y_cpy26, c_X5_firstOtherwise, Int.toNat_natCast]
              refine sp_fo2 (V := V) (ta := ta) C (by omega) sz (by omega) C.1 (q_wl_up3 t1 (by omega)) (q_z5_eq (fun a q1 q2 => q_upd_n (by omega)) t3) ((q_upd_n (by omega)).trans t4) ((q_upd_n (by omega)).trans t5) (q_tq_up t6 (by omega) (by omega) (by omega)) (fun M3 h3 => ?_)
              have eT : q_foA V M (cW (q_upd M2 60 N k) 38) S N = T k := by rw [← hT, ← t2]; exact congrArg (fun S2 => q_foA V M S2 S N) (cW_up0 (w := 38) (M := M2) (by rw [t5]; omega))
              rw [eT]
              by_cases c : T k = -1
              · rw [if_pos c] at ih2
                simp (disch := omega) only [b_X5_kinds_0, x_loadR_0, x_loadS_0, x_loadI_1, x_storeI_4, x_loadI_4, y_if_eq_t, y_if_eq_f, b_X5_kinds_12, x_ret0, b_X5_kinds_15, x_loadI_2, y_if_ne_t, y_if_ne_f, b_X5_kinds_23, x_iconst, b_X5_kinds_26, x_loadI_3, y_if_lt_t, y_if_lt_f, b_X5_kinds_30, y_ic_le_t, y_ic_le_f, b_X5_kinds_35, b_X5_kinds_38, x_storeI_5, b_X5_kinds_45, x_goto, b_X5_kinds_50, b_X5_kinds_52, x_storeI_6, x_storeI_7, x_loadI_7, x_loadI_6, y_ic_ge_t, y_ic_ge_f, b_X5_kinds_64, f_5_4, f_5_3, b_X5_kinds_79, f_4_4, y_iast_26, b_X5_kinds_93, f_4_5, b_X5_kinds_104, y_ic_ne_t, y_ic_ne_f, b_X5_kinds_114, x_loadI_5, x_ishl, x_ior, b_X5_kinds_123, x_iinc_7, b_X5_kinds_129, q_isL_I, q_isL_R, q_isL_S, true_and, and_true, and_self, List.length_nil, List.length_cons, Nat.zero_add, x_K, x_Kn, Int.reduceToNat, Nat.reduceAdd, Nat.reduceMul, Nat.reduceLeDiff, Nat.reduceLT, Nat.zero_le, Int.reduceAdd, Int.reduceSub, Int.reduceMul, Int.reduceNeg, q_add_e, q_sub_e, q_mul_e, q_neg_e, q_upd_s, q_upd_n, zr_shr0, zr_shr1, zr_shr2, zr_shr3, zr_shr4, zr_and, zr_dyn8, zr_or, zr_shl, q_cpy_n, y_cpy26]
                exact ih2 M3 h3
              · rw [if_neg c] at ih2
                simp (disch := omega) only [b_X5_kinds_0, x_loadR_0, x_loadS_0, x_loadI_1, x_storeI_4, x_loadI_4, y_if_eq_t, y_if_eq_f, b_X5_kinds_12, x_ret0, b_X5_kinds_15, x_loadI_2, y_if_ne_t, y_if_ne_f, b_X5_kinds_23, x_iconst, b_X5_kinds_26, x_loadI_3, y_if_lt_t, y_if_lt_f, b_X5_kinds_30, y_ic_le_t, y_ic_le_f, b_X5_kinds_35, b_X5_kinds_38, x_storeI_5, b_X5_kinds_45, x_goto, b_X5_kinds_50, b_X5_kinds_52, x_storeI_6, x_storeI_7, x_loadI_7, x_loadI_6, y_ic_ge_t, y_ic_ge_f, b_X5_kinds_64, f_5_4, f_5_3, b_X5_kinds_79, f_4_4, y_iast_26, b_X5_kinds_93, f_4_5, b_X5_kinds_104, y_ic_ne_t, y_ic_ne_f, b_X5_kinds_114, x_loadI_5, x_ishl, x_ior, b_X5_kinds_123, x_iinc_7, b_X5_kinds_129, q_isL_I, q_isL_R, q_isL_S, true_and, and_true, and_self, List.length_nil, List.length_cons, Nat.zero_add, x_K, x_Kn, Int.reduceToNat, Nat.reduceAdd, Nat.reduceMul, Nat.reduceLeDiff, Nat.reduceLT, Nat.zero_le, Int.reduceAdd, Int.reduceSub, Int.reduceMul, Int.reduceNeg, q_add_e, q_sub_e, q_mul_e, q_neg_e, q_upd_s, q_upd_n, zr_shr0, zr_shr1, zr_shr2, zr_shr3, zr_shr4, zr_and, zr_dyn8, zr_or, zr_shl, q_cpy_n, y_cpy26]
                exact ih2 M3 h3
            · subst e
              simp (disch := omega) only [b_X5_kinds_0, x_loadR_0, x_loadS_0, x_loadI_1, x_storeI_4, x_loadI_4, y_if_eq_t, y_if_eq_f, b_X5_kinds_12, x_ret0, b_X5_kinds_15, x_loadI_2, y_if_ne_t, y_if_ne_f, b_X5_kinds_23, x_iconst, b_X5_kinds_26, x_loadI_3, y_if_lt_t, y_if_lt_f, b_X5_kinds_30, y_ic_le_t, y_ic_le_f, b_X5_kinds_35, b_X5_kinds_38, x_storeI_5, b_X5_kinds_45, x_goto, b_X5_kinds_50, b_X5_kinds_52, x_storeI_6, x_storeI_7, x_loadI_7, x_loadI_6, y_ic_ge_t, y_ic_ge_f, b_X5_kinds_64, f_5_4, f_5_3, b_X5_kinds_79, f_4_4, y_iast_26, b_X5_kinds_93, f_4_5, b_X5_kinds_104, y_ic_ne_t, y_ic_ne_f, b_X5_kinds_114, x_loadI_5, x_ishl, x_ior, b_X5_kinds_123, x_iinc_7, b_X5_kinds_129, q_isL_I, q_isL_R, q_isL_S, true_and, and_true, and_self, List.length_nil, List.length_cons, Nat.zero_add, x_K, x_Kn, Int.reduceToNat, Nat.reduceAdd, Nat.reduceMul, Nat.reduceLeDiff, Nat.reduceLT, Nat.zero_le, Int.reduceAdd, Int.reduceSub, Int.reduceMul, Int.reduceNeg, q_add_e, q_sub_e, q_mul_e, q_neg_e, q_upd_s, q_upd_n, zr_shr0, zr_shr1, zr_shr2, zr_shr3, zr_shr4, zr_and, zr_dyn8, zr_or, zr_shl, q_cpy_n, y_cpy26, c_X5_firstOtherwise, Int.toNat_natCast]
              refine sp_fo2 (V := V) (ta := ta) C (by omega) sz (by omega) C.1 (q_wl_up3 t1 (by omega)) (q_z5_eq (fun a q1 q2 => q_upd_n (by omega)) t3) ((q_upd_n (by omega)).trans t4) ((q_upd_n (by omega)).trans t5) (q_tq_up t6 (by omega) (by omega) (by omega)) (fun M3 h3 => ?_)
              have eT : q_foA V M (cW (q_upd M2 61 N k) 38) S N = T k := by rw [← hT, ← t2]; exact congrArg (fun S2 => q_foA V M S2 S N) (cW_up1 (w := 38) (M := M2) (by rw [t5]; omega))
              rw [eT]
              by_cases c : T k = -1
              · rw [if_pos c] at ih2
                simp (disch := omega) only [b_X5_kinds_0, x_loadR_0, x_loadS_0, x_loadI_1, x_storeI_4, x_loadI_4, y_if_eq_t, y_if_eq_f, b_X5_kinds_12, x_ret0, b_X5_kinds_15, x_loadI_2, y_if_ne_t, y_if_ne_f, b_X5_kinds_23, x_iconst, b_X5_kinds_26, x_loadI_3, y_if_lt_t, y_if_lt_f, b_X5_kinds_30, y_ic_le_t, y_ic_le_f, b_X5_kinds_35, b_X5_kinds_38, x_storeI_5, b_X5_kinds_45, x_goto, b_X5_kinds_50, b_X5_kinds_52, x_storeI_6, x_storeI_7, x_loadI_7, x_loadI_6, y_ic_ge_t, y_ic_ge_f, b_X5_kinds_64, f_5_4, f_5_3, b_X5_kinds_79, f_4_4, y_iast_26, b_X5_kinds_93, f_4_5, b_X5_kinds_104, y_ic_ne_t, y_ic_ne_f, b_X5_kinds_114, x_loadI_5, x_ishl, x_ior, b_X5_kinds_123, x_iinc_7, b_X5_kinds_129, q_isL_I, q_isL_R, q_isL_S, true_and, and_true, and_self, List.length_nil, List.length_cons, Nat.zero_add, x_K, x_Kn, Int.reduceToNat, Nat.reduceAdd, Nat.reduceMul, Nat.reduceLeDiff, Nat.reduceLT, Nat.zero_le, Int.reduceAdd, Int.reduceSub, Int.reduceMul, Int.reduceNeg, q_add_e, q_sub_e, q_mul_e, q_neg_e, q_upd_s, q_upd_n, zr_shr0, zr_shr1, zr_shr2, zr_shr3, zr_shr4, zr_and, zr_dyn8, zr_or, zr_shl, q_cpy_n, y_cpy26]
                exact ih2 M3 h3
              · rw [if_neg c] at ih2
                simp (disch := omega) only [b_X5_kinds_0, x_loadR_0, x_loadS_0, x_loadI_1, x_storeI_4, x_loadI_4, y_if_eq_t, y_if_eq_f, b_X5_kinds_12, x_ret0, b_X5_kinds_15, x_loadI_2, y_if_ne_t, y_if_ne_f, b_X5_kinds_23, x_iconst, b_X5_kinds_26, x_loadI_3, y_if_lt_t, y_if_lt_f, b_X5_kinds_30, y_ic_le_t, y_ic_le_f, b_X5_kinds_35, b_X5_kinds_38, x_storeI_5, b_X5_kinds_45, x_goto, b_X5_kinds_50, b_X5_kinds_52, x_storeI_6, x_storeI_7, x_loadI_7, x_loadI_6, y_ic_ge_t, y_ic_ge_f, b_X5_kinds_64, f_5_4, f_5_3, b_X5_kinds_79, f_4_4, y_iast_26, b_X5_kinds_93, f_4_5, b_X5_kinds_104, y_ic_ne_t, y_ic_ne_f, b_X5_kinds_114, x_loadI_5, x_ishl, x_ior, b_X5_kinds_123, x_iinc_7, b_X5_kinds_129, q_isL_I, q_isL_R, q_isL_S, true_and, and_true, and_self, List.length_nil, List.length_cons, Nat.zero_add, x_K, x_Kn, Int.reduceToNat, Nat.reduceAdd, Nat.reduceMul, Nat.reduceLeDiff, Nat.reduceLT, Nat.zero_le, Int.reduceAdd, Int.reduceSub, Int.reduceMul, Int.reduceNeg, q_add_e, q_sub_e, q_mul_e, q_neg_e, q_upd_s, q_upd_n, zr_shr0, zr_shr1, zr_shr2, zr_shr3, zr_shr4, zr_and, zr_dyn8, zr_or, zr_shl, q_cpy_n, y_cpy26]
                exact ih2 M3 h3
        rcases (show so = 0 ∨ so = 1 by omega) with e | e
        · subst e
          simp (disch := omega) only [b_X5_kinds_0, x_loadR_0, x_loadS_0, x_loadI_1, x_storeI_4, x_loadI_4, y_if_eq_t, y_if_eq_f, b_X5_kinds_12, x_ret0, b_X5_kinds_15, x_loadI_2, y_if_ne_t, y_if_ne_f, b_X5_kinds_23, x_iconst, b_X5_kinds_26, x_loadI_3, y_if_lt_t, y_if_lt_f, b_X5_kinds_30, y_ic_le_t, y_ic_le_f, b_X5_kinds_35, b_X5_kinds_38, x_storeI_5, b_X5_kinds_45, x_goto, b_X5_kinds_50, b_X5_kinds_52, x_storeI_6, x_storeI_7, x_loadI_7, x_loadI_6, y_ic_ge_t, y_ic_ge_f, b_X5_kinds_64, f_5_4, f_5_3, b_X5_kinds_79, f_4_4, y_iast_26, b_X5_kinds_93, f_4_5, b_X5_kinds_104, y_ic_ne_t, y_ic_ne_f, b_X5_kinds_114, x_loadI_5, x_ishl, x_ior, b_X5_kinds_123, x_iinc_7, b_X5_kinds_129, q_isL_I, q_isL_R, q_isL_S, true_and, and_true, and_self, List.length_nil, List.length_cons, Nat.zero_add, x_K, x_Kn, Int.reduceToNat, Nat.reduceAdd, Nat.reduceMul, Nat.reduceLeDiff, Nat.reduceLT, Nat.zero_le, Int.reduceAdd, Int.reduceSub, Int.reduceMul, Int.reduceNeg, q_add_e, q_sub_e, q_mul_e, q_neg_e, q_upd_s, q_upd_n, zr_shr0, zr_shr1, zr_shr2, zr_shr3, zr_shr4, zr_and, zr_dyn8, zr_or, zr_shl, q_cpy_n, y_cpy26, c_X5_refusalOfTold, sp_refusal, c_X5_isStone, sp_isStone, c2, and_self, if_true]
          exact loop 6 rfl 6 0 rfl M q_tq_rf
        · subst e
          simp (disch := omega) only [b_X5_kinds_0, x_loadR_0, x_loadS_0, x_loadI_1, x_storeI_4, x_loadI_4, y_if_eq_t, y_if_eq_f, b_X5_kinds_12, x_ret0, b_X5_kinds_15, x_loadI_2, y_if_ne_t, y_if_ne_f, b_X5_kinds_23, x_iconst, b_X5_kinds_26, x_loadI_3, y_if_lt_t, y_if_lt_f, b_X5_kinds_30, y_ic_le_t, y_ic_le_f, b_X5_kinds_35, b_X5_kinds_38, x_storeI_5, b_X5_kinds_45, x_goto, b_X5_kinds_50, b_X5_kinds_52, x_storeI_6, x_storeI_7, x_loadI_7, x_loadI_6, y_ic_ge_t, y_ic_ge_f, b_X5_kinds_64, f_5_4, f_5_3, b_X5_kinds_79, f_4_4, y_iast_26, b_X5_kinds_93, f_4_5, b_X5_kinds_104, y_ic_ne_t, y_ic_ne_f, b_X5_kinds_114, x_loadI_5, x_ishl, x_ior, b_X5_kinds_123, x_iinc_7, b_X5_kinds_129, q_isL_I, q_isL_R, q_isL_S, true_and, and_true, and_self, List.length_nil, List.length_cons, Nat.zero_add, x_K, x_Kn, Int.reduceToNat, Nat.reduceAdd, Nat.reduceMul, Nat.reduceLeDiff, Nat.reduceLT, Nat.zero_le, Int.reduceAdd, Int.reduceSub, Int.reduceMul, Int.reduceNeg, q_add_e, q_sub_e, q_mul_e, q_neg_e, q_upd_s, q_upd_n, zr_shr0, zr_shr1, zr_shr2, zr_shr3, zr_shr4, zr_and, zr_dyn8, zr_or, zr_shl, q_cpy_n, y_cpy26, c_X5_refusalOfTold, sp_refusal, c_X5_isStone, sp_isStone, c2, and_self, if_true]
          exact loop 10 rfl 10 0 rfl M q_tq_rf
      · rw [if_pos c3] at hq
        rcases (show so < 0 ∨ 1 < so by omega) with e | e
        · simp (disch := omega) only [b_X5_kinds_0, x_loadR_0, x_loadS_0, x_loadI_1, x_storeI_4, x_loadI_4, y_if_eq_t, y_if_eq_f, b_X5_kinds_12, x_ret0, b_X5_kinds_15, x_loadI_2, y_if_ne_t, y_if_ne_f, b_X5_kinds_23, x_iconst, b_X5_kinds_26, x_loadI_3, y_if_lt_t, y_if_lt_f, b_X5_kinds_30, y_ic_le_t, y_ic_le_f, b_X5_kinds_35, b_X5_kinds_38, x_storeI_5, b_X5_kinds_45, x_goto, b_X5_kinds_50, b_X5_kinds_52, x_storeI_6, x_storeI_7, x_loadI_7, x_loadI_6, y_ic_ge_t, y_ic_ge_f, b_X5_kinds_64, f_5_4, f_5_3, b_X5_kinds_79, f_4_4, y_iast_26, b_X5_kinds_93, f_4_5, b_X5_kinds_104, y_ic_ne_t, y_ic_ne_f, b_X5_kinds_114, x_loadI_5, x_ishl, x_ior, b_X5_kinds_123, x_iinc_7, b_X5_kinds_129, q_isL_I, q_isL_R, q_isL_S, true_and, and_true, and_self, List.length_nil, List.length_cons, Nat.zero_add, x_K, x_Kn, Int.reduceToNat, Nat.reduceAdd, Nat.reduceMul, Nat.reduceLeDiff, Nat.reduceLT, Nat.zero_le, Int.reduceAdd, Int.reduceSub, Int.reduceMul, Int.reduceNeg, q_add_e, q_sub_e, q_mul_e, q_neg_e, q_upd_s, q_upd_n, zr_shr0, zr_shr1, zr_shr2, zr_shr3, zr_shr4, zr_and, zr_dyn8, zr_or, zr_shl, q_cpy_n, y_cpy26, c_X5_refusalOfTold, sp_refusal, c_X5_isStone, sp_isStone, c2, and_self, if_true]
          exact hq M q_tq_rf
        · simp (disch := omega) only [b_X5_kinds_0, x_loadR_0, x_loadS_0, x_loadI_1, x_storeI_4, x_loadI_4, y_if_eq_t, y_if_eq_f, b_X5_kinds_12, x_ret0, b_X5_kinds_15, x_loadI_2, y_if_ne_t, y_if_ne_f, b_X5_kinds_23, x_iconst, b_X5_kinds_26, x_loadI_3, y_if_lt_t, y_if_lt_f, b_X5_kinds_30, y_ic_le_t, y_ic_le_f, b_X5_kinds_35, b_X5_kinds_38, x_storeI_5, b_X5_kinds_45, x_goto, b_X5_kinds_50, b_X5_kinds_52, x_storeI_6, x_storeI_7, x_loadI_7, x_loadI_6, y_ic_ge_t, y_ic_ge_f, b_X5_kinds_64, f_5_4, f_5_3, b_X5_kinds_79, f_4_4, y_iast_26, b_X5_kinds_93, f_4_5, b_X5_kinds_104, y_ic_ne_t, y_ic_ne_f, b_X5_kinds_114, x_loadI_5, x_ishl, x_ior, b_X5_kinds_123, x_iinc_7, b_X5_kinds_129, q_isL_I, q_isL_R, q_isL_S, true_and, and_true, and_self, List.length_nil, List.length_cons, Nat.zero_add, x_K, x_Kn, Int.reduceToNat, Nat.reduceAdd, Nat.reduceMul, Nat.reduceLeDiff, Nat.reduceLT, Nat.zero_le, Int.reduceAdd, Int.reduceSub, Int.reduceMul, Int.reduceNeg, q_add_e, q_sub_e, q_mul_e, q_neg_e, q_upd_s, q_upd_n, zr_shr0, zr_shr1, zr_shr2, zr_shr3, zr_shr4, zr_and, zr_dyn8, zr_or, zr_shl, q_cpy_n, y_cpy26, c_X5_refusalOfTold, sp_refusal, c_X5_isStone, sp_isStone, c2, and_self, if_true]
          exact hq M q_tq_rf
    · rw [if_pos c2] at hq
      simp (disch := omega) only [b_X5_kinds_0, x_loadR_0, x_loadS_0, x_loadI_1, x_storeI_4, x_loadI_4, y_if_eq_t, y_if_eq_f, b_X5_kinds_12, x_ret0, b_X5_kinds_15, x_loadI_2, y_if_ne_t, y_if_ne_f, b_X5_kinds_23, x_iconst, b_X5_kinds_26, x_loadI_3, y_if_lt_t, y_if_lt_f, b_X5_kinds_30, y_ic_le_t, y_ic_le_f, b_X5_kinds_35, b_X5_kinds_38, x_storeI_5, b_X5_kinds_45, x_goto, b_X5_kinds_50, b_X5_kinds_52, x_storeI_6, x_storeI_7, x_loadI_7, x_loadI_6, y_ic_ge_t, y_ic_ge_f, b_X5_kinds_64, f_5_4, f_5_3, b_X5_kinds_79, f_4_4, y_iast_26, b_X5_kinds_93, f_4_5, b_X5_kinds_104, y_ic_ne_t, y_ic_ne_f, b_X5_kinds_114, x_loadI_5, x_ishl, x_ior, b_X5_kinds_123, x_iinc_7, b_X5_kinds_129, q_isL_I, q_isL_R, q_isL_S, true_and, and_true, and_self, List.length_nil, List.length_cons, Nat.zero_add, x_K, x_Kn, Int.reduceToNat, Nat.reduceAdd, Nat.reduceMul, Nat.reduceLeDiff, Nat.reduceLT, Nat.zero_le, Int.reduceAdd, Int.reduceSub, Int.reduceMul, Int.reduceNeg, q_add_e, q_sub_e, q_mul_e, q_neg_e, q_upd_s, q_upd_n, zr_shr0, zr_shr1, zr_shr2, zr_shr3, zr_shr4, zr_and, zr_dyn8, zr_or, zr_shl, q_cpy_n, y_cpy26, c_X5_refusalOfTold, sp_refusal, c_X5_isStone, sp_isStone, c2, if_false]
      exact hq M q_tq_rf
  · rw [if_pos c1] at hq
    simp (disch := omega) only [b_X5_kinds_0, x_loadR_0, x_loadS_0, x_loadI_1, x_storeI_4, x_loadI_4, y_if_eq_t, y_if_eq_f, b_X5_kinds_12, x_ret0, b_X5_kinds_15, x_loadI_2, y_if_ne_t, y_if_ne_f, b_X5_kinds_23, x_iconst, b_X5_kinds_26, x_loadI_3, y_if_lt_t, y_if_lt_f, b_X5_kinds_30, y_ic_le_t, y_ic_le_f, b_X5_kinds_35, b_X5_kinds_38, x_storeI_5, b_X5_kinds_45, x_goto, b_X5_kinds_50, b_X5_kinds_52, x_storeI_6, x_storeI_7, x_loadI_7, x_loadI_6, y_ic_ge_t, y_ic_ge_f, b_X5_kinds_64, f_5_4, f_5_3, b_X5_kinds_79, f_4_4, y_iast_26, b_X5_kinds_93, f_4_5, b_X5_kinds_104, y_ic_ne_t, y_ic_ne_f, b_X5_kinds_114, x_loadI_5, x_ishl, x_ior, b_X5_kinds_123, x_iinc_7, b_X5_kinds_129, q_isL_I, q_isL_R, q_isL_S, true_and, and_true, and_self, List.length_nil, List.length_cons, Nat.zero_add, x_K, x_Kn, Int.reduceToNat, Nat.reduceAdd, Nat.reduceMul, Nat.reduceLeDiff, Nat.reduceLT, Nat.zero_le, Int.reduceAdd, Int.reduceSub, Int.reduceMul, Int.reduceNeg, q_add_e, q_sub_e, q_mul_e, q_neg_e, q_upd_s, q_upd_n, zr_shr0, zr_shr1, zr_shr2, zr_shr3, zr_shr4, zr_and, zr_dyn8, zr_or, zr_shl, q_cpy_n, y_cpy26, c_X5_refusalOfTold, sp_refusal]
    exact hq M q_tq_rf
end
