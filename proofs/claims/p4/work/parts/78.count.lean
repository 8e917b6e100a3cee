/-! THE CLASS'S ENTRIES: count -/
def q_ctA (M : q_M) (ta : Nat) (wt : Int) : Int := if wt = 0 then M 12 5 else if wt = 1 then M 11 9 else if wt = 2 then F_cnt (M (12 + 2)) 5 (M 12 5).toNat else if wt = 3 then M 0 2 else if wt = 4 then M ta 0 else if wt = 5 then M 1 1 else -2
set_option maxHeartbeats 4000000 in
theorem sp_count {V : Nat → (Nat → Int) → Int} {d : Nat} {g : q_G} {M : q_M} {ta : Nat} {wt : Int} {Q : Option q_V → q_G → q_M → Prop} (hw : q_wl V M 11 ta) (hq : Q (some (qI (q_ctA M ta wt))) g M) : q_S 1 (d + 2) 62 [qR 5 0, qI wt] g M Q := by
  have hla := q_dynT (k := 3) hw.2.2.2.1
  have g0 : 0 ≤ M 12 5 := hw.1.1.1
  have g5 : M 12 5 ≤ 5 := hw.1.1.2
  rw [s_X5_count]
  unfold q_ctA at hq
  by_cases k0 : wt = 0
  · subst k0
    rw [if_pos rfl] at hq
    simp (disch := omega) only [b_X5_count_0, x_loadI_1, tw_1_0, tw_1_1, tw_1_2, tw_1_3, tw_1_4, tw_1_5, tw_1_o, b_X5_count_40, x_loadR_0, x_loadS_0, f_5_3, f_4_0, f_0_5, x_ret0, b_X5_count_51, f_4_9, b_X5_count_59, b_X5_count_70, f_5_2, b_X5_count_75, f_4_10, f_3_0, b_X5_count_86, f_5_0, f_1_1, b_X5_count_94, x_iconst, q_isL_I, q_isL_R, q_isL_S, true_and, and_true, and_self, List.length_nil, List.length_cons, Nat.zero_add, x_K, x_Kn, Int.reduceToNat, Nat.reduceAdd, Nat.reduceMul, Nat.reduceLeDiff, Nat.reduceLT, Nat.zero_le, Int.reduceAdd, Int.reduceSub, Int.reduceMul, Int.reduceNeg, q_add_e, q_sub_e, q_mul_e, q_neg_e, q_upd_s, q_upd_n, zr_shr0, zr_shr1, zr_shr2, zr_shr3, zr_shr4, zr_and, zr_dyn8, zr_or, zr_shl, q_cpy_n, y_cpy26]
    exact hq
  rw [if_neg k0] at hq
  by_cases k1 : wt = 1
  · subst k1
    rw [if_pos rfl] at hq
    simp (disch := omega) only [b_X5_count_0, x_loadI_1, tw_1_0, tw_1_1, tw_1_2, tw_1_3, tw_1_4, tw_1_5, tw_1_o, b_X5_count_40, x_loadR_0, x_loadS_0, f_5_3, f_4_0, f_0_5, x_ret0, b_X5_count_51, f_4_9, b_X5_count_59, b_X5_count_70, f_5_2, b_X5_count_75, f_4_10, f_3_0, b_X5_count_86, f_5_0, f_1_1, b_X5_count_94, x_iconst, q_isL_I, q_isL_R, q_isL_S, true_and, and_true, and_self, List.length_nil, List.length_cons, Nat.zero_add, x_K, x_Kn, Int.reduceToNat, Nat.reduceAdd, Nat.reduceMul, Nat.reduceLeDiff, Nat.reduceLT, Nat.zero_le, Int.reduceAdd, Int.reduceSub, Int.reduceMul, Int.reduceNeg, q_add_e, q_sub_e, q_mul_e, q_neg_e, q_upd_s, q_upd_n, zr_shr0, zr_shr1, zr_shr2, zr_shr3, zr_shr4, zr_and, zr_dyn8, zr_or, zr_shl, q_cpy_n, y_cpy26]
    exact hq
  rw [if_neg k1] at hq
  by_cases k2 : wt = 2
  · subst k2
    rw [if_pos rfl] at hq
    simp (disch := omega) only [b_X5_count_0, x_loadI_1, tw_1_0, tw_1_1, tw_1_2, tw_1_3, tw_1_4, tw_1_5, tw_1_o, b_X5_count_40, x_loadR_0, x_loadS_0, f_5_3, f_4_0, f_0_5, x_ret0, b_X5_count_51, f_4_9, b_X5_count_59, b_X5_count_70, f_5_2, b_X5_count_75, f_4_10, f_3_0, b_X5_count_86, f_5_0, f_1_1, b_X5_count_94, x_iconst, q_isL_I, q_isL_R, q_isL_S, true_and, and_true, and_self, List.length_nil, List.length_cons, Nat.zero_add, x_K, x_Kn, Int.reduceToNat, Nat.reduceAdd, Nat.reduceMul, Nat.reduceLeDiff, Nat.reduceLT, Nat.zero_le, Int.reduceAdd, Int.reduceSub, Int.reduceMul, Int.reduceNeg, q_add_e, q_sub_e, q_mul_e, q_neg_e, q_upd_s, q_upd_n, zr_shr0, zr_shr1, zr_shr2, zr_shr3, zr_shr4, zr_and, zr_dyn8, zr_or, zr_shl, q_cpy_n, y_cpy26, c_X0_inNone, sp_inNone]
    exact hq
  rw [if_neg k2] at hq
  by_cases k3 : wt = 3
  · subst k3
    rw [if_pos rfl] at hq
    simp (disch := omega) only [b_X5_count_0, x_loadI_1, tw_1_0, tw_1_1, tw_1_2, tw_1_3, tw_1_4, tw_1_5, tw_1_o, b_X5_count_40, x_loadR_0, x_loadS_0, f_5_3, f_4_0, f_0_5, x_ret0, b_X5_count_51, f_4_9, b_X5_count_59, b_X5_count_70, f_5_2, b_X5_count_75, f_4_10, f_3_0, b_X5_count_86, f_5_0, f_1_1, b_X5_count_94, x_iconst, q_isL_I, q_isL_R, q_isL_S, true_and, and_true, and_self, List.length_nil, List.length_cons, Nat.zero_add, x_K, x_Kn, Int.reduceToNat, Nat.reduceAdd, Nat.reduceMul, Nat.reduceLeDiff, Nat.reduceLT, Nat.zero_le, Int.reduceAdd, Int.reduceSub, Int.reduceMul, Int.reduceNeg, q_add_e, q_sub_e, q_mul_e, q_neg_e, q_upd_s, q_upd_n, zr_shr0, zr_shr1, zr_shr2, zr_shr3, zr_shr4, zr_and, zr_dyn8, zr_or, zr_shl, q_cpy_n, y_cpy26]
    exact hq
  rw [if_neg k3] at hq
  by_cases k4 : wt = 4
  · subst k4
    rw [if_pos rfl] at hq
    simp (disch := omega) only [b_X5_count_0, x_loadI_1, tw_1_0, tw_1_1, tw_1_2, tw_1_3, tw_1_4, tw_1_5, tw_1_o, b_X5_count_40, x_loadR_0, x_loadS_0, f_5_3, f_4_0, f_0_5, x_ret0, b_X5_count_51, f_4_9, b_X5_count_59, b_X5_count_70, f_5_2, b_X5_count_75, f_4_10, f_3_0, b_X5_count_86, f_5_0, f_1_1, b_X5_count_94, x_iconst, q_isL_I, q_isL_R, q_isL_S, true_and, and_true, and_self, List.length_nil, List.length_cons, Nat.zero_add, x_K, x_Kn, Int.reduceToNat, Nat.reduceAdd, Nat.reduceMul, Nat.reduceLeDiff, Nat.reduceLT, Nat.zero_le, Int.reduceAdd, Int.reduceSub, Int.reduceMul, Int.reduceNeg, q_add_e, q_sub_e, q_mul_e, q_neg_e, q_upd_s, q_upd_n, zr_shr0, zr_shr1, zr_shr2, zr_shr3, zr_shr4, zr_and, zr_dyn8, zr_or, zr_shl, q_cpy_n, y_cpy26, hla]
    exact hq
  rw [if_neg k4] at hq
  by_cases k5 : wt = 5
  · subst k5
    rw [if_pos rfl] at hq
    simp (disch := omega) only [b_X5_count_0, x_loadI_1, tw_1_0, tw_1_1, tw_1_2, tw_1_3, tw_1_4, tw_1_5, tw_1_o, b_X5_count_40, x_loadR_0, x_loadS_0, f_5_3, f_4_0, f_0_5, x_ret0, b_X5_count_51, f_4_9, b_X5_count_59, b_X5_count_70, f_5_2, b_X5_count_75, f_4_10, f_3_0, b_X5_count_86, f_5_0, f_1_1, b_X5_count_94, x_iconst, q_isL_I, q_isL_R, q_isL_S, true_and, and_true, and_self, List.length_nil, List.length_cons, Nat.zero_add, x_K, x_Kn, Int.reduceToNat, Nat.reduceAdd, Nat.reduceMul, Nat.reduceLeDiff, Nat.reduceLT, Nat.zero_le, Int.reduceAdd, Int.reduceSub, Int.reduceMul, Int.reduceNeg, q_add_e, q_sub_e, q_mul_e, q_neg_e, q_upd_s, q_upd_n, zr_shr0, zr_shr1, zr_shr2, zr_shr3, zr_shr4, zr_and, zr_dyn8, zr_or, zr_shl, q_cpy_n, y_cpy26]
    exact hq
  rw [if_neg k5] at hq
  simp (disch := omega) only [b_X5_count_0, x_loadI_1, tw_1_0, tw_1_1, tw_1_2, tw_1_3, tw_1_4, tw_1_5, tw_1_o, b_X5_count_40, x_loadR_0, x_loadS_0, f_5_3, f_4_0, f_0_5, x_ret0, b_X5_count_51, f_4_9, b_X5_count_59, b_X5_count_70, f_5_2, b_X5_count_75, f_4_10, f_3_0, b_X5_count_86, f_5_0, f_1_1, b_X5_count_94, x_iconst, q_isL_I, q_isL_R, q_isL_S, true_and, and_true, and_self, List.length_nil, List.length_cons, Nat.zero_add, x_K, x_Kn, Int.reduceToNat, Nat.reduceAdd, Nat.reduceMul, Nat.reduceLeDiff, Nat.reduceLT, Nat.zero_le, Int.reduceAdd, Int.reduceSub, Int.reduceMul, Int.reduceNeg, q_add_e, q_sub_e, q_mul_e, q_neg_e, q_upd_s, q_upd_n, zr_shr0, zr_shr1, zr_shr2, zr_shr3, zr_shr4, zr_and, zr_dyn8, zr_or, zr_shl, q_cpy_n, y_cpy26]
  exact hq
