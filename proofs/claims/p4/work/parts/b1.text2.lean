/-! THE CLASS'S ENTRIES: text -/
theorem sp_clear {d : Nat} {g : q_G} {M : q_M} {Q : Option q_V → q_G → q_M → Prop} (hq : Q none g (q_upd M 1 1 0)) : q_S 1 d 21 [qR 1 1] g M Q := by
  rw [s_X1_clear]
  simp (disch := omega) only [b_X1_clear_0, x_loadR_0, x_loadS_0, x_iconst, p_1_1, x_vret, q_isL_I, q_isL_R, q_isL_S, true_and, and_true, and_self, List.length_nil, List.length_cons, Nat.zero_add, x_K, x_Kn, Int.reduceToNat, Nat.reduceAdd, Nat.reduceMul, Nat.reduceLeDiff, Nat.reduceLT, Nat.zero_le, Int.reduceAdd, Int.reduceSub, Int.reduceMul, Int.reduceNeg, q_add_e, q_sub_e, q_mul_e, q_neg_e, q_upd_s, q_upd_n, zr_shr0, zr_shr1, zr_shr2, zr_shr3, zr_shr4, zr_and, zr_dyn8, zr_or, zr_shl, q_cpy_n, y_cpy26]
  exact hq
theorem sp_textF {d : Nat} {g : q_G} {M : q_M} {Q : Option q_V → q_G → q_M → Prop} (h : 6 ≤ M 0 2) (hq : Q (some (qI (-4))) g M) : q_S 1 d 67 [qR 5 0] g M Q := by
  rw [s_X5_text]
  simp (disch := omega) only [b_X5_text_0, x_loadR_0, x_loadS_0, f_5_2, x_iconst, y_ic_lt_t, y_ic_lt_f, b_X5_text_9, x_ret0, b_X5_text_12, f_5_0, x_storeI_1, x_loadI_1, x_isub, x_storeI_2, y_if_ge_t, y_if_ge_f, b_X5_text_29, f_5_1, x_dupI, x_dupR, x_iadd, p_5_2, b_X5_text_64, x_loadI_2, q_isL_I, q_isL_R, q_isL_S, true_and, and_true, and_self, List.length_nil, List.length_cons, Nat.zero_add, x_K, x_Kn, Int.reduceToNat, Nat.reduceAdd, Nat.reduceMul, Nat.reduceLeDiff, Nat.reduceLT, Nat.zero_le, Int.reduceAdd, Int.reduceSub, Int.reduceMul, Int.reduceNeg, q_add_e, q_sub_e, q_mul_e, q_neg_e, q_upd_s, q_upd_n, zr_shr0, zr_shr1, zr_shr2, zr_shr3, zr_shr4, zr_and, zr_dyn8, zr_or, zr_shl, q_cpy_n, y_cpy26]
  exact hq
set_option maxHeartbeats 4000000 in
theorem sp_text {d n tm sl : Nat} {M : q_M} {Q : Option q_V → q_G → q_M → Prop} (hn : M 1 1 = n) (hn2 : n ≤ 160) (htm : M 0 2 = tm) (h1 : 1 ≤ tm) (h6 : tm < 6)
    (hq1 : 0 ≤ (R_z5 (M 2) n (R_z1 M n)).2.2.2.2.2.1 → Q (some (qI (-100 - (R_z5 (M 2) n (R_z1 M n)).2.2.2.2.2.1))) (124 + 4 * (tm - 1), sl) (q_upd (q_zM M (R_z5 (M 2) n (R_z1 M n)) (R_st (M 2) n (R_z1 M n) (M 4))) 1 1 0))
    (hq2 : (R_z5 (M 2) n (R_z1 M n)).2.2.2.2.2.1 < 0 → ∀ M2 : q_M, q_mdM (q_zM M (R_z5 (M 2) n (R_z1 M n)) (R_st (M 2) n (R_z1 M n) (M 4))) M2 (tm - 1) tm (R_z5 (M 2) n (R_z1 M n)).1 (R_z5 (M 2) n (R_z1 M n)).2.2.2.2.2.2 (R_st (M 2) n (R_z1 M n) (M 4)) → Q (some (qI tm)) (124 + 4 * tm, sl + (R_z5 (M 2) n (R_z1 M n)).1.toNat + 47) (q_upd (q_upd (q_upd M2 5 tm (q_ta tm : Nat)) 0 2 (tm + 1)) 1 1 0)) : q_S 1 (d + 47) 67 [qR 5 0] (124 + 4 * (tm - 1), sl) M Q := by
  have rd : ∀ (nx : Nat) (ops : List Instr) (ls st : List q_V), q_T 1 (d + 47) qP_X5_text nx ops ls (qI (R_z5 (M 2) n (R_z1 M n)).2.2.2.2.2.1 :: st) (124 + 4 * (tm - 1), sl) (q_zM M (R_z5 (M 2) n (R_z1 M n)) (R_st (M 2) n (R_z1 M n) (M 4))) Q → q_S 1 (d + 46) 23 [qR 1 1] (124 + 4 * (tm - 1), sl) M (q_K 1 (d + 47) qP_X5_text nx ops ls st Q) := fun nx ops ls st h => sp_read hn hn2 h
  have hI := R_z5_I (T := M 2) (n := n) (z := R_z1 M n) R_nx_I0
  generalize R_z5 (M 2) n (R_z1 M n) = z at rd hI hq1 hq2
  generalize R_st (M 2) n (R_z1 M n) (M 4) = s at rd hq1 hq2
  have hft := hI.2.2.2.1
  have r02 : q_zM M z s 0 2 = tm := htm
  rw [s_X5_text]
  simp (disch := omega) only [b_X5_text_0, x_loadR_0, x_loadS_0, f_5_2, x_iconst, y_ic_lt_t, y_ic_lt_f, b_X5_text_9, x_ret0, b_X5_text_12, f_5_0, x_storeI_1, x_loadI_1, x_isub, x_storeI_2, y_if_ge_t, y_if_ge_f, b_X5_text_29, f_5_1, x_dupI, x_dupR, x_iadd, p_5_2, b_X5_text_64, x_loadI_2, q_isL_I, q_isL_R, q_isL_S, true_and, and_true, and_self, List.length_nil, List.length_cons, Nat.zero_add, x_K, x_Kn, Int.reduceToNat, Nat.reduceAdd, Nat.reduceMul, Nat.reduceLeDiff, Nat.reduceLT, Nat.zero_le, Int.reduceAdd, Int.reduceSub, Int.reduceMul, Int.reduceNeg, q_add_e, q_sub_e, q_mul_e, q_neg_e, q_upd_s, q_upd_n, zr_shr0, zr_shr1, zr_shr2, zr_shr3, zr_shr4, zr_and, zr_dyn8, zr_or, zr_shl, q_cpy_n, y_cpy26, c_X1_read]
  refine rd _ _ _ _ ?_
  have cl : ∀ (M2 : q_M) (g : q_G) (nx : Nat) (ops : List Instr) (ls st : List q_V), q_T 1 (d + 47) qP_X5_text nx ops ls st g (q_upd M2 1 1 0) Q → q_S 1 (d + 46) 21 [qR 1 1] g M2 (q_K 1 (d + 47) qP_X5_text nx ops ls st Q) := fun M2 g nx ops ls st h => sp_clear h
  by_cases c : z.2.2.2.2.2.1 < 0
  · have hm := hq2 c
    have e2 : q_ta tm = 125 + 4 * (tm - 1) := by
      unfold q_ta
      rw [if_neg (by omega)]
      omega
    rw [e2] at hm
    have md : ∀ (nx : Nat) (ops : List Instr) (ls st : List q_V), (∀ M2 : q_M, q_mdM (q_zM M z s) M2 (tm - 1) tm z.1 z.2.2.2.2.2.2 s → q_T 1 (d + 47) qP_X5_text nx ops ls (qR 3 (125 + 4 * (tm - 1)) :: st) (124 + 4 * (tm - 1 + 1), sl + z.1.toNat + 47) M2 Q) → q_S 1 (d + 46) 24 [qR 1 1, qI tm] (124 + 4 * (tm - 1), sl) (q_zM M z s) (q_K 1 (d + 47) qP_X5_text nx ops ls st Q) := fun nx ops ls st h => sp_made (by omega) hI.1.1 hI.1.2 h
    simp (disch := omega) only [b_X5_text_0, x_loadR_0, x_loadS_0, f_5_2, x_iconst, y_ic_lt_t, y_ic_lt_f, b_X5_text_9, x_ret0, b_X5_text_12, f_5_0, x_storeI_1, x_loadI_1, x_isub, x_storeI_2, y_if_ge_t, y_if_ge_f, b_X5_text_29, f_5_1, x_dupI, x_dupR, x_iadd, p_5_2, b_X5_text_64, x_loadI_2, q_isL_I, q_isL_R, q_isL_S, true_and, and_true, and_self, List.length_nil, List.length_cons, Nat.zero_add, x_K, x_Kn, Int.reduceToNat, Nat.reduceAdd, Nat.reduceMul, Nat.reduceLeDiff, Nat.reduceLT, Nat.zero_le, Int.reduceAdd, Int.reduceSub, Int.reduceMul, Int.reduceNeg, q_add_e, q_sub_e, q_mul_e, q_neg_e, q_upd_s, q_upd_n, zr_shr0, zr_shr1, zr_shr2, zr_shr3, zr_shr4, zr_and, zr_dyn8, zr_or, zr_shl, q_cpy_n, y_cpy26, r02, c_X1_made]
    refine md _ _ _ _ (fun M2 h2 => ?_)
    have s02 : M2 0 2 = tm := (h2.1 0 2 (by omega)).trans r02
    simp (disch := omega) only [b_X5_text_0, x_loadR_0, x_loadS_0, f_5_2, x_iconst, y_ic_lt_t, y_ic_lt_f, b_X5_text_9, x_ret0, b_X5_text_12, f_5_0, x_storeI_1, x_loadI_1, x_isub, x_storeI_2, y_if_ge_t, y_if_ge_f, b_X5_text_29, f_5_1, x_dupI, x_dupR, x_iadd, p_5_2, b_X5_text_64, x_loadI_2, q_isL_I, q_isL_R, q_isL_S, true_and, and_true, and_self, List.length_nil, List.length_cons, Nat.zero_add, x_K, x_Kn, Int.reduceToNat, Nat.reduceAdd, Nat.reduceMul, Nat.reduceLeDiff, Nat.reduceLT, Nat.zero_le, Int.reduceAdd, Int.reduceSub, Int.reduceMul, Int.reduceNeg, q_add_e, q_sub_e, q_mul_e, q_neg_e, q_upd_s, q_upd_n, zr_shr0, zr_shr1, zr_shr2, zr_shr3, zr_shr4, zr_and, zr_dyn8, zr_or, zr_shl, q_cpy_n, y_cpy26, x_aast8, s02, Int.toNat_natCast, c_X1_clear]
    refine cl _ _ _ _ _ _ ?_
    simp (disch := omega) only [b_X5_text_0, x_loadR_0, x_loadS_0, f_5_2, x_iconst, y_ic_lt_t, y_ic_lt_f, b_X5_text_9, x_ret0, b_X5_text_12, f_5_0, x_storeI_1, x_loadI_1, x_isub, x_storeI_2, y_if_ge_t, y_if_ge_f, b_X5_text_29, f_5_1, x_dupI, x_dupR, x_iadd, p_5_2, b_X5_text_64, x_loadI_2, q_isL_I, q_isL_R, q_isL_S, true_and, and_true, and_self, List.length_nil, List.length_cons, Nat.zero_add, x_K, x_Kn, Int.reduceToNat, Nat.reduceAdd, Nat.reduceMul, Nat.reduceLeDiff, Nat.reduceLT, Nat.zero_le, Int.reduceAdd, Int.reduceSub, Int.reduceMul, Int.reduceNeg, q_add_e, q_sub_e, q_mul_e, q_neg_e, q_upd_s, q_upd_n, zr_shr0, zr_shr1, zr_shr2, zr_shr3, zr_shr4, zr_and, zr_dyn8, zr_or, zr_shl, q_cpy_n, y_cpy26]
    rw [show tm - 1 + 1 = tm by omega]
    exact hm M2 h2
  · have hm := hq1 (by omega)
    simp (disch := omega) only [b_X5_text_0, x_loadR_0, x_loadS_0, f_5_2, x_iconst, y_ic_lt_t, y_ic_lt_f, b_X5_text_9, x_ret0, b_X5_text_12, f_5_0, x_storeI_1, x_loadI_1, x_isub, x_storeI_2, y_if_ge_t, y_if_ge_f, b_X5_text_29, f_5_1, x_dupI, x_dupR, x_iadd, p_5_2, b_X5_text_64, x_loadI_2, q_isL_I, q_isL_R, q_isL_S, true_and, and_true, and_self, List.length_nil, List.length_cons, Nat.zero_add, x_K, x_Kn, Int.reduceToNat, Nat.reduceAdd, Nat.reduceMul, Nat.reduceLeDiff, Nat.reduceLT, Nat.zero_le, Int.reduceAdd, Int.reduceSub, Int.reduceMul, Int.reduceNeg, q_add_e, q_sub_e, q_mul_e, q_neg_e, q_upd_s, q_upd_n, zr_shr0, zr_shr1, zr_shr2, zr_shr3, zr_shr4, zr_and, zr_dyn8, zr_or, zr_shl, q_cpy_n, y_cpy26, c_X1_clear]
    refine cl _ _ _ _ _ _ ?_
    simp (disch := omega) only [b_X5_text_0, x_loadR_0, x_loadS_0, f_5_2, x_iconst, y_ic_lt_t, y_ic_lt_f, b_X5_text_9, x_ret0, b_X5_text_12, f_5_0, x_storeI_1, x_loadI_1, x_isub, x_storeI_2, y_if_ge_t, y_if_ge_f, b_X5_text_29, f_5_1, x_dupI, x_dupR, x_iadd, p_5_2, b_X5_text_64, x_loadI_2, q_isL_I, q_isL_R, q_isL_S, true_and, and_true, and_self, List.length_nil, List.length_cons, Nat.zero_add, x_K, x_Kn, Int.reduceToNat, Nat.reduceAdd, Nat.reduceMul, Nat.reduceLeDiff, Nat.reduceLT, Nat.zero_le, Int.reduceAdd, Int.reduceSub, Int.reduceMul, Int.reduceNeg, q_add_e, q_sub_e, q_mul_e, q_neg_e, q_upd_s, q_upd_n, zr_shr0, zr_shr1, zr_shr2, zr_shr3, zr_shr4, zr_and, zr_dyn8, zr_or, zr_shl, q_cpy_n, y_cpy26]
    exact hm
