/-! THE MODEL'S READER: what is held -/
def F_rank (c : Int) : Int := if c = 0 then 0 else if c = 11 then 1 else if c = 12 then 2 else if c = 13 then 3 else if c ≤ 15 then 4 else if c ≤ 17 then 5 else if c = 18 then 6 else 7
set_option maxHeartbeats 4000000 in
theorem mp_rank {d : Nat} {g : q_G} {M : q_M} {c : Int} {Q : Option q_V → q_G → q_M → Prop} (hq : Q (some (qI (F_rank c))) g M) : q_S 1 d 125 [qI c] g M Q := by
  rw [s_X6_rank]
  unfold F_rank at hq
  by_cases c0 : c = 0
  · rw [if_pos c0] at hq
    simp (disch := omega) only [b_X6_rank_0, x_loadI_0, y_if_ne_t, y_if_ne_f, b_X6_rank_4, x_iconst, x_goto, b_X6_rank_8, y_ic_ne_t, y_ic_ne_f, b_X6_rank_14, b_X6_rank_18, b_X6_rank_24, b_X6_rank_28, b_X6_rank_34, b_X6_rank_38, y_ic_gt_t, y_ic_gt_f, b_X6_rank_44, b_X6_rank_48, b_X6_rank_54, b_X6_rank_58, b_X6_rank_64, b_X6_rank_69, b_X6_rank_71, x_ret0, q_isL_I, q_isL_R, q_isL_S, true_and, and_true, and_self, List.length_nil, List.length_cons, Nat.zero_add, x_K, x_Kn, Int.reduceToNat, Nat.reduceAdd, Nat.reduceMul, Nat.reduceLeDiff, Nat.reduceLT, Nat.zero_le, Int.reduceAdd, Int.reduceSub, Int.reduceMul, Int.reduceNeg, q_add_e, q_sub_e, q_mul_e, q_neg_e, q_upd_s, q_upd_n, zr_shr0, zr_shr1, zr_shr2, zr_shr3, zr_shr4, zr_and, zr_dyn8, zr_or, zr_shl, q_cpy_n, y_cpy26]
    exact hq
  rw [if_neg c0] at hq
  by_cases c1 : c = 11
  · rw [if_pos c1] at hq
    simp (disch := omega) only [b_X6_rank_0, x_loadI_0, y_if_ne_t, y_if_ne_f, b_X6_rank_4, x_iconst, x_goto, b_X6_rank_8, y_ic_ne_t, y_ic_ne_f, b_X6_rank_14, b_X6_rank_18, b_X6_rank_24, b_X6_rank_28, b_X6_rank_34, b_X6_rank_38, y_ic_gt_t, y_ic_gt_f, b_X6_rank_44, b_X6_rank_48, b_X6_rank_54, b_X6_rank_58, b_X6_rank_64, b_X6_rank_69, b_X6_rank_71, x_ret0, q_isL_I, q_isL_R, q_isL_S, true_and, and_true, and_self, List.length_nil, List.length_cons, Nat.zero_add, x_K, x_Kn, Int.reduceToNat, Nat.reduceAdd, Nat.reduceMul, Nat.reduceLeDiff, Nat.reduceLT, Nat.zero_le, Int.reduceAdd, Int.reduceSub, Int.reduceMul, Int.reduceNeg, q_add_e, q_sub_e, q_mul_e, q_neg_e, q_upd_s, q_upd_n, zr_shr0, zr_shr1, zr_shr2, zr_shr3, zr_shr4, zr_and, zr_dyn8, zr_or, zr_shl, q_cpy_n, y_cpy26]
    exact hq
  rw [if_neg c1] at hq
  by_cases c2 : c = 12
  · rw [if_pos c2] at hq
    simp (disch := omega) only [b_X6_rank_0, x_loadI_0, y_if_ne_t, y_if_ne_f, b_X6_rank_4, x_iconst, x_goto, b_X6_rank_8, y_ic_ne_t, y_ic_ne_f, b_X6_rank_14, b_X6_rank_18, b_X6_rank_24, b_X6_rank_28, b_X6_rank_34, b_X6_rank_38, y_ic_gt_t, y_ic_gt_f, b_X6_rank_44, b_X6_rank_48, b_X6_rank_54, b_X6_rank_58, b_X6_rank_64, b_X6_rank_69, b_X6_rank_71, x_ret0, q_isL_I, q_isL_R, q_isL_S, true_and, and_true, and_self, List.length_nil, List.length_cons, Nat.zero_add, x_K, x_Kn, Int.reduceToNat, Nat.reduceAdd, Nat.reduceMul, Nat.reduceLeDiff, Nat.reduceLT, Nat.zero_le, Int.reduceAdd, Int.reduceSub, Int.reduceMul, Int.reduceNeg, q_add_e, q_sub_e, q_mul_e, q_neg_e, q_upd_s, q_upd_n, zr_shr0, zr_shr1, zr_shr2, zr_shr3, zr_shr4, zr_and, zr_dyn8, zr_or, zr_shl, q_cpy_n, y_cpy26]
    exact hq
  rw [if_neg c2] at hq
  by_cases c3 : c = 13
  · rw [if_pos c3] at hq
    simp (disch := omega) only [b_X6_rank_0, x_loadI_0, y_if_ne_t, y_if_ne_f, b_X6_rank_4, x_iconst, x_goto, b_X6_rank_8, y_ic_ne_t, y_ic_ne_f, b_X6_rank_14, b_X6_rank_18, b_X6_rank_24, b_X6_rank_28, b_X6_rank_34, b_X6_rank_38, y_ic_gt_t, y_ic_gt_f, b_X6_rank_44, b_X6_rank_48, b_X6_rank_54, b_X6_rank_58, b_X6_rank_64, b_X6_rank_69, b_X6_rank_71, x_ret0, q_isL_I, q_isL_R, q_isL_S, true_and, and_true, and_self, List.length_nil, List.length_cons, Nat.zero_add, x_K, x_Kn, Int.reduceToNat, Nat.reduceAdd, Nat.reduceMul, Nat.reduceLeDiff, Nat.reduceLT, Nat.zero_le, Int.reduceAdd, Int.reduceSub, Int.reduceMul, Int.reduceNeg, q_add_e, q_sub_e, q_mul_e, q_neg_e, q_upd_s, q_upd_n, zr_shr0, zr_shr1, zr_shr2, zr_shr3, zr_shr4, zr_and, zr_dyn8, zr_or, zr_shl, q_cpy_n, y_cpy26]
    exact hq
  rw [if_neg c3] at hq
  by_cases c4 : c ≤ 15
  · rw [if_pos c4] at hq
    simp (disch := omega) only [b_X6_rank_0, x_loadI_0, y_if_ne_t, y_if_ne_f, b_X6_rank_4, x_iconst, x_goto, b_X6_rank_8, y_ic_ne_t, y_ic_ne_f, b_X6_rank_14, b_X6_rank_18, b_X6_rank_24, b_X6_rank_28, b_X6_rank_34, b_X6_rank_38, y_ic_gt_t, y_ic_gt_f, b_X6_rank_44, b_X6_rank_48, b_X6_rank_54, b_X6_rank_58, b_X6_rank_64, b_X6_rank_69, b_X6_rank_71, x_ret0, q_isL_I, q_isL_R, q_isL_S, true_and, and_true, and_self, List.length_nil, List.length_cons, Nat.zero_add, x_K, x_Kn, Int.reduceToNat, Nat.reduceAdd, Nat.reduceMul, Nat.reduceLeDiff, Nat.reduceLT, Nat.zero_le, Int.reduceAdd, Int.reduceSub, Int.reduceMul, Int.reduceNeg, q_add_e, q_sub_e, q_mul_e, q_neg_e, q_upd_s, q_upd_n, zr_shr0, zr_shr1, zr_shr2, zr_shr3, zr_shr4, zr_and, zr_dyn8, zr_or, zr_shl, q_cpy_n, y_cpy26]
    exact hq
  rw [if_neg c4] at hq
  by_cases c5 : c ≤ 17
  · rw [if_pos c5] at hq
    simp (disch := omega) only [b_X6_rank_0, x_loadI_0, y_if_ne_t, y_if_ne_f, b_X6_rank_4, x_iconst, x_goto, b_X6_rank_8, y_ic_ne_t, y_ic_ne_f, b_X6_rank_14, b_X6_rank_18, b_X6_rank_24, b_X6_rank_28, b_X6_rank_34, b_X6_rank_38, y_ic_gt_t, y_ic_gt_f, b_X6_rank_44, b_X6_rank_48, b_X6_rank_54, b_X6_rank_58, b_X6_rank_64, b_X6_rank_69, b_X6_rank_71, x_ret0, q_isL_I, q_isL_R, q_isL_S, true_and, and_true, and_self, List.length_nil, List.length_cons, Nat.zero_add, x_K, x_Kn, Int.reduceToNat, Nat.reduceAdd, Nat.reduceMul, Nat.reduceLeDiff, Nat.reduceLT, Nat.zero_le, Int.reduceAdd, Int.reduceSub, Int.reduceMul, Int.reduceNeg, q_add_e, q_sub_e, q_mul_e, q_neg_e, q_upd_s, q_upd_n, zr_shr0, zr_shr1, zr_shr2, zr_shr3, zr_shr4, zr_and, zr_dyn8, zr_or, zr_shl, q_cpy_n, y_cpy26]
    exact hq
  rw [if_neg c5] at hq
  by_cases c6 : c = 18
  · rw [if_pos c6] at hq
    simp (disch := omega) only [b_X6_rank_0, x_loadI_0, y_if_ne_t, y_if_ne_f, b_X6_rank_4, x_iconst, x_goto, b_X6_rank_8, y_ic_ne_t, y_ic_ne_f, b_X6_rank_14, b_X6_rank_18, b_X6_rank_24, b_X6_rank_28, b_X6_rank_34, b_X6_rank_38, y_ic_gt_t, y_ic_gt_f, b_X6_rank_44, b_X6_rank_48, b_X6_rank_54, b_X6_rank_58, b_X6_rank_64, b_X6_rank_69, b_X6_rank_71, x_ret0, q_isL_I, q_isL_R, q_isL_S, true_and, and_true, and_self, List.length_nil, List.length_cons, Nat.zero_add, x_K, x_Kn, Int.reduceToNat, Nat.reduceAdd, Nat.reduceMul, Nat.reduceLeDiff, Nat.reduceLT, Nat.zero_le, Int.reduceAdd, Int.reduceSub, Int.reduceMul, Int.reduceNeg, q_add_e, q_sub_e, q_mul_e, q_neg_e, q_upd_s, q_upd_n, zr_shr0, zr_shr1, zr_shr2, zr_shr3, zr_shr4, zr_and, zr_dyn8, zr_or, zr_shl, q_cpy_n, y_cpy26]
    exact hq
  · rw [if_neg c6] at hq
    simp (disch := omega) only [b_X6_rank_0, x_loadI_0, y_if_ne_t, y_if_ne_f, b_X6_rank_4, x_iconst, x_goto, b_X6_rank_8, y_ic_ne_t, y_ic_ne_f, b_X6_rank_14, b_X6_rank_18, b_X6_rank_24, b_X6_rank_28, b_X6_rank_34, b_X6_rank_38, y_ic_gt_t, y_ic_gt_f, b_X6_rank_44, b_X6_rank_48, b_X6_rank_54, b_X6_rank_58, b_X6_rank_64, b_X6_rank_69, b_X6_rank_71, x_ret0, q_isL_I, q_isL_R, q_isL_S, true_and, and_true, and_self, List.length_nil, List.length_cons, Nat.zero_add, x_K, x_Kn, Int.reduceToNat, Nat.reduceAdd, Nat.reduceMul, Nat.reduceLeDiff, Nat.reduceLT, Nat.zero_le, Int.reduceAdd, Int.reduceSub, Int.reduceMul, Int.reduceNeg, q_add_e, q_sub_e, q_mul_e, q_neg_e, q_upd_s, q_upd_n, zr_shr0, zr_shr1, zr_shr2, zr_shr3, zr_shr4, zr_and, zr_dyn8, zr_or, zr_shl, q_cpy_n, y_cpy26]
    exact hq
theorem F_rank_0 {c : Int} (h : F_rank c < 1) : c = 0 := by
  unfold F_rank at h
  omega
theorem F_rank_b {c : Int} (h : q_bi c) : 1 ≤ F_rank c := by
  unfold q_bi at h
  unfold F_rank
  omega
theorem mp_puts {d tm o : Nat} {g : q_G} {M : q_M} {c : Int} {Q : Option q_V → q_G → q_M → Prop} (ht : M 100 10 = tm) (ht6 : tm < 6) (ho : M 100 27 = o) (ho2 : o < 200) (hq : Q none g (q_upd (q_upd M 106 (200 * tm + o) c) 100 27 ((o : Int) + 1))) : q_S 1 d 126 [qR 6 100, qI c] g M Q := by
  have t1 : (200 * (tm : Int) + (o : Int)).toNat = 200 * tm + o := by omega
  rw [s_X6_puts]
  simp (disch := omega) only [b_X6_puts_0, x_loadR_0, x_loadS_0, f_6_8, x_iconst, f_6_10, x_imul, f_6_27, x_iadd, x_loadI_1, y_iast_1220, x_dupI, x_dupR, p_6_27, x_vret, q_isL_I, q_isL_R, q_isL_S, true_and, and_true, and_self, List.length_nil, List.length_cons, Nat.zero_add, x_K, x_Kn, Int.reduceToNat, Nat.reduceAdd, Nat.reduceMul, Nat.reduceLeDiff, Nat.reduceLT, Nat.zero_le, Int.reduceAdd, Int.reduceSub, Int.reduceMul, Int.reduceNeg, q_add_e, q_sub_e, q_mul_e, q_neg_e, q_upd_s, q_upd_n, zr_shr0, zr_shr1, zr_shr2, zr_shr3, zr_shr4, zr_and, zr_dyn8, zr_or, zr_shl, q_cpy_n, y_cpy26, ht, ho, t1]
  exact hq
theorem mp_holds {d h : Nat} {g : q_G} {M : q_M} {c : Int} {Q : Option q_V → q_G → q_M → Prop} (hh : M 100 25 = h) (hh2 : h < 200) (hq : Q none g (q_upd (q_upd M 115 h c) 100 25 ((h : Int) + 1))) : q_S 1 d 128 [qR 6 100, qI c] g M Q := by
  rw [s_X6_holds]
  simp (disch := omega) only [b_X6_holds_0, x_loadR_0, x_loadS_0, f_6_24, f_6_25, x_loadI_1, y_iast_220, x_dupI, x_dupR, x_iconst, x_iadd, p_6_25, x_vret, q_isL_I, q_isL_R, q_isL_S, true_and, and_true, and_self, List.length_nil, List.length_cons, Nat.zero_add, x_K, x_Kn, Int.reduceToNat, Nat.reduceAdd, Nat.reduceMul, Nat.reduceLeDiff, Nat.reduceLT, Nat.zero_le, Int.reduceAdd, Int.reduceSub, Int.reduceMul, Int.reduceNeg, q_add_e, q_sub_e, q_mul_e, q_neg_e, q_upd_s, q_upd_n, zr_shr0, zr_shr1, zr_shr2, zr_shr3, zr_shr4, zr_and, zr_dyn8, zr_or, zr_shl, q_cpy_n, y_cpy26, hh, Int.toNat_natCast]
  exact hq
theorem mp_opensOne {d h : Nat} {g : q_G} {M : q_M} {c : Int} {Q : Option q_V → q_G → q_M → Prop} (hh : M 100 25 = h) (hh2 : h < 200) (hq0 : Q (some (qI 0)) g M) (hq1 : ∀ v, Q (some (qI 1)) g (q_upd (q_upd (q_upd M 100 26 v) 115 h c) 100 25 ((h : Int) + 1))) : q_S 1 (d + 1) 129 [qR 6 100, qI c] g M Q := by
  rw [s_X6_opensOne]
  by_cases k : M 100 26 = 5
  · simp (disch := omega) only [b_X6_opensOne_0, x_loadR_0, x_loadS_0, f_6_26, x_iconst, y_ic_ne_t, y_ic_ne_f, b_X6_opensOne_8, x_ret1_0, x_ret1_1, b_X6_opensOne_10, x_dupI, x_dupR, x_iadd, p_6_26, x_loadI_1, q_isL_I, q_isL_R, q_isL_S, true_and, and_true, and_self, List.length_nil, List.length_cons, Nat.zero_add, x_K, x_Kn, Int.reduceToNat, Nat.reduceAdd, Nat.reduceMul, Nat.reduceLeDiff, Nat.reduceLT, Nat.zero_le, Int.reduceAdd, Int.reduceSub, Int.reduceMul, Int.reduceNeg, q_add_e, q_sub_e, q_mul_e, q_neg_e, q_upd_s, q_upd_n, zr_shr0, zr_shr1, zr_shr2, zr_shr3, zr_shr4, zr_and, zr_dyn8, zr_or, zr_shl, q_cpy_n, y_cpy26]
    exact hq0
  · simp (disch := omega) only [b_X6_opensOne_0, x_loadR_0, x_loadS_0, f_6_26, x_iconst, y_ic_ne_t, y_ic_ne_f, b_X6_opensOne_8, x_ret1_0, x_ret1_1, b_X6_opensOne_10, x_dupI, x_dupR, x_iadd, p_6_26, x_loadI_1, q_isL_I, q_isL_R, q_isL_S, true_and, and_true, and_self, List.length_nil, List.length_cons, Nat.zero_add, x_K, x_Kn, Int.reduceToNat, Nat.reduceAdd, Nat.reduceMul, Nat.reduceLeDiff, Nat.reduceLT, Nat.zero_le, Int.reduceAdd, Int.reduceSub, Int.reduceMul, Int.reduceNeg, q_add_e, q_sub_e, q_mul_e, q_neg_e, q_upd_s, q_upd_n, zr_shr0, zr_shr1, zr_shr2, zr_shr3, zr_shr4, zr_and, zr_dyn8, zr_or, zr_shl, q_cpy_n, y_cpy26, c_X6_holds]
    refine mp_holds (h := h) (by rw [q_upd_n (by omega)]; exact hh) hh2 ?_
    simp (disch := omega) only [b_X6_opensOne_0, x_loadR_0, x_loadS_0, f_6_26, x_iconst, y_ic_ne_t, y_ic_ne_f, b_X6_opensOne_8, x_ret1_0, x_ret1_1, b_X6_opensOne_10, x_dupI, x_dupR, x_iadd, p_6_26, x_loadI_1, q_isL_I, q_isL_R, q_isL_S, true_and, and_true, and_self, List.length_nil, List.length_cons, Nat.zero_add, x_K, x_Kn, Int.reduceToNat, Nat.reduceAdd, Nat.reduceMul, Nat.reduceLeDiff, Nat.reduceLT, Nat.zero_le, Int.reduceAdd, Int.reduceSub, Int.reduceMul, Int.reduceNeg, q_add_e, q_sub_e, q_mul_e, q_neg_e, q_upd_s, q_upd_n, zr_shr0, zr_shr1, zr_shr2, zr_shr3, zr_shr4, zr_and, zr_dyn8, zr_or, zr_shl, q_cpy_n, y_cpy26]
    exact hq1 _
set_option maxHeartbeats 4000000 in
theorem mp_signOf {d : Nat} {g : q_G} {M : q_M} {Q : Option q_V → q_G → q_M → Prop} (hq : ∀ v : Int, v = -1 ∨ (q_bi v ∧ M 100 21 ≠ 0) → Q (some (qI v)) g M) : q_S 1 d 131 [qR 6 100] g M Q := by
  rw [s_X6_signOf]
  simp (disch := omega) only [b_X6_signOf_0, x_loadR_0, x_loadS_0, f_6_21, x_iconst, y_ic_ne_t, y_ic_ne_f, b_X6_signOf_8, x_goto, b_X6_signOf_13, b_X6_signOf_21, b_X6_signOf_26, b_X6_signOf_35, b_X6_signOf_40, b_X6_signOf_49, b_X6_signOf_54, b_X6_signOf_63, b_X6_signOf_68, b_X6_signOf_77, b_X6_signOf_82, b_X6_signOf_91, b_X6_signOf_96, b_X6_signOf_97, x_ret0, q_isL_I, q_isL_R, q_isL_S, true_and, and_true, and_self, List.length_nil, List.length_cons, Nat.zero_add, x_K, x_Kn, Int.reduceToNat, Nat.reduceAdd, Nat.reduceMul, Nat.reduceLeDiff, Nat.reduceLT, Nat.zero_le, Int.reduceAdd, Int.reduceSub, Int.reduceMul, Int.reduceNeg, q_add_e, q_sub_e, q_mul_e, q_neg_e, q_upd_s, q_upd_n, zr_shr0, zr_shr1, zr_shr2, zr_shr3, zr_shr4, zr_and, zr_dyn8, zr_or, zr_shl, q_cpy_n, y_cpy26]
  refine y_ic_ne (fun h1 => ?_) (fun h1 => ?_)
  rotate_left
  · simp (disch := omega) only [b_X6_signOf_0, x_loadR_0, x_loadS_0, f_6_21, x_iconst, y_ic_ne_t, y_ic_ne_f, b_X6_signOf_8, x_goto, b_X6_signOf_13, b_X6_signOf_21, b_X6_signOf_26, b_X6_signOf_35, b_X6_signOf_40, b_X6_signOf_49, b_X6_signOf_54, b_X6_signOf_63, b_X6_signOf_68, b_X6_signOf_77, b_X6_signOf_82, b_X6_signOf_91, b_X6_signOf_96, b_X6_signOf_97, x_ret0, q_isL_I, q_isL_R, q_isL_S, true_and, and_true, and_self, List.length_nil, List.length_cons, Nat.zero_add, x_K, x_Kn, Int.reduceToNat, Nat.reduceAdd, Nat.reduceMul, Nat.reduceLeDiff, Nat.reduceLT, Nat.zero_le, Int.reduceAdd, Int.reduceSub, Int.reduceMul, Int.reduceNeg, q_add_e, q_sub_e, q_mul_e, q_neg_e, q_upd_s, q_upd_n, zr_shr0, zr_shr1, zr_shr2, zr_shr3, zr_shr4, zr_and, zr_dyn8, zr_or, zr_shl, q_cpy_n, y_cpy26]
    exact hq 11 (Or.inr ⟨Or.inl rfl, by omega⟩)
  simp (disch := omega) only [b_X6_signOf_0, x_loadR_0, x_loadS_0, f_6_21, x_iconst, y_ic_ne_t, y_ic_ne_f, b_X6_signOf_8, x_goto, b_X6_signOf_13, b_X6_signOf_21, b_X6_signOf_26, b_X6_signOf_35, b_X6_signOf_40, b_X6_signOf_49, b_X6_signOf_54, b_X6_signOf_63, b_X6_signOf_68, b_X6_signOf_77, b_X6_signOf_82, b_X6_signOf_91, b_X6_signOf_96, b_X6_signOf_97, x_ret0, q_isL_I, q_isL_R, q_isL_S, true_and, and_true, and_self, List.length_nil, List.length_cons, Nat.zero_add, x_K, x_Kn, Int.reduceToNat, Nat.reduceAdd, Nat.reduceMul, Nat.reduceLeDiff, Nat.reduceLT, Nat.zero_le, Int.reduceAdd, Int.reduceSub, Int.reduceMul, Int.reduceNeg, q_add_e, q_sub_e, q_mul_e, q_neg_e, q_upd_s, q_upd_n, zr_shr0, zr_shr1, zr_shr2, zr_shr3, zr_shr4, zr_and, zr_dyn8, zr_or, zr_shl, q_cpy_n, y_cpy26]
  refine y_ic_ne (fun h2 => ?_) (fun h2 => ?_)
  rotate_left
  · simp (disch := omega) only [b_X6_signOf_0, x_loadR_0, x_loadS_0, f_6_21, x_iconst, y_ic_ne_t, y_ic_ne_f, b_X6_signOf_8, x_goto, b_X6_signOf_13, b_X6_signOf_21, b_X6_signOf_26, b_X6_signOf_35, b_X6_signOf_40, b_X6_signOf_49, b_X6_signOf_54, b_X6_signOf_63, b_X6_signOf_68, b_X6_signOf_77, b_X6_signOf_82, b_X6_signOf_91, b_X6_signOf_96, b_X6_signOf_97, x_ret0, q_isL_I, q_isL_R, q_isL_S, true_and, and_true, and_self, List.length_nil, List.length_cons, Nat.zero_add, x_K, x_Kn, Int.reduceToNat, Nat.reduceAdd, Nat.reduceMul, Nat.reduceLeDiff, Nat.reduceLT, Nat.zero_le, Int.reduceAdd, Int.reduceSub, Int.reduceMul, Int.reduceNeg, q_add_e, q_sub_e, q_mul_e, q_neg_e, q_upd_s, q_upd_n, zr_shr0, zr_shr1, zr_shr2, zr_shr3, zr_shr4, zr_and, zr_dyn8, zr_or, zr_shl, q_cpy_n, y_cpy26]
    exact hq 12 (Or.inr ⟨Or.inr (Or.inl rfl), by omega⟩)
  simp (disch := omega) only [b_X6_signOf_0, x_loadR_0, x_loadS_0, f_6_21, x_iconst, y_ic_ne_t, y_ic_ne_f, b_X6_signOf_8, x_goto, b_X6_signOf_13, b_X6_signOf_21, b_X6_signOf_26, b_X6_signOf_35, b_X6_signOf_40, b_X6_signOf_49, b_X6_signOf_54, b_X6_signOf_63, b_X6_signOf_68, b_X6_signOf_77, b_X6_signOf_82, b_X6_signOf_91, b_X6_signOf_96, b_X6_signOf_97, x_ret0, q_isL_I, q_isL_R, q_isL_S, true_and, and_true, and_self, List.length_nil, List.length_cons, Nat.zero_add, x_K, x_Kn, Int.reduceToNat, Nat.reduceAdd, Nat.reduceMul, Nat.reduceLeDiff, Nat.reduceLT, Nat.zero_le, Int.reduceAdd, Int.reduceSub, Int.reduceMul, Int.reduceNeg, q_add_e, q_sub_e, q_mul_e, q_neg_e, q_upd_s, q_upd_n, zr_shr0, zr_shr1, zr_shr2, zr_shr3, zr_shr4, zr_and, zr_dyn8, zr_or, zr_shl, q_cpy_n, y_cpy26]
  refine y_ic_ne (fun h3 => ?_) (fun h3 => ?_)
  rotate_left
  · simp (disch := omega) only [b_X6_signOf_0, x_loadR_0, x_loadS_0, f_6_21, x_iconst, y_ic_ne_t, y_ic_ne_f, b_X6_signOf_8, x_goto, b_X6_signOf_13, b_X6_signOf_21, b_X6_signOf_26, b_X6_signOf_35, b_X6_signOf_40, b_X6_signOf_49, b_X6_signOf_54, b_X6_signOf_63, b_X6_signOf_68, b_X6_signOf_77, b_X6_signOf_82, b_X6_signOf_91, b_X6_signOf_96, b_X6_signOf_97, x_ret0, q_isL_I, q_isL_R, q_isL_S, true_and, and_true, and_self, List.length_nil, List.length_cons, Nat.zero_add, x_K, x_Kn, Int.reduceToNat, Nat.reduceAdd, Nat.reduceMul, Nat.reduceLeDiff, Nat.reduceLT, Nat.zero_le, Int.reduceAdd, Int.reduceSub, Int.reduceMul, Int.reduceNeg, q_add_e, q_sub_e, q_mul_e, q_neg_e, q_upd_s, q_upd_n, zr_shr0, zr_shr1, zr_shr2, zr_shr3, zr_shr4, zr_and, zr_dyn8, zr_or, zr_shl, q_cpy_n, y_cpy26]
    exact hq 14 (Or.inr ⟨Or.inr (Or.inr ⟨by omega, by omega⟩), by omega⟩)
  simp (disch := omega) only [b_X6_signOf_0, x_loadR_0, x_loadS_0, f_6_21, x_iconst, y_ic_ne_t, y_ic_ne_f, b_X6_signOf_8, x_goto, b_X6_signOf_13, b_X6_signOf_21, b_X6_signOf_26, b_X6_signOf_35, b_X6_signOf_40, b_X6_signOf_49, b_X6_signOf_54, b_X6_signOf_63, b_X6_signOf_68, b_X6_signOf_77, b_X6_signOf_82, b_X6_signOf_91, b_X6_signOf_96, b_X6_signOf_97, x_ret0, q_isL_I, q_isL_R, q_isL_S, true_and, and_true, and_self, List.length_nil, List.length_cons, Nat.zero_add, x_K, x_Kn, Int.reduceToNat, Nat.reduceAdd, Nat.reduceMul, Nat.reduceLeDiff, Nat.reduceLT, Nat.zero_le, Int.reduceAdd, Int.reduceSub, Int.reduceMul, Int.reduceNeg, q_add_e, q_sub_e, q_mul_e, q_neg_e, q_upd_s, q_upd_n, zr_shr0, zr_shr1, zr_shr2, zr_shr3, zr_shr4, zr_and, zr_dyn8, zr_or, zr_shl, q_cpy_n, y_cpy26]
  refine y_ic_ne (fun h4 => ?_) (fun h4 => ?_)
  rotate_left
  · simp (disch := omega) only [b_X6_signOf_0, x_loadR_0, x_loadS_0, f_6_21, x_iconst, y_ic_ne_t, y_ic_ne_f, b_X6_signOf_8, x_goto, b_X6_signOf_13, b_X6_signOf_21, b_X6_signOf_26, b_X6_signOf_35, b_X6_signOf_40, b_X6_signOf_49, b_X6_signOf_54, b_X6_signOf_63, b_X6_signOf_68, b_X6_signOf_77, b_X6_signOf_82, b_X6_signOf_91, b_X6_signOf_96, b_X6_signOf_97, x_ret0, q_isL_I, q_isL_R, q_isL_S, true_and, and_true, and_self, List.length_nil, List.length_cons, Nat.zero_add, x_K, x_Kn, Int.reduceToNat, Nat.reduceAdd, Nat.reduceMul, Nat.reduceLeDiff, Nat.reduceLT, Nat.zero_le, Int.reduceAdd, Int.reduceSub, Int.reduceMul, Int.reduceNeg, q_add_e, q_sub_e, q_mul_e, q_neg_e, q_upd_s, q_upd_n, zr_shr0, zr_shr1, zr_shr2, zr_shr3, zr_shr4, zr_and, zr_dyn8, zr_or, zr_shl, q_cpy_n, y_cpy26]
    exact hq 15 (Or.inr ⟨Or.inr (Or.inr ⟨by omega, by omega⟩), by omega⟩)
  simp (disch := omega) only [b_X6_signOf_0, x_loadR_0, x_loadS_0, f_6_21, x_iconst, y_ic_ne_t, y_ic_ne_f, b_X6_signOf_8, x_goto, b_X6_signOf_13, b_X6_signOf_21, b_X6_signOf_26, b_X6_signOf_35, b_X6_signOf_40, b_X6_signOf_49, b_X6_signOf_54, b_X6_signOf_63, b_X6_signOf_68, b_X6_signOf_77, b_X6_signOf_82, b_X6_signOf_91, b_X6_signOf_96, b_X6_signOf_97, x_ret0, q_isL_I, q_isL_R, q_isL_S, true_and, and_true, and_self, List.length_nil, List.length_cons, Nat.zero_add, x_K, x_Kn, Int.reduceToNat, Nat.reduceAdd, Nat.reduceMul, Nat.reduceLeDiff, Nat.reduceLT, Nat.zero_le, Int.reduceAdd, Int.reduceSub, Int.reduceMul, Int.reduceNeg, q_add_e, q_sub_e, q_mul_e, q_neg_e, q_upd_s, q_upd_n, zr_shr0, zr_shr1, zr_shr2, zr_shr3, zr_shr4, zr_and, zr_dyn8, zr_or, zr_shl, q_cpy_n, y_cpy26]
  refine y_ic_ne (fun h5 => ?_) (fun h5 => ?_)
  rotate_left
  · simp (disch := omega) only [b_X6_signOf_0, x_loadR_0, x_loadS_0, f_6_21, x_iconst, y_ic_ne_t, y_ic_ne_f, b_X6_signOf_8, x_goto, b_X6_signOf_13, b_X6_signOf_21, b_X6_signOf_26, b_X6_signOf_35, b_X6_signOf_40, b_X6_signOf_49, b_X6_signOf_54, b_X6_signOf_63, b_X6_signOf_68, b_X6_signOf_77, b_X6_signOf_82, b_X6_signOf_91, b_X6_signOf_96, b_X6_signOf_97, x_ret0, q_isL_I, q_isL_R, q_isL_S, true_and, and_true, and_self, List.length_nil, List.length_cons, Nat.zero_add, x_K, x_Kn, Int.reduceToNat, Nat.reduceAdd, Nat.reduceMul, Nat.reduceLeDiff, Nat.reduceLT, Nat.zero_le, Int.reduceAdd, Int.reduceSub, Int.reduceMul, Int.reduceNeg, q_add_e, q_sub_e, q_mul_e, q_neg_e, q_upd_s, q_upd_n, zr_shr0, zr_shr1, zr_shr2, zr_shr3, zr_shr4, zr_and, zr_dyn8, zr_or, zr_shl, q_cpy_n, y_cpy26]
    exact hq 16 (Or.inr ⟨Or.inr (Or.inr ⟨by omega, by omega⟩), by omega⟩)
  simp (disch := omega) only [b_X6_signOf_0, x_loadR_0, x_loadS_0, f_6_21, x_iconst, y_ic_ne_t, y_ic_ne_f, b_X6_signOf_8, x_goto, b_X6_signOf_13, b_X6_signOf_21, b_X6_signOf_26, b_X6_signOf_35, b_X6_signOf_40, b_X6_signOf_49, b_X6_signOf_54, b_X6_signOf_63, b_X6_signOf_68, b_X6_signOf_77, b_X6_signOf_82, b_X6_signOf_91, b_X6_signOf_96, b_X6_signOf_97, x_ret0, q_isL_I, q_isL_R, q_isL_S, true_and, and_true, and_self, List.length_nil, List.length_cons, Nat.zero_add, x_K, x_Kn, Int.reduceToNat, Nat.reduceAdd, Nat.reduceMul, Nat.reduceLeDiff, Nat.reduceLT, Nat.zero_le, Int.reduceAdd, Int.reduceSub, Int.reduceMul, Int.reduceNeg, q_add_e, q_sub_e, q_mul_e, q_neg_e, q_upd_s, q_upd_n, zr_shr0, zr_shr1, zr_shr2, zr_shr3, zr_shr4, zr_and, zr_dyn8, zr_or, zr_shl, q_cpy_n, y_cpy26]
  refine y_ic_ne (fun h6 => ?_) (fun h6 => ?_)
  rotate_left
  · simp (disch := omega) only [b_X6_signOf_0, x_loadR_0, x_loadS_0, f_6_21, x_iconst, y_ic_ne_t, y_ic_ne_f, b_X6_signOf_8, x_goto, b_X6_signOf_13, b_X6_signOf_21, b_X6_signOf_26, b_X6_signOf_35, b_X6_signOf_40, b_X6_signOf_49, b_X6_signOf_54, b_X6_signOf_63, b_X6_signOf_68, b_X6_signOf_77, b_X6_signOf_82, b_X6_signOf_91, b_X6_signOf_96, b_X6_signOf_97, x_ret0, q_isL_I, q_isL_R, q_isL_S, true_and, and_true, and_self, List.length_nil, List.length_cons, Nat.zero_add, x_K, x_Kn, Int.reduceToNat, Nat.reduceAdd, Nat.reduceMul, Nat.reduceLeDiff, Nat.reduceLT, Nat.zero_le, Int.reduceAdd, Int.reduceSub, Int.reduceMul, Int.reduceNeg, q_add_e, q_sub_e, q_mul_e, q_neg_e, q_upd_s, q_upd_n, zr_shr0, zr_shr1, zr_shr2, zr_shr3, zr_shr4, zr_and, zr_dyn8, zr_or, zr_shl, q_cpy_n, y_cpy26]
    exact hq 17 (Or.inr ⟨Or.inr (Or.inr ⟨by omega, by omega⟩), by omega⟩)
  simp (disch := omega) only [b_X6_signOf_0, x_loadR_0, x_loadS_0, f_6_21, x_iconst, y_ic_ne_t, y_ic_ne_f, b_X6_signOf_8, x_goto, b_X6_signOf_13, b_X6_signOf_21, b_X6_signOf_26, b_X6_signOf_35, b_X6_signOf_40, b_X6_signOf_49, b_X6_signOf_54, b_X6_signOf_63, b_X6_signOf_68, b_X6_signOf_77, b_X6_signOf_82, b_X6_signOf_91, b_X6_signOf_96, b_X6_signOf_97, x_ret0, q_isL_I, q_isL_R, q_isL_S, true_and, and_true, and_self, List.length_nil, List.length_cons, Nat.zero_add, x_K, x_Kn, Int.reduceToNat, Nat.reduceAdd, Nat.reduceMul, Nat.reduceLeDiff, Nat.reduceLT, Nat.zero_le, Int.reduceAdd, Int.reduceSub, Int.reduceMul, Int.reduceNeg, q_add_e, q_sub_e, q_mul_e, q_neg_e, q_upd_s, q_upd_n, zr_shr0, zr_shr1, zr_shr2, zr_shr3, zr_shr4, zr_and, zr_dyn8, zr_or, zr_shl, q_cpy_n, y_cpy26]
  refine y_ic_ne (fun h7 => ?_) (fun h7 => ?_)
  · simp (disch := omega) only [b_X6_signOf_0, x_loadR_0, x_loadS_0, f_6_21, x_iconst, y_ic_ne_t, y_ic_ne_f, b_X6_signOf_8, x_goto, b_X6_signOf_13, b_X6_signOf_21, b_X6_signOf_26, b_X6_signOf_35, b_X6_signOf_40, b_X6_signOf_49, b_X6_signOf_54, b_X6_signOf_63, b_X6_signOf_68, b_X6_signOf_77, b_X6_signOf_82, b_X6_signOf_91, b_X6_signOf_96, b_X6_signOf_97, x_ret0, q_isL_I, q_isL_R, q_isL_S, true_and, and_true, and_self, List.length_nil, List.length_cons, Nat.zero_add, x_K, x_Kn, Int.reduceToNat, Nat.reduceAdd, Nat.reduceMul, Nat.reduceLeDiff, Nat.reduceLT, Nat.zero_le, Int.reduceAdd, Int.reduceSub, Int.reduceMul, Int.reduceNeg, q_add_e, q_sub_e, q_mul_e, q_neg_e, q_upd_s, q_upd_n, zr_shr0, zr_shr1, zr_shr2, zr_shr3, zr_shr4, zr_and, zr_dyn8, zr_or, zr_shl, q_cpy_n, y_cpy26]
    exact hq (-1) (Or.inl rfl)
  · simp (disch := omega) only [b_X6_signOf_0, x_loadR_0, x_loadS_0, f_6_21, x_iconst, y_ic_ne_t, y_ic_ne_f, b_X6_signOf_8, x_goto, b_X6_signOf_13, b_X6_signOf_21, b_X6_signOf_26, b_X6_signOf_35, b_X6_signOf_40, b_X6_signOf_49, b_X6_signOf_54, b_X6_signOf_63, b_X6_signOf_68, b_X6_signOf_77, b_X6_signOf_82, b_X6_signOf_91, b_X6_signOf_96, b_X6_signOf_97, x_ret0, q_isL_I, q_isL_R, q_isL_S, true_and, and_true, and_self, List.length_nil, List.length_cons, Nat.zero_add, x_K, x_Kn, Int.reduceToNat, Nat.reduceAdd, Nat.reduceMul, Nat.reduceLeDiff, Nat.reduceLT, Nat.zero_le, Int.reduceAdd, Int.reduceSub, Int.reduceMul, Int.reduceNeg, q_add_e, q_sub_e, q_mul_e, q_neg_e, q_upd_s, q_upd_n, zr_shr0, zr_shr1, zr_shr2, zr_shr3, zr_shr4, zr_and, zr_dyn8, zr_or, zr_shl, q_cpy_n, y_cpy26]
    exact hq 18 (Or.inr ⟨Or.inr (Or.inr ⟨by omega, by omega⟩), by omega⟩)
/-- how many of the first h held are signs between two -/
def F_bn (H : Nat → Int) : Nat → Nat
  | 0 => 0
  | x + 1 => F_bn H x + (if H x = 11 ∨ H x = 12 ∨ (14 ≤ H x ∧ H x ≤ 18) then 1 else 0)
theorem F_bn_c {H H' : Nat → Int} : ∀ h, (∀ x, x < h → H' x = H x) → F_bn H' h = F_bn H h := by
  intro h
  induction h with
  | zero => intro _; rfl
  | succ h ih =>
    intro hx
    unfold F_bn
    rw [ih (fun x q => hx x (by omega)), hx h (by omega)]
def q_hd (v : Int) : Prop := v = 0 ∨ q_una v ∨ q_bi v
/-- what the held and the code's end change -/
def q_ufr (tm s : Nat) (M M2 : q_M) : Prop := ∀ a i, (a = 106 → i < 200 * tm + s ∨ 200 * tm + 200 ≤ i) → (a = 100 → i ≠ 25 ∧ i ≠ 26 ∧ i ≠ 27) → a ≠ 115 → M2 a i = M a i
theorem q_ufr_rf {tm s : Nat} {M : q_M} : q_ufr tm s M M := fun _ _ _ _ _ => rfl
theorem q_ufr_tr {tm s : Nat} {M M2 M3 : q_M} (h : q_ufr tm s M M2) (h2 : q_ufr tm s M2 M3) : q_ufr tm s M M3 := fun a i q1 q2 q3 => (h2 a i q1 q2 q3).trans (h a i q1 q2 q3)
theorem q_ufr_up {tm s a i : Nat} {v : Int} {M M2 : q_M} (h : q_ufr tm s M M2) (hi : (a = 106 ∧ 200 * tm + s ≤ i ∧ i < 200 * tm + 200) ∨ (a = 100 ∧ (i = 25 ∨ i = 26 ∨ i = 27)) ∨ a = 115) : q_ufr tm s M (q_upd M2 a i v) := fun b j q1 q2 q3 => (q_upd_n (by
  by_cases e : b = a
  · exact Or.inr (fun e2 => by subst e; subst e2; omega)
  · exact Or.inl e)).trans (h b j q1 q2 q3)
def q_eK (tm s a w h o : Nat) (D : Nat → Nat) (M : q_M) : Prop := M 100 25 = h ∧ M 100 27 = o ∧ s ≤ o ∧ h + o ≤ a ∧ (∀ x, x < h → q_hd (M 115 x)) ∧ q_wfP (fun i => M 106 (200 * tm + i)) s o D ∧ D o + w = F_bn (M 115) h + 1
def F_un (D : Nat → Nat) (p n : Nat) : Nat → Nat := fun i => if i = p then n else D i
theorem q_wfP_ext {C C' : Nat → Int} {s o n : Nat} {D : Nat → Nat} (hw : q_wfP C s o D) (hs : s ≤ o) (hc : ∀ i, s ≤ i → i < o → C' i = C i) (hst : (q_pu (C' o) ∧ n = D o + 1) ∨ (q_una (C' o) ∧ 1 ≤ D o ∧ n = D o) ∨ (q_bi (C' o) ∧ 2 ≤ D o ∧ n + 1 = D o)) : q_wfP C' s (o + 1) (F_un D (o + 1) n) := by
  have f1 : F_un D (o + 1) n (o + 1) = n := if_pos rfl
  have f2 : ∀ i, i ≤ o → F_un D (o + 1) n i = D i := fun i hi => if_neg (by omega)
  refine ⟨(f2 s hs).trans hw.1, fun i hi hio => ?_⟩
  by_cases e : i = o
  · subst e
    rw [f1, f2 i (by omega)]
    exact hst
  · rw [f2 (i + 1) (by omega), f2 i (by omega), hc i hi (by omega)]
    exact hw.2 i hi (by omega)
theorem F_un_s {D : Nat → Nat} {p n : Nat} : F_un D p n p = n := if_pos rfl
/-- one held is put into the code -/
theorem q_eK_pop {tm s a x o : Nat} {D : Nat → Nat} {M M2 : q_M} {c : Int} (hK : q_eK tm s a 0 (x + 1) o D M) (hc : M 115 x = c) (hcc : q_una c ∨ q_bi c) (h25 : M2 100 25 = x) (h27 : M2 100 27 = (o : Int) + 1) (h6 : M2 106 (200 * tm + o) = c) (h6b : ∀ i, i < o → M2 106 (200 * tm + i) = M 106 (200 * tm + i)) (h15 : ∀ i, M2 115 i = M 115 i) : ∃ D2, q_eK tm s a 0 x (o + 1) D2 M2 := by
  obtain ⟨k1, k2, k3, k4, k5, k6, k7⟩ := hK
  have eb : F_bn (M2 115) x = F_bn (M 115) x := F_bn_c x (fun i _ => h15 i)
  unfold F_bn at k7
  rw [hc] at k7
  rcases hcc with hu | hb
  · have : ¬(c = 11 ∨ c = 12 ∨ (14 ≤ c ∧ c ≤ 18)) := by unfold q_una at hu; omega
    rw [if_neg this] at k7
    refine ⟨F_un D (o + 1) (D o), h25, by rw [h27]; omega, by omega, by omega, fun y hy => by rw [h15]; exact k5 y (by omega), q_wfP_ext k6 k3 (fun i _ hi => h6b i hi) (Or.inr (Or.inl ⟨by show q_una (M2 106 (200 * tm + o)); rw [h6]; exact hu, by omega, rfl⟩)), ?_⟩
    rw [F_un_s, eb]
    omega
  · have hb2 : c = 11 ∨ c = 12 ∨ (14 ≤ c ∧ c ≤ 18) := hb
    rw [if_pos hb2] at k7
    refine ⟨F_un D (o + 1) (D o - 1), h25, by rw [h27]; omega, by omega, by omega, fun y hy => by rw [h15]; exact k5 y (by omega), q_wfP_ext k6 k3 (fun i _ hi => h6b i hi) (Or.inr (Or.inr ⟨by show q_bi (M2 106 (200 * tm + o)); rw [h6]; exact hb, by omega, by omega⟩)), ?_⟩
    rw [F_un_s, eb]
    omega
/-- a number or a name is put into the code -/
theorem q_eK_put {tm s a h o : Nat} {D : Nat → Nat} {M M2 : q_M} (hK : q_eK tm s a 1 h o D M) (hc : q_pu (M2 106 (200 * tm + o))) (h25 : M2 100 25 = h) (h27 : M2 100 27 = (o : Int) + 1) (h6b : ∀ i, i < o → M2 106 (200 * tm + i) = M 106 (200 * tm + i)) (h15 : ∀ i, M2 115 i = M 115 i) : q_eK tm s (a + 1) 0 h (o + 1) (F_un D (o + 1) (D o + 1)) M2 := by
  obtain ⟨k1, k2, k3, k4, k5, k6, k7⟩ := hK
  refine ⟨h25, by rw [h27]; omega, by omega, by omega, fun y hy => by rw [h15]; exact k5 y hy, q_wfP_ext k6 k3 (fun i _ hi => h6b i hi) (Or.inl ⟨hc, rfl⟩), ?_⟩
  rw [F_un_s, F_bn_c h (fun i _ => h15 i)]
  omega
/-- one more is held -/
theorem q_eK_hold {tm s a w w2 h o : Nat} {D : Nat → Nat} {M M2 : q_M} {c : Int} (hK : q_eK tm s a w h o D M) (hc : (q_bi c ∧ w = 0 ∧ w2 = 1) ∨ ((c = 0 ∨ q_una c) ∧ w2 = w)) (hx : M2 115 h = c) (h25 : M2 100 25 = (h : Int) + 1) (h27 : M2 100 27 = M 100 27) (h6b : ∀ i, M2 106 i = M 106 i) (h15 : ∀ i, i < h → M2 115 i = M 115 i) : q_eK tm s (a + 1) w2 (h + 1) o D M2 := by
  obtain ⟨k1, k2, k3, k4, k5, k6, k7⟩ := hK
  refine ⟨by rw [h25]; omega, by rw [h27]; exact k2, k3, by omega, fun y hy => ?_, ?_, ?_⟩
  · by_cases e : y = h
    · subst e
      rw [hx]
      rcases hc with z | z
      · exact Or.inr (Or.inr z.1)
      · rcases z.1 with z | z
        · exact Or.inl z
        · exact Or.inr (Or.inl z)
    · rw [h15 y (by omega)]
      exact k5 y (by omega)
  · rw [show (fun i => M2 106 (200 * tm + i)) = (fun i => M 106 (200 * tm + i)) from funext (fun i => h6b _)]
    exact k6
  · unfold F_bn
    rw [hx, F_bn_c h h15]
    rcases hc with z | z
    · have hb2 : c = 11 ∨ c = 12 ∨ (14 ≤ c ∧ c ≤ 18) := z.1
      rw [if_pos hb2]
      omega
    · have : ¬(c = 11 ∨ c = 12 ∨ (14 ≤ c ∧ c ≤ 18)) := by
        rcases z.1 with y | y
        · omega
        · unfold q_una at y; omega
      rw [if_neg this]
      omega
set_option maxHeartbeats 8000000 in
theorem mp_unwinds {d tm s a h o : Nat} {D : Nat → Nat} {g : q_G} {M : q_M} {r : Int} {Q : Option q_V → q_G → q_M → Prop} (ht : M 100 10 = tm) (ht6 : tm < 6) (ha : a ≤ 160) (hr : 1 ≤ r) (hK : q_eK tm s a 0 h o D M) (hq : ∀ (M2 : q_M) (h2 o2 : Nat) (D2 : Nat → Nat), q_ufr tm s M M2 → q_eK tm s a 0 h2 o2 D2 M2 → (h2 = 0 ∨ F_rank (M2 115 (h2 - 1)) < r) → Q none g M2) : q_S 1 (d + 1) 127 [qR 6 100, qI r] g M Q := by
  rw [s_X6_unwinds]
  have loop : ∀ (h o : Nat) (D : Nat → Nat) (M1 : q_M) (l2 : q_V), q_isL l2 = false → q_ufr tm s M M1 → q_eK tm s a 0 h o D M1 → q_T 1 (d + 1) qP_X6_unwinds 0 [] [qR 6 100, qI r, l2] [] g M1 Q := by
    intro h
    induction h with
    | zero =>
      intro o D M1 l2 i2 hf k
      have k1 := k.1
      rw [b_X6_unwinds_0]
      simp (disch := omega) only [x_loadR_0, x_loadS_0, f_6_25, y_if_le_t, y_if_le_f, b_X6_unwinds_7, f_6_24, x_iconst, x_isub, y_iald_220, x_loadI_1, y_ic_lt_t, y_ic_lt_f, b_X6_unwinds_25, x_dupI, x_dupR, p_6_25, x_storeI_2, f_6_26, x_loadI_2, y_ic_eq_t, y_ic_eq_f, b_X6_unwinds_56, y_ic_ne_t, y_ic_ne_f, b_X6_unwinds_62, x_goto, b_X6_unwinds_66, b_X6_unwinds_67, p_6_26, b_X6_unwinds_79, x_vret, q_isL_I, q_isL_R, q_isL_S, true_and, and_true, and_self, List.length_nil, List.length_cons, Nat.zero_add, x_K, x_Kn, Int.reduceToNat, Nat.reduceAdd, Nat.reduceMul, Nat.reduceLeDiff, Nat.reduceLT, Nat.zero_le, Int.reduceAdd, Int.reduceSub, Int.reduceMul, Int.reduceNeg, q_add_e, q_sub_e, q_mul_e, q_neg_e, q_upd_s, q_upd_n, zr_shr0, zr_shr1, zr_shr2, zr_shr3, zr_shr4, zr_and, zr_dyn8, zr_or, zr_shl, q_cpy_n, y_cpy26]
      exact hq M1 0 o D hf k (Or.inl rfl)
    | succ x ih =>
      intro o D M1 l2 i2 hf k
      obtain ⟨k1, k2, k3, k4, k5, k6, k7⟩ := k
      have e10 : M1 100 10 = tm := (hf 100 10 (by omega) (by omega) (by omega)).trans ht
      have t1 : (((x + 1 : Nat) : Int) - 1).toNat = x := by omega
      rw [b_X6_unwinds_0]
      simp (disch := omega) only [x_loadR_0, x_loadS_0, f_6_25, y_if_le_t, y_if_le_f, b_X6_unwinds_7, f_6_24, x_iconst, x_isub, y_iald_220, x_loadI_1, y_ic_lt_t, y_ic_lt_f, b_X6_unwinds_25, x_dupI, x_dupR, p_6_25, x_storeI_2, f_6_26, x_loadI_2, y_ic_eq_t, y_ic_eq_f, b_X6_unwinds_56, y_ic_ne_t, y_ic_ne_f, b_X6_unwinds_62, x_goto, b_X6_unwinds_66, b_X6_unwinds_67, p_6_26, b_X6_unwinds_79, x_vret, q_isL_I, q_isL_R, q_isL_S, true_and, and_true, and_self, List.length_nil, List.length_cons, Nat.zero_add, x_K, x_Kn, Int.reduceToNat, Nat.reduceAdd, Nat.reduceMul, Nat.reduceLeDiff, Nat.reduceLT, Nat.zero_le, Int.reduceAdd, Int.reduceSub, Int.reduceMul, Int.reduceNeg, q_add_e, q_sub_e, q_mul_e, q_neg_e, q_upd_s, q_upd_n, zr_shr0, zr_shr1, zr_shr2, zr_shr3, zr_shr4, zr_and, zr_dyn8, zr_or, zr_shl, q_cpy_n, y_cpy26, k1, t1, c_X6_rank]
      refine mp_rank ?_
      by_cases c : F_rank (M1 115 x) < r
      · simp (disch := omega) only [x_loadR_0, x_loadS_0, f_6_25, y_if_le_t, y_if_le_f, b_X6_unwinds_7, f_6_24, x_iconst, x_isub, y_iald_220, x_loadI_1, y_ic_lt_t, y_ic_lt_f, b_X6_unwinds_25, x_dupI, x_dupR, p_6_25, x_storeI_2, f_6_26, x_loadI_2, y_ic_eq_t, y_ic_eq_f, b_X6_unwinds_56, y_ic_ne_t, y_ic_ne_f, b_X6_unwinds_62, x_goto, b_X6_unwinds_66, b_X6_unwinds_67, p_6_26, b_X6_unwinds_79, x_vret, q_isL_I, q_isL_R, q_isL_S, true_and, and_true, and_self, List.length_nil, List.length_cons, Nat.zero_add, x_K, x_Kn, Int.reduceToNat, Nat.reduceAdd, Nat.reduceMul, Nat.reduceLeDiff, Nat.reduceLT, Nat.zero_le, Int.reduceAdd, Int.reduceSub, Int.reduceMul, Int.reduceNeg, q_add_e, q_sub_e, q_mul_e, q_neg_e, q_upd_s, q_upd_n, zr_shr0, zr_shr1, zr_shr2, zr_shr3, zr_shr4, zr_and, zr_dyn8, zr_or, zr_shl, q_cpy_n, y_cpy26]
        exact hq M1 (x + 1) o D hf ⟨k1, k2, k3, k4, k5, k6, k7⟩ (Or.inr c)
      · have hx := k5 x (by omega)
        have hx2 : q_una (M1 115 x) ∨ q_bi (M1 115 x) := by
          rcases hx with z | z
          · exfalso
            apply c
            rw [z]
            unfold F_rank
            rw [if_pos rfl]
            omega
          · exact z
        have e1 : ((x + 1 : Nat) : Int) - 1 = x := by omega
        have fin : ∀ v : Int, q_T 1 (d + 1) qP_X6_unwinds 0 [] [qR 6 100, qI r, qI (M1 115 x)] [] g (q_upd (q_upd (q_upd (q_upd M1 100 25 x) 100 26 v) 106 (200 * tm + o) (M1 115 x)) 100 27 ((o : Int) + 1)) Q := by
          intro v
          obtain ⟨D2, hD2⟩ := q_eK_pop (M2 := q_upd (q_upd (q_upd (q_upd M1 100 25 x) 100 26 v) 106 (200 * tm + o) (M1 115 x)) 100 27 ((o : Int) + 1)) ⟨k1, k2, k3, k4, k5, k6, k7⟩ rfl hx2 (by simp (disch := omega) only [q_upd_n, q_upd_s]) (by simp (disch := omega) only [q_upd_n, q_upd_s]) (by simp (disch := omega) only [q_upd_n, q_upd_s]) (fun i hi => by simp (disch := omega) only [q_upd_n, q_upd_s]) (fun i => by simp (disch := omega) only [q_upd_n, q_upd_s])
          exact ih (o + 1) D2 _ _ rfl (q_ufr_up (q_ufr_up (q_ufr_up (q_ufr_up hf (by omega)) (by omega)) (by omega)) (by omega)) hD2
        by_cases c2 : M1 115 x = 13
        · simp (disch := omega) only [x_loadR_0, x_loadS_0, f_6_25, y_if_le_t, y_if_le_f, b_X6_unwinds_7, f_6_24, x_iconst, x_isub, y_iald_220, x_loadI_1, y_ic_lt_t, y_ic_lt_f, b_X6_unwinds_25, x_dupI, x_dupR, p_6_25, x_storeI_2, f_6_26, x_loadI_2, y_ic_eq_t, y_ic_eq_f, b_X6_unwinds_56, y_ic_ne_t, y_ic_ne_f, b_X6_unwinds_62, x_goto, b_X6_unwinds_66, b_X6_unwinds_67, p_6_26, b_X6_unwinds_79, x_vret, q_isL_I, q_isL_R, q_isL_S, true_and, and_true, and_self, List.length_nil, List.length_cons, Nat.zero_add, x_K, x_Kn, Int.reduceToNat, Nat.reduceAdd, Nat.reduceMul, Nat.reduceLeDiff, Nat.reduceLT, Nat.zero_le, Int.reduceAdd, Int.reduceSub, Int.reduceMul, Int.reduceNeg, q_add_e, q_sub_e, q_mul_e, q_neg_e, q_upd_s, q_upd_n, zr_shr0, zr_shr1, zr_shr2, zr_shr3, zr_shr4, zr_and, zr_dyn8, zr_or, zr_shl, q_cpy_n, y_cpy26, k1, e1, Int.toNat_natCast, i2, c_X6_puts]
          refine mp_puts (tm := tm) (o := o) (by simp (disch := omega) only [q_upd_n]; exact e10) ht6 (by simp (disch := omega) only [q_upd_n]; exact k2) (by omega) ?_
          simp (disch := omega) only [x_loadR_0, x_loadS_0, f_6_25, y_if_le_t, y_if_le_f, b_X6_unwinds_7, f_6_24, x_iconst, x_isub, y_iald_220, x_loadI_1, y_ic_lt_t, y_ic_lt_f, b_X6_unwinds_25, x_dupI, x_dupR, p_6_25, x_storeI_2, f_6_26, x_loadI_2, y_ic_eq_t, y_ic_eq_f, b_X6_unwinds_56, y_ic_ne_t, y_ic_ne_f, b_X6_unwinds_62, x_goto, b_X6_unwinds_66, b_X6_unwinds_67, p_6_26, b_X6_unwinds_79, x_vret, q_isL_I, q_isL_R, q_isL_S, true_and, and_true, and_self, List.length_nil, List.length_cons, Nat.zero_add, x_K, x_Kn, Int.reduceToNat, Nat.reduceAdd, Nat.reduceMul, Nat.reduceLeDiff, Nat.reduceLT, Nat.zero_le, Int.reduceAdd, Int.reduceSub, Int.reduceMul, Int.reduceNeg, q_add_e, q_sub_e, q_mul_e, q_neg_e, q_upd_s, q_upd_n, zr_shr0, zr_shr1, zr_shr2, zr_shr3, zr_shr4, zr_and, zr_dyn8, zr_or, zr_shl, q_cpy_n, y_cpy26]
          exact fin _
        · by_cases c3 : M1 115 x = 19
          · simp (disch := omega) only [x_loadR_0, x_loadS_0, f_6_25, y_if_le_t, y_if_le_f, b_X6_unwinds_7, f_6_24, x_iconst, x_isub, y_iald_220, x_loadI_1, y_ic_lt_t, y_ic_lt_f, b_X6_unwinds_25, x_dupI, x_dupR, p_6_25, x_storeI_2, f_6_26, x_loadI_2, y_ic_eq_t, y_ic_eq_f, b_X6_unwinds_56, y_ic_ne_t, y_ic_ne_f, b_X6_unwinds_62, x_goto, b_X6_unwinds_66, b_X6_unwinds_67, p_6_26, b_X6_unwinds_79, x_vret, q_isL_I, q_isL_R, q_isL_S, true_and, and_true, and_self, List.length_nil, List.length_cons, Nat.zero_add, x_K, x_Kn, Int.reduceToNat, Nat.reduceAdd, Nat.reduceMul, Nat.reduceLeDiff, Nat.reduceLT, Nat.zero_le, Int.reduceAdd, Int.reduceSub, Int.reduceMul, Int.reduceNeg, q_add_e, q_sub_e, q_mul_e, q_neg_e, q_upd_s, q_upd_n, zr_shr0, zr_shr1, zr_shr2, zr_shr3, zr_shr4, zr_and, zr_dyn8, zr_or, zr_shl, q_cpy_n, y_cpy26, k1, e1, Int.toNat_natCast, i2, c_X6_puts]
            refine mp_puts (tm := tm) (o := o) (by simp (disch := omega) only [q_upd_n]; exact e10) ht6 (by simp (disch := omega) only [q_upd_n]; exact k2) (by omega) ?_
            simp (disch := omega) only [x_loadR_0, x_loadS_0, f_6_25, y_if_le_t, y_if_le_f, b_X6_unwinds_7, f_6_24, x_iconst, x_isub, y_iald_220, x_loadI_1, y_ic_lt_t, y_ic_lt_f, b_X6_unwinds_25, x_dupI, x_dupR, p_6_25, x_storeI_2, f_6_26, x_loadI_2, y_ic_eq_t, y_ic_eq_f, b_X6_unwinds_56, y_ic_ne_t, y_ic_ne_f, b_X6_unwinds_62, x_goto, b_X6_unwinds_66, b_X6_unwinds_67, p_6_26, b_X6_unwinds_79, x_vret, q_isL_I, q_isL_R, q_isL_S, true_and, and_true, and_self, List.length_nil, List.length_cons, Nat.zero_add, x_K, x_Kn, Int.reduceToNat, Nat.reduceAdd, Nat.reduceMul, Nat.reduceLeDiff, Nat.reduceLT, Nat.zero_le, Int.reduceAdd, Int.reduceSub, Int.reduceMul, Int.reduceNeg, q_add_e, q_sub_e, q_mul_e, q_neg_e, q_upd_s, q_upd_n, zr_shr0, zr_shr1, zr_shr2, zr_shr3, zr_shr4, zr_and, zr_dyn8, zr_or, zr_shl, q_cpy_n, y_cpy26]
            exact fin _
          · simp (disch := omega) only [x_loadR_0, x_loadS_0, f_6_25, y_if_le_t, y_if_le_f, b_X6_unwinds_7, f_6_24, x_iconst, x_isub, y_iald_220, x_loadI_1, y_ic_lt_t, y_ic_lt_f, b_X6_unwinds_25, x_dupI, x_dupR, p_6_25, x_storeI_2, f_6_26, x_loadI_2, y_ic_eq_t, y_ic_eq_f, b_X6_unwinds_56, y_ic_ne_t, y_ic_ne_f, b_X6_unwinds_62, x_goto, b_X6_unwinds_66, b_X6_unwinds_67, p_6_26, b_X6_unwinds_79, x_vret, q_isL_I, q_isL_R, q_isL_S, true_and, and_true, and_self, List.length_nil, List.length_cons, Nat.zero_add, x_K, x_Kn, Int.reduceToNat, Nat.reduceAdd, Nat.reduceMul, Nat.reduceLeDiff, Nat.reduceLT, Nat.zero_le, Int.reduceAdd, Int.reduceSub, Int.reduceMul, Int.reduceNeg, q_add_e, q_sub_e, q_mul_e, q_neg_e, q_upd_s, q_upd_n, zr_shr0, zr_shr1, zr_shr2, zr_shr3, zr_shr4, zr_and, zr_dyn8, zr_or, zr_shl, q_cpy_n, y_cpy26, k1, e1, Int.toNat_natCast, i2, c_X6_puts]
            refine mp_puts (tm := tm) (o := o) (by simp (disch := omega) only [q_upd_n]; exact e10) ht6 (by simp (disch := omega) only [q_upd_n]; exact k2) (by omega) ?_
            simp (disch := omega) only [x_loadR_0, x_loadS_0, f_6_25, y_if_le_t, y_if_le_f, b_X6_unwinds_7, f_6_24, x_iconst, x_isub, y_iald_220, x_loadI_1, y_ic_lt_t, y_ic_lt_f, b_X6_unwinds_25, x_dupI, x_dupR, p_6_25, x_storeI_2, f_6_26, x_loadI_2, y_ic_eq_t, y_ic_eq_f, b_X6_unwinds_56, y_ic_ne_t, y_ic_ne_f, b_X6_unwinds_62, x_goto, b_X6_unwinds_66, b_X6_unwinds_67, p_6_26, b_X6_unwinds_79, x_vret, q_isL_I, q_isL_R, q_isL_S, true_and, and_true, and_self, List.length_nil, List.length_cons, Nat.zero_add, x_K, x_Kn, Int.reduceToNat, Nat.reduceAdd, Nat.reduceMul, Nat.reduceLeDiff, Nat.reduceLT, Nat.zero_le, Int.reduceAdd, Int.reduceSub, Int.reduceMul, Int.reduceNeg, q_add_e, q_sub_e, q_mul_e, q_neg_e, q_upd_s, q_upd_n, zr_shr0, zr_shr1, zr_shr2, zr_shr3, zr_shr4, zr_and, zr_dyn8, zr_or, zr_shl, q_cpy_n, y_cpy26]
            exact fin _
  exact loop h o D M _ rfl q_ufr_rf hK
