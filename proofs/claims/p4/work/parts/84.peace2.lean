/-! THE CLASS'S ENTRIES: peace, answered of its own cells -/
def q_pcA (M : q_M) (c : Nat) (wt : Int) : Int := if wt = 0 then F_cmp (q_Lk M c) (q_Tk M c) (M (c + 2)) (M c 5).toNat 0 else if wt = 1 then F_sum (fun p => M (c + 3 + (1 + p))) (M (c + 2)) (M c 5).toNat else F_sum (fun p => M (c + 10 + (1 + p))) (M (c + 2)) (M c 5).toNat
theorem sp_peaceF {d : Nat} {g : q_G} {M : q_M} {wt : Int} {Q : Option q_V → q_G → q_M → Prop} (h : wt < 0 ∨ 2 < wt) (hq : Q (some (qI (-100000))) g M) : q_S 1 d 77 [qR 5 0, qI wt] g M Q := by
  rw [s_X5_peace]
  rcases h with h | h
  · simp (disch := omega) only [b_X5_peace_0, x_loadI_1, y_if_lt_t, y_if_lt_f, b_X5_peace_4, x_iconst, y_ic_le_t, y_ic_le_f, b_X5_peace_9, x_ret0, b_X5_peace_12, x_loadR_0, x_loadS_0, f_5_3, tw_6_0, tw_6_1, tw_6_o, b_X5_peace_48, f_4_0, b_X5_peace_59, b_X5_peace_70, q_isL_I, q_isL_R, q_isL_S, true_and, and_true, and_self, List.length_nil, List.length_cons, Nat.zero_add, x_K, x_Kn, Int.reduceToNat, Nat.reduceAdd, Nat.reduceMul, Nat.reduceLeDiff, Nat.reduceLT, Nat.zero_le, Int.reduceAdd, Int.reduceSub, Int.reduceMul, Int.reduceNeg, q_add_e, q_sub_e, q_mul_e, q_neg_e, q_upd_s, q_upd_n, zr_shr0, zr_shr1, zr_shr2, zr_shr3, zr_shr4, zr_and, zr_dyn8, zr_or, zr_shl, q_cpy_n, y_cpy26]
    exact hq
  · simp (disch := omega) only [b_X5_peace_0, x_loadI_1, y_if_lt_t, y_if_lt_f, b_X5_peace_4, x_iconst, y_ic_le_t, y_ic_le_f, b_X5_peace_9, x_ret0, b_X5_peace_12, x_loadR_0, x_loadS_0, f_5_3, tw_6_0, tw_6_1, tw_6_o, b_X5_peace_48, f_4_0, b_X5_peace_59, b_X5_peace_70, q_isL_I, q_isL_R, q_isL_S, true_and, and_true, and_self, List.length_nil, List.length_cons, Nat.zero_add, x_K, x_Kn, Int.reduceToNat, Nat.reduceAdd, Nat.reduceMul, Nat.reduceLeDiff, Nat.reduceLT, Nat.zero_le, Int.reduceAdd, Int.reduceSub, Int.reduceMul, Int.reduceNeg, q_add_e, q_sub_e, q_mul_e, q_neg_e, q_upd_s, q_upd_n, zr_shr0, zr_shr1, zr_shr2, zr_shr3, zr_shr4, zr_and, zr_dyn8, zr_or, zr_shl, q_cpy_n, y_cpy26]
    exact hq
set_option maxHeartbeats 4000000 in
theorem sp_peace {V : Nat → (Nat → Int) → Int} {d : Nat} {g : q_G} {M : q_M} {ta : Nat} {wt : Int} {Q : Option q_V → q_G → q_M → Prop} (hw : q_wl V M 11 ta) (hz : ∀ p, p < 5 → M (11 + 1 + 3 + (1 + p)) 5 = 0) (hz2 : ∀ p, p < 5 → M (11 + 1 + 10 + (1 + p)) 5 = 0) (hwt : 0 ≤ wt ∧ wt ≤ 2) (hq : ∀ M2 : q_M, q_tel 11 ta M M2 → (∀ p b, p < (M (11 + 1) 5).toNat → b < 5 → q_tld V 11 (cW M 11) M2 p b) → Q (some (qI (q_pcA M2 12 wt))) g M2) : q_S 1 (d + 4) 77 [qR 5 0, qI wt] g M Q := by
  have tell : ∀ (nx : Nat) (ops : List Instr) (ls st : List q_V), (∀ M2 : q_M, q_tel 11 ta M M2 → (∀ p b, p < (M (11 + 1) 5).toNat → b < 5 → q_tld V 11 (cW M 11) M2 p b) → q_T 1 (d + 4) qP_X5_peace nx ops ls st g M2 Q) → q_S 1 (d + 3) 57 [qR 4 11] g M (q_K 1 (d + 4) qP_X5_peace nx ops ls st Q) := fun nx ops ls st h => sp_tellAll hw h
  rw [s_X5_peace]
  simp (disch := omega) only [b_X5_peace_0, x_loadI_1, y_if_lt_t, y_if_lt_f, b_X5_peace_4, x_iconst, y_ic_le_t, y_ic_le_f, b_X5_peace_9, x_ret0, b_X5_peace_12, x_loadR_0, x_loadS_0, f_5_3, tw_6_0, tw_6_1, tw_6_o, b_X5_peace_48, f_4_0, b_X5_peace_59, b_X5_peace_70, q_isL_I, q_isL_R, q_isL_S, true_and, and_true, and_self, List.length_nil, List.length_cons, Nat.zero_add, x_K, x_Kn, Int.reduceToNat, Nat.reduceAdd, Nat.reduceMul, Nat.reduceLeDiff, Nat.reduceLT, Nat.zero_le, Int.reduceAdd, Int.reduceSub, Int.reduceMul, Int.reduceNeg, q_add_e, q_sub_e, q_mul_e, q_neg_e, q_upd_s, q_upd_n, zr_shr0, zr_shr1, zr_shr2, zr_shr3, zr_shr4, zr_and, zr_dyn8, zr_or, zr_shl, q_cpy_n, y_cpy26, c_X4_tellAll]
  refine tell _ _ _ _ (fun M2 h2 h3 => ?_)
  have w2 := q_tel_wl h2 hw
  have bL := q_tld_L h2 hw.1.1.2 hw.2.2.2.2.2 hz h3
  have bW := q_tld_W hw h2 hz2 h3
  have a := hq M2 h2 h3
  have n0 : 0 ≤ M2 12 5 := w2.1.1.1
  have n5 : M2 12 5 ≤ 5 := w2.1.1.2
  have hin : ∀ i, 0 ≤ M2 (12 + 2) i ∧ M2 (12 + 2) i ≤ 5 := w2.1.2.2.2.2.2.2.1
  unfold q_pcA at a
  rcases (show wt = 0 ∨ wt = 1 ∨ wt = 2 by omega) with k | k | k
  · subst k
    rw [if_pos rfl] at a
    simp (disch := omega) only [b_X5_peace_0, x_loadI_1, y_if_lt_t, y_if_lt_f, b_X5_peace_4, x_iconst, y_ic_le_t, y_ic_le_f, b_X5_peace_9, x_ret0, b_X5_peace_12, x_loadR_0, x_loadS_0, f_5_3, tw_6_0, tw_6_1, tw_6_o, b_X5_peace_48, f_4_0, b_X5_peace_59, b_X5_peace_70, q_isL_I, q_isL_R, q_isL_S, true_and, and_true, and_self, List.length_nil, List.length_cons, Nat.zero_add, x_K, x_Kn, Int.reduceToNat, Nat.reduceAdd, Nat.reduceMul, Nat.reduceLeDiff, Nat.reduceLT, Nat.zero_le, Int.reduceAdd, Int.reduceSub, Int.reduceMul, Int.reduceNeg, q_add_e, q_sub_e, q_mul_e, q_neg_e, q_upd_s, q_upd_n, zr_shr0, zr_shr1, zr_shr2, zr_shr3, zr_shr4, zr_and, zr_dyn8, zr_or, zr_shl, q_cpy_n, y_cpy26, c_X0_complaint]
    refine sp_complaint n0 n5 hin ?_
    simp (disch := omega) only [b_X5_peace_0, x_loadI_1, y_if_lt_t, y_if_lt_f, b_X5_peace_4, x_iconst, y_ic_le_t, y_ic_le_f, b_X5_peace_9, x_ret0, b_X5_peace_12, x_loadR_0, x_loadS_0, f_5_3, tw_6_0, tw_6_1, tw_6_o, b_X5_peace_48, f_4_0, b_X5_peace_59, b_X5_peace_70, q_isL_I, q_isL_R, q_isL_S, true_and, and_true, and_self, List.length_nil, List.length_cons, Nat.zero_add, x_K, x_Kn, Int.reduceToNat, Nat.reduceAdd, Nat.reduceMul, Nat.reduceLeDiff, Nat.reduceLT, Nat.zero_le, Int.reduceAdd, Int.reduceSub, Int.reduceMul, Int.reduceNeg, q_add_e, q_sub_e, q_mul_e, q_neg_e, q_upd_s, q_upd_n, zr_shr0, zr_shr1, zr_shr2, zr_shr3, zr_shr4, zr_and, zr_dyn8, zr_or, zr_shl, q_cpy_n, y_cpy26]
    exact a
  · subst k
    rw [if_neg (by decide), if_pos rfl] at a
    simp (disch := omega) only [b_X5_peace_0, x_loadI_1, y_if_lt_t, y_if_lt_f, b_X5_peace_4, x_iconst, y_ic_le_t, y_ic_le_f, b_X5_peace_9, x_ret0, b_X5_peace_12, x_loadR_0, x_loadS_0, f_5_3, tw_6_0, tw_6_1, tw_6_o, b_X5_peace_48, f_4_0, b_X5_peace_59, b_X5_peace_70, q_isL_I, q_isL_R, q_isL_S, true_and, and_true, and_self, List.length_nil, List.length_cons, Nat.zero_add, x_K, x_Kn, Int.reduceToNat, Nat.reduceAdd, Nat.reduceMul, Nat.reduceLeDiff, Nat.reduceLT, Nat.zero_le, Int.reduceAdd, Int.reduceSub, Int.reduceMul, Int.reduceNeg, q_add_e, q_sub_e, q_mul_e, q_neg_e, q_upd_s, q_upd_n, zr_shr0, zr_shr1, zr_shr2, zr_shr3, zr_shr4, zr_and, zr_dyn8, zr_or, zr_shl, q_cpy_n, y_cpy26, c_X0_liked]
    rw [sp_liked2 n0 n5 hin bL]
    simp (disch := omega) only [b_X5_peace_0, x_loadI_1, y_if_lt_t, y_if_lt_f, b_X5_peace_4, x_iconst, y_ic_le_t, y_ic_le_f, b_X5_peace_9, x_ret0, b_X5_peace_12, x_loadR_0, x_loadS_0, f_5_3, tw_6_0, tw_6_1, tw_6_o, b_X5_peace_48, f_4_0, b_X5_peace_59, b_X5_peace_70, q_isL_I, q_isL_R, q_isL_S, true_and, and_true, and_self, List.length_nil, List.length_cons, Nat.zero_add, x_K, x_Kn, Int.reduceToNat, Nat.reduceAdd, Nat.reduceMul, Nat.reduceLeDiff, Nat.reduceLT, Nat.zero_le, Int.reduceAdd, Int.reduceSub, Int.reduceMul, Int.reduceNeg, q_add_e, q_sub_e, q_mul_e, q_neg_e, q_upd_s, q_upd_n, zr_shr0, zr_shr1, zr_shr2, zr_shr3, zr_shr4, zr_and, zr_dyn8, zr_or, zr_shl, q_cpy_n, y_cpy26]
    exact a
  · subst k
    rw [if_neg (by decide), if_neg (by decide)] at a
    simp (disch := omega) only [b_X5_peace_0, x_loadI_1, y_if_lt_t, y_if_lt_f, b_X5_peace_4, x_iconst, y_ic_le_t, y_ic_le_f, b_X5_peace_9, x_ret0, b_X5_peace_12, x_loadR_0, x_loadS_0, f_5_3, tw_6_0, tw_6_1, tw_6_o, b_X5_peace_48, f_4_0, b_X5_peace_59, b_X5_peace_70, q_isL_I, q_isL_R, q_isL_S, true_and, and_true, and_self, List.length_nil, List.length_cons, Nat.zero_add, x_K, x_Kn, Int.reduceToNat, Nat.reduceAdd, Nat.reduceMul, Nat.reduceLeDiff, Nat.reduceLT, Nat.zero_le, Int.reduceAdd, Int.reduceSub, Int.reduceMul, Int.reduceNeg, q_add_e, q_sub_e, q_mul_e, q_neg_e, q_upd_s, q_upd_n, zr_shr0, zr_shr1, zr_shr2, zr_shr3, zr_shr4, zr_and, zr_dyn8, zr_or, zr_shl, q_cpy_n, y_cpy26, c_X0_wanted]
    rw [sp_wanted2 n0 n5 hin bW]
    simp (disch := omega) only [b_X5_peace_0, x_loadI_1, y_if_lt_t, y_if_lt_f, b_X5_peace_4, x_iconst, y_ic_le_t, y_ic_le_f, b_X5_peace_9, x_ret0, b_X5_peace_12, x_loadR_0, x_loadS_0, f_5_3, tw_6_0, tw_6_1, tw_6_o, b_X5_peace_48, f_4_0, b_X5_peace_59, b_X5_peace_70, q_isL_I, q_isL_R, q_isL_S, true_and, and_true, and_self, List.length_nil, List.length_cons, Nat.zero_add, x_K, x_Kn, Int.reduceToNat, Nat.reduceAdd, Nat.reduceMul, Nat.reduceLeDiff, Nat.reduceLT, Nat.zero_le, Int.reduceAdd, Int.reduceSub, Int.reduceMul, Int.reduceNeg, q_add_e, q_sub_e, q_mul_e, q_neg_e, q_upd_s, q_upd_n, zr_shr0, zr_shr1, zr_shr2, zr_shr3, zr_shr4, zr_and, zr_dyn8, zr_or, zr_shl, q_cpy_n, y_cpy26]
    exact a
