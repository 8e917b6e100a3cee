/-! THE CLASS'S CHOICE, at any place c: its rooms c + 1, who is in what c + 2, how they like c + 4 + p, are wanted c + 11 + p, sent c + 17 -/
theorem sp_housed {d : Nat} {g : q_G} {M : q_M} {c : Nat} {b : Int} (h0 : 0 ≤ M c 5) (h5 : M c 5 ≤ 5) (Q : Option q_V → q_G → q_M → Prop) : q_S 1 d 4 [qR 0 c, qI b] g M Q = Q (some (qI (F_cnt (M (c + 2)) b (M c 5).toNat))) g M := by
  refine q_S_eq (fun Q hq => ?_) Q
  rw [s_X0_housed]
  have loop : ∀ k p : Nat, p + k = (M c 5).toNat → q_T 1 d qP_X0_housed 4 [] [qR 0 c, qI b, qI (F_cnt (M (c + 2)) b p), qI p] [] g M Q := by
    intro k
    induction k with
    | zero =>
      intro p hp
      have e : p = (M c 5).toNat := by omega
      subst e
      rw [b_X0_housed_4]
      simp (disch := omega) only [b_X0_housed_0, x_iconst, x_storeI_2, x_storeI_3, x_loadI_3, x_loadR_0, x_loadS_0, f_0_5, y_ic_ge_t, y_ic_ge_f, b_X0_housed_12, x_loadI_2, f_0_1, y_iald_26, x_loadI_1, y_ic_ne_t, y_ic_ne_f, b_X0_housed_23, x_goto, b_X0_housed_27, b_X0_housed_28, x_iadd, x_iinc_3, b_X0_housed_36, x_ret0, q_isL_I, q_isL_R, q_isL_S, true_and, and_true, and_self, List.length_nil, List.length_cons, Nat.zero_add, x_K, x_Kn, Int.reduceToNat, Nat.reduceAdd, Nat.reduceMul, Nat.reduceLeDiff, Nat.reduceLT, Nat.zero_le, Int.reduceAdd, Int.reduceSub, Int.reduceMul, Int.reduceNeg, q_add_e, q_sub_e, q_mul_e, q_neg_e, q_upd_s, q_upd_n, zr_shr0, zr_shr1, zr_shr2, zr_shr3, zr_shr4, zr_and, zr_dyn8, zr_or, zr_shl, q_cpy_n, y_cpy26]
      exact hq
    | succ k ih =>
      intro p hp
      have hc := F_cnt_le (M (c + 2)) b p
      have h9 := ih (p + 1) (by omega)
      rw [F_cnt] at h9
      rw [b_X0_housed_4]
      by_cases he : M (c + 2) p = b
      · rw [if_pos he] at h9
        simp (disch := omega) only [b_X0_housed_0, x_iconst, x_storeI_2, x_storeI_3, x_loadI_3, x_loadR_0, x_loadS_0, f_0_5, y_ic_ge_t, y_ic_ge_f, b_X0_housed_12, x_loadI_2, f_0_1, y_iald_26, x_loadI_1, y_ic_ne_t, y_ic_ne_f, b_X0_housed_23, x_goto, b_X0_housed_27, b_X0_housed_28, x_iadd, x_iinc_3, b_X0_housed_36, x_ret0, q_isL_I, q_isL_R, q_isL_S, true_and, and_true, and_self, List.length_nil, List.length_cons, Nat.zero_add, x_K, x_Kn, Int.reduceToNat, Nat.reduceAdd, Nat.reduceMul, Nat.reduceLeDiff, Nat.reduceLT, Nat.zero_le, Int.reduceAdd, Int.reduceSub, Int.reduceMul, Int.reduceNeg, q_add_e, q_sub_e, q_mul_e, q_neg_e, q_upd_s, q_upd_n, zr_shr0, zr_shr1, zr_shr2, zr_shr3, zr_shr4, zr_and, zr_dyn8, zr_or, zr_shl, q_cpy_n, y_cpy26, Int.toNat_natCast]
        exact h9
      · rw [if_neg he] at h9
        simp (disch := omega) only [b_X0_housed_0, x_iconst, x_storeI_2, x_storeI_3, x_loadI_3, x_loadR_0, x_loadS_0, f_0_5, y_ic_ge_t, y_ic_ge_f, b_X0_housed_12, x_loadI_2, f_0_1, y_iald_26, x_loadI_1, y_ic_ne_t, y_ic_ne_f, b_X0_housed_23, x_goto, b_X0_housed_27, b_X0_housed_28, x_iadd, x_iinc_3, b_X0_housed_36, x_ret0, q_isL_I, q_isL_R, q_isL_S, true_and, and_true, and_self, List.length_nil, List.length_cons, Nat.zero_add, x_K, x_Kn, Int.reduceToNat, Nat.reduceAdd, Nat.reduceMul, Nat.reduceLeDiff, Nat.reduceLT, Nat.zero_le, Int.reduceAdd, Int.reduceSub, Int.reduceMul, Int.reduceNeg, q_add_e, q_sub_e, q_mul_e, q_neg_e, q_upd_s, q_upd_n, zr_shr0, zr_shr1, zr_shr2, zr_shr3, zr_shr4, zr_and, zr_dyn8, zr_or, zr_shl, q_cpy_n, y_cpy26, Int.toNat_natCast]
        exact h9
  simp (disch := omega) only [b_X0_housed_0, x_iconst, x_storeI_2, x_storeI_3, x_loadI_3, x_loadR_0, x_loadS_0, f_0_5, y_ic_ge_t, y_ic_ge_f, b_X0_housed_12, x_loadI_2, f_0_1, y_iald_26, x_loadI_1, y_ic_ne_t, y_ic_ne_f, b_X0_housed_23, x_goto, b_X0_housed_27, b_X0_housed_28, x_iadd, x_iinc_3, b_X0_housed_36, x_ret0, q_isL_I, q_isL_R, q_isL_S, true_and, and_true, and_self, List.length_nil, List.length_cons, Nat.zero_add, x_K, x_Kn, Int.reduceToNat, Nat.reduceAdd, Nat.reduceMul, Nat.reduceLeDiff, Nat.reduceLT, Nat.zero_le, Int.reduceAdd, Int.reduceSub, Int.reduceMul, Int.reduceNeg, q_add_e, q_sub_e, q_mul_e, q_neg_e, q_upd_s, q_upd_n, zr_shr0, zr_shr1, zr_shr2, zr_shr3, zr_shr4, zr_and, zr_dyn8, zr_or, zr_shl, q_cpy_n, y_cpy26]
  exact loop (M c 5).toNat 0 (by omega)
theorem sp_inNone {d : Nat} {g : q_G} {M : q_M} {c : Nat} (h0 : 0 ≤ M c 5) (h5 : M c 5 ≤ 5) (Q : Option q_V → q_G → q_M → Prop) : q_S 1 (d + 1) 3 [qR 0 c] g M Q = Q (some (qI (F_cnt (M (c + 2)) 5 (M c 5).toNat))) g M := by
  rw [s_X0_inNone]
  simp (disch := omega) only [b_X0_inNone_0, x_loadR_0, x_loadS_0, x_iconst, x_ret0, q_isL_I, q_isL_R, q_isL_S, true_and, and_true, and_self, List.length_nil, List.length_cons, Nat.zero_add, x_K, x_Kn, Int.reduceToNat, Nat.reduceAdd, Nat.reduceMul, Nat.reduceLeDiff, Nat.reduceLT, Nat.zero_le, Int.reduceAdd, Int.reduceSub, Int.reduceMul, Int.reduceNeg, q_add_e, q_sub_e, q_mul_e, q_neg_e, q_upd_s, q_upd_n, zr_shr0, zr_shr1, zr_shr2, zr_shr3, zr_shr4, zr_and, zr_dyn8, zr_or, zr_shl, q_cpy_n, y_cpy26, c_X0_housed, sp_housed]
theorem sp_housedBits {d : Nat} {g : q_G} {M : q_M} {c : Nat} {b : Int} (h0 : 0 ≤ M c 5) (h5 : M c 5 ≤ 5) (Q : Option q_V → q_G → q_M → Prop) : q_S 1 d 5 [qR 0 c, qI b] g M Q = Q (some (qI (F_bits (M (c + 2)) b (M c 5).toNat))) g M := by
  refine q_S_eq (fun Q hq => ?_) Q
  rw [s_X0_housedBits]
  have loop : ∀ k p : Nat, p + k = (M c 5).toNat → q_T 1 d qP_X0_housedBits 4 [] [qR 0 c, qI b, qI (F_bits (M (c + 2)) b p), qI p] [] g M Q := by
    intro k
    induction k with
    | zero =>
      intro p hp
      have e : p = (M c 5).toNat := by omega
      subst e
      rw [b_X0_housedBits_4]
      simp (disch := omega) only [b_X0_housedBits_0, x_iconst, x_storeI_2, x_storeI_3, x_loadI_3, x_loadR_0, x_loadS_0, f_0_5, y_ic_ge_t, y_ic_ge_f, b_X0_housedBits_12, x_loadI_2, f_0_1, y_iald_26, x_loadI_1, y_ic_ne_t, y_ic_ne_f, b_X0_housedBits_23, x_ishl, x_goto, b_X0_housedBits_29, b_X0_housedBits_30, x_ior, x_iinc_3, b_X0_housedBits_38, x_ret0, q_isL_I, q_isL_R, q_isL_S, true_and, and_true, and_self, List.length_nil, List.length_cons, Nat.zero_add, x_K, x_Kn, Int.reduceToNat, Nat.reduceAdd, Nat.reduceMul, Nat.reduceLeDiff, Nat.reduceLT, Nat.zero_le, Int.reduceAdd, Int.reduceSub, Int.reduceMul, Int.reduceNeg, q_add_e, q_sub_e, q_mul_e, q_neg_e, q_upd_s, q_upd_n, zr_shr0, zr_shr1, zr_shr2, zr_shr3, zr_shr4, zr_and, zr_dyn8, zr_or, zr_shl, q_cpy_n, y_cpy26]
      exact hq
    | succ k ih =>
      intro p hp
      have h9 := ih (p + 1) (by omega)
      rw [F_bits] at h9
      rw [b_X0_housedBits_4]
      by_cases he : M (c + 2) p = b
      · rw [if_pos he] at h9
        simp (disch := omega) only [b_X0_housedBits_0, x_iconst, x_storeI_2, x_storeI_3, x_loadI_3, x_loadR_0, x_loadS_0, f_0_5, y_ic_ge_t, y_ic_ge_f, b_X0_housedBits_12, x_loadI_2, f_0_1, y_iald_26, x_loadI_1, y_ic_ne_t, y_ic_ne_f, b_X0_housedBits_23, x_ishl, x_goto, b_X0_housedBits_29, b_X0_housedBits_30, x_ior, x_iinc_3, b_X0_housedBits_38, x_ret0, q_isL_I, q_isL_R, q_isL_S, true_and, and_true, and_self, List.length_nil, List.length_cons, Nat.zero_add, x_K, x_Kn, Int.reduceToNat, Nat.reduceAdd, Nat.reduceMul, Nat.reduceLeDiff, Nat.reduceLT, Nat.zero_le, Int.reduceAdd, Int.reduceSub, Int.reduceMul, Int.reduceNeg, q_add_e, q_sub_e, q_mul_e, q_neg_e, q_upd_s, q_upd_n, zr_shr0, zr_shr1, zr_shr2, zr_shr3, zr_shr4, zr_and, zr_dyn8, zr_or, zr_shl, q_cpy_n, y_cpy26, Int.toNat_natCast]
        exact h9
      · rw [if_neg he] at h9
        simp (disch := omega) only [b_X0_housedBits_0, x_iconst, x_storeI_2, x_storeI_3, x_loadI_3, x_loadR_0, x_loadS_0, f_0_5, y_ic_ge_t, y_ic_ge_f, b_X0_housedBits_12, x_loadI_2, f_0_1, y_iald_26, x_loadI_1, y_ic_ne_t, y_ic_ne_f, b_X0_housedBits_23, x_ishl, x_goto, b_X0_housedBits_29, b_X0_housedBits_30, x_ior, x_iinc_3, b_X0_housedBits_38, x_ret0, q_isL_I, q_isL_R, q_isL_S, true_and, and_true, and_self, List.length_nil, List.length_cons, Nat.zero_add, x_K, x_Kn, Int.reduceToNat, Nat.reduceAdd, Nat.reduceMul, Nat.reduceLeDiff, Nat.reduceLT, Nat.zero_le, Int.reduceAdd, Int.reduceSub, Int.reduceMul, Int.reduceNeg, q_add_e, q_sub_e, q_mul_e, q_neg_e, q_upd_s, q_upd_n, zr_shr0, zr_shr1, zr_shr2, zr_shr3, zr_shr4, zr_and, zr_dyn8, zr_or, zr_shl, q_cpy_n, y_cpy26, Int.toNat_natCast]
        exact h9
  simp (disch := omega) only [b_X0_housedBits_0, x_iconst, x_storeI_2, x_storeI_3, x_loadI_3, x_loadR_0, x_loadS_0, f_0_5, y_ic_ge_t, y_ic_ge_f, b_X0_housedBits_12, x_loadI_2, f_0_1, y_iald_26, x_loadI_1, y_ic_ne_t, y_ic_ne_f, b_X0_housedBits_23, x_ishl, x_goto, b_X0_housedBits_29, b_X0_housedBits_30, x_ior, x_iinc_3, b_X0_housedBits_38, x_ret0, q_isL_I, q_isL_R, q_isL_S, true_and, and_true, and_self, List.length_nil, List.length_cons, Nat.zero_add, x_K, x_Kn, Int.reduceToNat, Nat.reduceAdd, Nat.reduceMul, Nat.reduceLeDiff, Nat.reduceLT, Nat.zero_le, Int.reduceAdd, Int.reduceSub, Int.reduceMul, Int.reduceNeg, q_add_e, q_sub_e, q_mul_e, q_neg_e, q_upd_s, q_upd_n, zr_shr0, zr_shr1, zr_shr2, zr_shr3, zr_shr4, zr_and, zr_dyn8, zr_or, zr_shl, q_cpy_n, y_cpy26]
  exact loop (M c 5).toNat 0 (by omega)
theorem sp_digits {d : Nat} {g : q_G} {M : q_M} {c : Nat} (h0 : 0 ≤ M c 5) (h5 : M c 5 ≤ 5) (hf : ∀ i, 0 ≤ M (c + 2) i ∧ M (c + 2) i ≤ 5) (Q : Option q_V → q_G → q_M → Prop) : q_S 1 d 6 [qR 0 c] g M Q = Q (some (qI (F_dig (M (c + 2)) (M c 5).toNat))) g M := by
  refine q_S_eq (fun Q hq => ?_) Q
  rw [s_X0_digits]
  have loop : ∀ k p : Nat, p + k = (M c 5).toNat → q_T 1 d qP_X0_digits 4 [] [qR 0 c, qI (F_dig (M (c + 2)) p), qI p] [] g M Q := by
    intro k
    induction k with
    | zero =>
      intro p hp
      have e : p = (M c 5).toNat := by omega
      subst e
      rw [b_X0_digits_4]
      simp (disch := omega) only [b_X0_digits_0, x_iconst, x_storeI_1, x_storeI_2, x_loadI_2, x_loadR_0, x_loadS_0, f_0_5, y_ic_ge_t, y_ic_ge_f, b_X0_digits_12, x_loadI_1, x_imul, f_0_1, y_iald_26, y_ic_ne_t, y_ic_ne_f, b_X0_digits_26, x_goto, b_X0_digits_30, x_iadd, b_X0_digits_38, x_iinc_2, b_X0_digits_46, x_ret0, q_isL_I, q_isL_R, q_isL_S, true_and, and_true, and_self, List.length_nil, List.length_cons, Nat.zero_add, x_K, x_Kn, Int.reduceToNat, Nat.reduceAdd, Nat.reduceMul, Nat.reduceLeDiff, Nat.reduceLT, Nat.zero_le, Int.reduceAdd, Int.reduceSub, Int.reduceMul, Int.reduceNeg, q_add_e, q_sub_e, q_mul_e, q_neg_e, q_upd_s, q_upd_n, zr_shr0, zr_shr1, zr_shr2, zr_shr3, zr_shr4, zr_and, zr_dyn8, zr_or, zr_shl, q_cpy_n, y_cpy26]
      exact hq
    | succ k ih =>
      intro p hp
      have hc := F_dig_le (M (c + 2)) hf p (by omega)
      have hp9 := hf p
      have h9 := ih (p + 1) (by omega)
      rw [F_dig] at h9
      rw [b_X0_digits_4]
      by_cases he : M (c + 2) p = 5
      · rw [if_pos he] at h9
        simp (disch := omega) only [b_X0_digits_0, x_iconst, x_storeI_1, x_storeI_2, x_loadI_2, x_loadR_0, x_loadS_0, f_0_5, y_ic_ge_t, y_ic_ge_f, b_X0_digits_12, x_loadI_1, x_imul, f_0_1, y_iald_26, y_ic_ne_t, y_ic_ne_f, b_X0_digits_26, x_goto, b_X0_digits_30, x_iadd, b_X0_digits_38, x_iinc_2, b_X0_digits_46, x_ret0, q_isL_I, q_isL_R, q_isL_S, true_and, and_true, and_self, List.length_nil, List.length_cons, Nat.zero_add, x_K, x_Kn, Int.reduceToNat, Nat.reduceAdd, Nat.reduceMul, Nat.reduceLeDiff, Nat.reduceLT, Nat.zero_le, Int.reduceAdd, Int.reduceSub, Int.reduceMul, Int.reduceNeg, q_add_e, q_sub_e, q_mul_e, q_neg_e, q_upd_s, q_upd_n, zr_shr0, zr_shr1, zr_shr2, zr_shr3, zr_shr4, zr_and, zr_dyn8, zr_or, zr_shl, q_cpy_n, y_cpy26, Int.toNat_natCast]
        exact h9
      · rw [if_neg he] at h9
        simp (disch := omega) only [b_X0_digits_0, x_iconst, x_storeI_1, x_storeI_2, x_loadI_2, x_loadR_0, x_loadS_0, f_0_5, y_ic_ge_t, y_ic_ge_f, b_X0_digits_12, x_loadI_1, x_imul, f_0_1, y_iald_26, y_ic_ne_t, y_ic_ne_f, b_X0_digits_26, x_goto, b_X0_digits_30, x_iadd, b_X0_digits_38, x_iinc_2, b_X0_digits_46, x_ret0, q_isL_I, q_isL_R, q_isL_S, true_and, and_true, and_self, List.length_nil, List.length_cons, Nat.zero_add, x_K, x_Kn, Int.reduceToNat, Nat.reduceAdd, Nat.reduceMul, Nat.reduceLeDiff, Nat.reduceLT, Nat.zero_le, Int.reduceAdd, Int.reduceSub, Int.reduceMul, Int.reduceNeg, q_add_e, q_sub_e, q_mul_e, q_neg_e, q_upd_s, q_upd_n, zr_shr0, zr_shr1, zr_shr2, zr_shr3, zr_shr4, zr_and, zr_dyn8, zr_or, zr_shl, q_cpy_n, y_cpy26, Int.toNat_natCast]
        exact h9
  simp (disch := omega) only [b_X0_digits_0, x_iconst, x_storeI_1, x_storeI_2, x_loadI_2, x_loadR_0, x_loadS_0, f_0_5, y_ic_ge_t, y_ic_ge_f, b_X0_digits_12, x_loadI_1, x_imul, f_0_1, y_iald_26, y_ic_ne_t, y_ic_ne_f, b_X0_digits_26, x_goto, b_X0_digits_30, x_iadd, b_X0_digits_38, x_iinc_2, b_X0_digits_46, x_ret0, q_isL_I, q_isL_R, q_isL_S, true_and, and_true, and_self, List.length_nil, List.length_cons, Nat.zero_add, x_K, x_Kn, Int.reduceToNat, Nat.reduceAdd, Nat.reduceMul, Nat.reduceLeDiff, Nat.reduceLT, Nat.zero_le, Int.reduceAdd, Int.reduceSub, Int.reduceMul, Int.reduceNeg, q_add_e, q_sub_e, q_mul_e, q_neg_e, q_upd_s, q_upd_n, zr_shr0, zr_shr1, zr_shr2, zr_shr3, zr_shr4, zr_and, zr_dyn8, zr_or, zr_shl, q_cpy_n, y_cpy26]
  exact loop (M c 5).toNat 0 (by omega)
/-! how much one likes its building, or is wanted: rows L p of buildings -/
def F_sum (L : Nat → Nat → Int) (f : Nat → Int) : Nat → Int
  | 0 => 0
  | n + 1 => F_sum L f n + L n (f n).toNat
theorem F_sum_le {L : Nat → Nat → Int} {f : Nat → Int} (hL : ∀ p b, -1000 ≤ L p b ∧ L p b ≤ 1000) : ∀ n : Nat, -1000 * n ≤ F_sum L f n ∧ F_sum L f n ≤ 1000 * n
  | 0 => by rw [F_sum]; omega
  | n + 1 => by
    have h := F_sum_le (f := f) hL n
    have h2 := hL n (f n).toNat
    rw [F_sum]
    omega
theorem sp_liked {d : Nat} {g : q_G} {M : q_M} {c : Nat} (h0 : 0 ≤ M c 5) (h5 : M c 5 ≤ 5) (hf : ∀ i, 0 ≤ M (c + 2) i ∧ M (c + 2) i ≤ 5) (hL : ∀ p b, -1000 ≤ M (c + 3 + (1 + p)) b ∧ M (c + 3 + (1 + p)) b ≤ 1000) (Q : Option q_V → q_G → q_M → Prop) : q_S 1 d 7 [qR 0 c] g M Q = Q (some (qI (F_sum (fun p => M (c + 3 + (1 + p))) (M (c + 2)) (M c 5).toNat))) g M := by
  refine q_S_eq (fun Q hq => ?_) Q
  rw [s_X0_liked]
  have loop : ∀ k p : Nat, p + k = (M c 5).toNat → q_T 1 d qP_X0_liked 4 [] [qR 0 c, qI (F_sum (fun p => M (c + 3 + (1 + p))) (M (c + 2)) p), qI p] [] g M Q := by
    intro k
    induction k with
    | zero =>
      intro p hp
      have e : p = (M c 5).toNat := by omega
      subst e
      rw [b_X0_liked_4]
      simp (disch := omega) only [b_X0_liked_0, x_iconst, x_storeI_1, x_storeI_2, x_loadI_2, x_loadR_0, x_loadS_0, f_0_5, y_ic_ge_t, y_ic_ge_f, b_X0_liked_12, x_loadI_1, f_0_2, y_aald7, f_0_1, y_iald_26, x_iadd, x_iinc_2, x_goto, b_X0_liked_34, x_ret0, q_isL_I, q_isL_R, q_isL_S, true_and, and_true, and_self, List.length_nil, List.length_cons, Nat.zero_add, x_K, x_Kn, Int.reduceToNat, Nat.reduceAdd, Nat.reduceMul, Nat.reduceLeDiff, Nat.reduceLT, Nat.zero_le, Int.reduceAdd, Int.reduceSub, Int.reduceMul, Int.reduceNeg, q_add_e, q_sub_e, q_mul_e, q_neg_e, q_upd_s, q_upd_n, zr_shr0, zr_shr1, zr_shr2, zr_shr3, zr_shr4, zr_and, zr_dyn8, zr_or, zr_shl, q_cpy_n, y_cpy26]
      exact hq
    | succ k ih =>
      intro p hp
      have hc := F_sum_le (L := fun p => M (c + 3 + (1 + p))) (f := M (c + 2)) hL p
      have hp9 := hf p
      have hl9 := hL p (M (c + 2) p).toNat
      have h9 := ih (p + 1) (by omega)
      rw [F_sum] at h9
      rw [b_X0_liked_4]
      simp (disch := omega) only [b_X0_liked_0, x_iconst, x_storeI_1, x_storeI_2, x_loadI_2, x_loadR_0, x_loadS_0, f_0_5, y_ic_ge_t, y_ic_ge_f, b_X0_liked_12, x_loadI_1, f_0_2, y_aald7, f_0_1, y_iald_26, x_iadd, x_iinc_2, x_goto, b_X0_liked_34, x_ret0, q_isL_I, q_isL_R, q_isL_S, true_and, and_true, and_self, List.length_nil, List.length_cons, Nat.zero_add, x_K, x_Kn, Int.reduceToNat, Nat.reduceAdd, Nat.reduceMul, Nat.reduceLeDiff, Nat.reduceLT, Nat.zero_le, Int.reduceAdd, Int.reduceSub, Int.reduceMul, Int.reduceNeg, q_add_e, q_sub_e, q_mul_e, q_neg_e, q_upd_s, q_upd_n, zr_shr0, zr_shr1, zr_shr2, zr_shr3, zr_shr4, zr_and, zr_dyn8, zr_or, zr_shl, q_cpy_n, y_cpy26, Int.toNat_natCast]
      exact h9
  simp (disch := omega) only [b_X0_liked_0, x_iconst, x_storeI_1, x_storeI_2, x_loadI_2, x_loadR_0, x_loadS_0, f_0_5, y_ic_ge_t, y_ic_ge_f, b_X0_liked_12, x_loadI_1, f_0_2, y_aald7, f_0_1, y_iald_26, x_iadd, x_iinc_2, x_goto, b_X0_liked_34, x_ret0, q_isL_I, q_isL_R, q_isL_S, true_and, and_true, and_self, List.length_nil, List.length_cons, Nat.zero_add, x_K, x_Kn, Int.reduceToNat, Nat.reduceAdd, Nat.reduceMul, Nat.reduceLeDiff, Nat.reduceLT, Nat.zero_le, Int.reduceAdd, Int.reduceSub, Int.reduceMul, Int.reduceNeg, q_add_e, q_sub_e, q_mul_e, q_neg_e, q_upd_s, q_upd_n, zr_shr0, zr_shr1, zr_shr2, zr_shr3, zr_shr4, zr_and, zr_dyn8, zr_or, zr_shl, q_cpy_n, y_cpy26]
  exact loop (M c 5).toNat 0 (by omega)
theorem sp_wanted {d : Nat} {g : q_G} {M : q_M} {c : Nat} (h0 : 0 ≤ M c 5) (h5 : M c 5 ≤ 5) (hf : ∀ i, 0 ≤ M (c + 2) i ∧ M (c + 2) i ≤ 5) (hL : ∀ p b, -1000 ≤ M (c + 10 + (1 + p)) b ∧ M (c + 10 + (1 + p)) b ≤ 1000) (Q : Option q_V → q_G → q_M → Prop) : q_S 1 d 8 [qR 0 c] g M Q = Q (some (qI (F_sum (fun p => M (c + 10 + (1 + p))) (M (c + 2)) (M c 5).toNat))) g M := by
  refine q_S_eq (fun Q hq => ?_) Q
  rw [s_X0_wanted]
  have loop : ∀ k p : Nat, p + k = (M c 5).toNat → q_T 1 d qP_X0_wanted 4 [] [qR 0 c, qI (F_sum (fun p => M (c + 10 + (1 + p))) (M (c + 2)) p), qI p] [] g M Q := by
    intro k
    induction k with
    | zero =>
      intro p hp
      have e : p = (M c 5).toNat := by omega
      subst e
      rw [b_X0_wanted_4]
      simp (disch := omega) only [b_X0_wanted_0, x_iconst, x_storeI_1, x_storeI_2, x_loadI_2, x_loadR_0, x_loadS_0, f_0_5, y_ic_ge_t, y_ic_ge_f, b_X0_wanted_12, x_loadI_1, f_0_3, y_aald7, f_0_1, y_iald_26, x_iadd, x_iinc_2, x_goto, b_X0_wanted_34, x_ret0, q_isL_I, q_isL_R, q_isL_S, true_and, and_true, and_self, List.length_nil, List.length_cons, Nat.zero_add, x_K, x_Kn, Int.reduceToNat, Nat.reduceAdd, Nat.reduceMul, Nat.reduceLeDiff, Nat.reduceLT, Nat.zero_le, Int.reduceAdd, Int.reduceSub, Int.reduceMul, Int.reduceNeg, q_add_e, q_sub_e, q_mul_e, q_neg_e, q_upd_s, q_upd_n, zr_shr0, zr_shr1, zr_shr2, zr_shr3, zr_shr4, zr_and, zr_dyn8, zr_or, zr_shl, q_cpy_n, y_cpy26]
      exact hq
    | succ k ih =>
      intro p hp
      have hc := F_sum_le (L := fun p => M (c + 10 + (1 + p))) (f := M (c + 2)) hL p
      have hp9 := hf p
      have hl9 := hL p (M (c + 2) p).toNat
      have h9 := ih (p + 1) (by omega)
      rw [F_sum] at h9
      rw [b_X0_wanted_4]
      simp (disch := omega) only [b_X0_wanted_0, x_iconst, x_storeI_1, x_storeI_2, x_loadI_2, x_loadR_0, x_loadS_0, f_0_5, y_ic_ge_t, y_ic_ge_f, b_X0_wanted_12, x_loadI_1, f_0_3, y_aald7, f_0_1, y_iald_26, x_iadd, x_iinc_2, x_goto, b_X0_wanted_34, x_ret0, q_isL_I, q_isL_R, q_isL_S, true_and, and_true, and_self, List.length_nil, List.length_cons, Nat.zero_add, x_K, x_Kn, Int.reduceToNat, Nat.reduceAdd, Nat.reduceMul, Nat.reduceLeDiff, Nat.reduceLT, Nat.zero_le, Int.reduceAdd, Int.reduceSub, Int.reduceMul, Int.reduceNeg, q_add_e, q_sub_e, q_mul_e, q_neg_e, q_upd_s, q_upd_n, zr_shr0, zr_shr1, zr_shr2, zr_shr3, zr_shr4, zr_and, zr_dyn8, zr_or, zr_shl, q_cpy_n, y_cpy26, Int.toNat_natCast]
      exact h9
  simp (disch := omega) only [b_X0_wanted_0, x_iconst, x_storeI_1, x_storeI_2, x_loadI_2, x_loadR_0, x_loadS_0, f_0_5, y_ic_ge_t, y_ic_ge_f, b_X0_wanted_12, x_loadI_1, f_0_3, y_aald7, f_0_1, y_iald_26, x_iadd, x_iinc_2, x_goto, b_X0_wanted_34, x_ret0, q_isL_I, q_isL_R, q_isL_S, true_and, and_true, and_self, List.length_nil, List.length_cons, Nat.zero_add, x_K, x_Kn, Int.reduceToNat, Nat.reduceAdd, Nat.reduceMul, Nat.reduceLeDiff, Nat.reduceLT, Nat.zero_le, Int.reduceAdd, Int.reduceSub, Int.reduceMul, Int.reduceNeg, q_add_e, q_sub_e, q_mul_e, q_neg_e, q_upd_s, q_upd_n, zr_shr0, zr_shr1, zr_shr2, zr_shr3, zr_shr4, zr_and, zr_dyn8, zr_or, zr_shl, q_cpy_n, y_cpy26]
  exact loop (M c 5).toNat 0 (by omega)
