/-! THE CLASS'S CHOICE: all ask in turn, till nobody asks; whether all fit; the next way -/
set_option maxHeartbeats 4000000 in
theorem sp_askInTurn {d : Nat} {g : q_G} {M : q_M} {c : Nat} {x : (Nat → Int) × (Nat → Int)} {Q : Option q_V → q_G → q_M → Prop} (h0 : 0 ≤ M c 5) (h5 : M c 5 ≤ 5) (hL5 : ∀ p, p < 5 → M (c + 3 + (1 + p)) 5 = 0) (hq : Q none g (q_cM M c (F_turn (q_Lk M c) (q_Wn M c) (M (c + 1)) (M c 5).toNat 1000 (F_fr x)))) : q_S 1 (d + 4) 15 [qR 0 c] g (q_cM M c x) Q := by
  have loop : ∀ k i : Nat, i + k = 1000 → ∀ (x : (Nat → Int) × (Nat → Int)) (l3 l4 : q_V), q_isL l3 = false → q_isL l4 = false → Q none g (q_cM M c (F_turn (q_Lk M c) (q_Wn M c) (M (c + 1)) (M c 5).toNat k x)) → q_T 1 (d + 4) qP_X0_askInTurn 28 [] [qR 0 c, qI 1, qI i, l3, l4] [] g (q_cM M c x) Q := by
    intro k
    induction k with
    | zero =>
      intro i hi x l3 l4 hl3 hl4 hq
      rw [F_turn] at hq
      simp (disch := omega) only [b_X0_askInTurn_0, x_loadR_0, x_loadS_0, x_iconst, x_storeI_1, b_X0_askInTurn_6, x_loadI_1, y_ic_ge_t, y_ic_ge_f, b_X0_askInTurn_11, f_0_4, y_iast_26, x_iinc_1, x_goto, b_X0_askInTurn_24, x_storeI_2, b_X0_askInTurn_28, y_if_eq_t, y_if_eq_f, b_X0_askInTurn_32, x_loadI_2, x_storeI_3, b_X0_askInTurn_43, x_loadI_3, f_0_5, b_X0_askInTurn_51, f_0_1, y_iald_26, y_ic_ne_t, y_ic_ne_f, b_X0_askInTurn_61, b_X0_askInTurn_75, b_X0_askInTurn_76, x_storeI_4, x_loadI_4, y_ic_eq_t, y_ic_eq_f, b_X0_askInTurn_84, b_X0_askInTurn_93, x_iinc_3, b_X0_askInTurn_99, x_iinc_2, b_X0_askInTurn_105, x_vret, q_isL_I, q_isL_R, q_isL_S, true_and, and_true, and_self, List.length_nil, List.length_cons, Nat.zero_add, x_K, x_Kn, Int.reduceToNat, Nat.reduceAdd, Nat.reduceMul, Nat.reduceLeDiff, Nat.reduceLT, Nat.zero_le, Int.reduceAdd, Int.reduceSub, Int.reduceMul, Int.reduceNeg, q_add_e, q_sub_e, q_mul_e, q_neg_e, q_upd_s, q_upd_n, zr_shr0, zr_shr1, zr_shr2, zr_shr3, zr_shr4, zr_and, zr_dyn8, zr_or, zr_shl, q_cpy_n, y_cpy26]
      exact hq
    | succ k ih =>
      intro i hi x l3 l4 hl3 hl4 hq
      rw [F_turn] at hq
      rw [b_X0_askInTurn_28]
      simp (disch := omega) only [b_X0_askInTurn_0, x_loadR_0, x_loadS_0, x_iconst, x_storeI_1, b_X0_askInTurn_6, x_loadI_1, y_ic_ge_t, y_ic_ge_f, b_X0_askInTurn_11, f_0_4, y_iast_26, x_iinc_1, x_goto, b_X0_askInTurn_24, x_storeI_2, y_if_eq_t, y_if_eq_f, b_X0_askInTurn_32, x_loadI_2, x_storeI_3, b_X0_askInTurn_43, x_loadI_3, f_0_5, b_X0_askInTurn_51, f_0_1, y_iald_26, y_ic_ne_t, y_ic_ne_f, b_X0_askInTurn_61, b_X0_askInTurn_75, b_X0_askInTurn_76, x_storeI_4, x_loadI_4, y_ic_eq_t, y_ic_eq_f, b_X0_askInTurn_84, b_X0_askInTurn_93, x_iinc_3, b_X0_askInTurn_99, x_iinc_2, b_X0_askInTurn_105, x_vret, q_isL_I, q_isL_R, q_isL_S, true_and, and_true, and_self, List.length_nil, List.length_cons, Nat.zero_add, x_K, x_Kn, Int.reduceToNat, Nat.reduceAdd, Nat.reduceMul, Nat.reduceLeDiff, Nat.reduceLT, Nat.zero_le, Int.reduceAdd, Int.reduceSub, Int.reduceMul, Int.reduceNeg, q_add_e, q_sub_e, q_mul_e, q_neg_e, q_upd_s, q_upd_n, zr_shr0, zr_shr1, zr_shr2, zr_shr3, zr_shr4, zr_and, zr_dyn8, zr_or, zr_shl, q_cpy_n, y_cpy26]
      refine sp_round h0 h5 hL5 hl4 hl3 (fun l hl => ?_)
      by_cases c1 : (F_rd (q_Lk M c) (q_Wn M c) (M (c + 1)) (M c 5).toNat x (M c 5).toNat).1 = true
      · rw [if_pos c1] at hq
        simp (disch := omega) only [b_X0_askInTurn_0, x_loadR_0, x_loadS_0, x_iconst, x_storeI_1, b_X0_askInTurn_6, x_loadI_1, y_ic_ge_t, y_ic_ge_f, b_X0_askInTurn_11, f_0_4, y_iast_26, x_iinc_1, x_goto, b_X0_askInTurn_24, x_storeI_2, y_if_eq_t, y_if_eq_f, b_X0_askInTurn_32, x_loadI_2, x_storeI_3, b_X0_askInTurn_43, x_loadI_3, f_0_5, b_X0_askInTurn_51, f_0_1, y_iald_26, y_ic_ne_t, y_ic_ne_f, b_X0_askInTurn_61, b_X0_askInTurn_75, b_X0_askInTurn_76, x_storeI_4, x_loadI_4, y_ic_eq_t, y_ic_eq_f, b_X0_askInTurn_84, b_X0_askInTurn_93, x_iinc_3, b_X0_askInTurn_99, x_iinc_2, b_X0_askInTurn_105, x_vret, q_isL_I, q_isL_R, q_isL_S, true_and, and_true, and_self, List.length_nil, List.length_cons, Nat.zero_add, x_K, x_Kn, Int.reduceToNat, Nat.reduceAdd, Nat.reduceMul, Nat.reduceLeDiff, Nat.reduceLT, Nat.zero_le, Int.reduceAdd, Int.reduceSub, Int.reduceMul, Int.reduceNeg, q_add_e, q_sub_e, q_mul_e, q_neg_e, q_upd_s, q_upd_n, zr_shr0, zr_shr1, zr_shr2, zr_shr3, zr_shr4, zr_and, zr_dyn8, zr_or, zr_shl, q_cpy_n, y_cpy26, c1, if_true]
        exact ih (i + 1) (by omega) _ _ l rfl hl hq
      · rw [if_neg c1] at hq
        simp (disch := omega) only [b_X0_askInTurn_0, x_loadR_0, x_loadS_0, x_iconst, x_storeI_1, b_X0_askInTurn_6, x_loadI_1, y_ic_ge_t, y_ic_ge_f, b_X0_askInTurn_11, f_0_4, y_iast_26, x_iinc_1, x_goto, b_X0_askInTurn_24, x_storeI_2, b_X0_askInTurn_28, y_if_eq_t, y_if_eq_f, b_X0_askInTurn_32, x_loadI_2, x_storeI_3, b_X0_askInTurn_43, x_loadI_3, f_0_5, b_X0_askInTurn_51, f_0_1, y_iald_26, y_ic_ne_t, y_ic_ne_f, b_X0_askInTurn_61, b_X0_askInTurn_75, b_X0_askInTurn_76, x_storeI_4, x_loadI_4, y_ic_eq_t, y_ic_eq_f, b_X0_askInTurn_84, b_X0_askInTurn_93, x_iinc_3, b_X0_askInTurn_99, x_iinc_2, b_X0_askInTurn_105, x_vret, q_isL_I, q_isL_R, q_isL_S, true_and, and_true, and_self, List.length_nil, List.length_cons, Nat.zero_add, x_K, x_Kn, Int.reduceToNat, Nat.reduceAdd, Nat.reduceMul, Nat.reduceLeDiff, Nat.reduceLT, Nat.zero_le, Int.reduceAdd, Int.reduceSub, Int.reduceMul, Int.reduceNeg, q_add_e, q_sub_e, q_mul_e, q_neg_e, q_upd_s, q_upd_n, zr_shr0, zr_shr1, zr_shr2, zr_shr3, zr_shr4, zr_and, zr_dyn8, zr_or, zr_shl, q_cpy_n, y_cpy26, c1, Bool.false_eq_true, if_false]
        exact hq
  unfold F_fr at hq loop
  rw [s_X0_askInTurn]
  simp (disch := omega) only [b_X0_askInTurn_0, x_loadR_0, x_loadS_0, x_iconst, x_storeI_1, b_X0_askInTurn_6, x_loadI_1, y_ic_ge_t, y_ic_ge_f, b_X0_askInTurn_11, f_0_4, y_iast_26, x_iinc_1, x_goto, b_X0_askInTurn_24, x_storeI_2, y_if_eq_t, y_if_eq_f, b_X0_askInTurn_32, x_loadI_2, x_storeI_3, b_X0_askInTurn_43, x_loadI_3, f_0_5, b_X0_askInTurn_51, f_0_1, y_iald_26, y_ic_ne_t, y_ic_ne_f, b_X0_askInTurn_61, b_X0_askInTurn_75, b_X0_askInTurn_76, x_storeI_4, x_loadI_4, y_ic_eq_t, y_ic_eq_f, b_X0_askInTurn_84, b_X0_askInTurn_93, x_iinc_3, b_X0_askInTurn_99, x_iinc_2, b_X0_askInTurn_105, x_vret, q_isL_I, q_isL_R, q_isL_S, true_and, and_true, and_self, List.length_nil, List.length_cons, Nat.zero_add, x_K, x_Kn, Int.reduceToNat, Nat.reduceAdd, Nat.reduceMul, Nat.reduceLeDiff, Nat.reduceLT, Nat.zero_le, Int.reduceAdd, Int.reduceSub, Int.reduceMul, Int.reduceNeg, q_add_e, q_sub_e, q_mul_e, q_neg_e, q_upd_s, q_upd_n, zr_shr0, zr_shr1, zr_shr2, zr_shr3, zr_shr4, zr_and, zr_dyn8, zr_or, zr_shl, q_cpy_n, y_cpy26, c_X0_emptyAll, sp_emptyAll, q_cM_uf, q_cM_us]
  exact loop 1000 0 (by omega) _ _ _ rfl rfl hq
/-- whether no building holds more than it has room for -/
def F_fits (f R : Nat → Int) (n : Nat) : Nat → Bool
  | 0 => true
  | b + 1 => F_fits f R n b && decide (F_cnt f b n ≤ R b)
set_option maxHeartbeats 4000000 in
theorem sp_fits {d : Nat} {g : q_G} {M : q_M} {c : Nat} {Q : Option q_V → q_G → q_M → Prop} (h0 : 0 ≤ M c 5) (h5 : M c 5 ≤ 5) (hq : Q (some (qI (if F_fits (M (c + 2)) (M (c + 1)) (M c 5).toNat 5 = true then 1 else 0))) g M) : q_S 1 (d + 1) 18 [qR 0 c] g M Q := by
  have hc := fun b : Nat => F_cnt_le (M (c + 2)) b (M c 5).toNat
  have hall : ∀ j b : Nat, b + j = 5 → F_fits (M (c + 2)) (M (c + 1)) (M c 5).toNat b = false → F_fits (M (c + 2)) (M (c + 1)) (M c 5).toNat 5 = false := by
    intro j
    induction j with
    | zero =>
      intro b hb h
      have e : b = 5 := by omega
      subst e
      exact h
    | succ j ih =>
      intro b hb h
      refine ih (b + 1) (by omega) ?_
      rw [F_fits, h]
      rfl
  have loop : ∀ j b : Nat, b + j = 5 → F_fits (M (c + 2)) (M (c + 1)) (M c 5).toNat b = true → q_T 1 (d + 1) qP_X0_fits 2 [] [qR 0 c, qI b] [] g M Q := by
    intro j
    induction j with
    | zero =>
      intro b hb h
      have e : b = 5 := by omega
      subst e
      rw [if_pos h] at hq
      rw [b_X0_fits_2]
      simp (disch := omega) only [b_X0_fits_0, x_iconst, x_storeI_1, x_loadI_1, y_ic_ge_t, y_ic_ge_f, b_X0_fits_7, x_loadR_0, x_loadS_0, f_0_0, y_iald_26, y_ic_le_t, y_ic_le_f, b_X0_fits_21, x_ret1_0, x_ret1_1, b_X0_fits_23, x_iinc_1, x_goto, b_X0_fits_29, q_isL_I, q_isL_R, q_isL_S, true_and, and_true, and_self, List.length_nil, List.length_cons, Nat.zero_add, x_K, x_Kn, Int.reduceToNat, Nat.reduceAdd, Nat.reduceMul, Nat.reduceLeDiff, Nat.reduceLT, Nat.zero_le, Int.reduceAdd, Int.reduceSub, Int.reduceMul, Int.reduceNeg, q_add_e, q_sub_e, q_mul_e, q_neg_e, q_upd_s, q_upd_n, zr_shr0, zr_shr1, zr_shr2, zr_shr3, zr_shr4, zr_and, zr_dyn8, zr_or, zr_shl, q_cpy_n, y_cpy26]
      exact hq
    | succ j ih =>
      intro b hb h
      have hcb := hc b
      have h1 : F_fits (M (c + 2)) (M (c + 1)) (M c 5).toNat (b + 1) = decide (F_cnt (M (c + 2)) b (M c 5).toNat ≤ M (c + 1) b) := by
        rw [F_fits, h]
        rfl
      rw [b_X0_fits_2]
      by_cases c1 : F_cnt (M (c + 2)) b (M c 5).toNat ≤ M (c + 1) b
      · simp (disch := omega) only [b_X0_fits_0, x_iconst, x_storeI_1, x_loadI_1, y_ic_ge_t, y_ic_ge_f, b_X0_fits_7, x_loadR_0, x_loadS_0, f_0_0, y_iald_26, y_ic_le_t, y_ic_le_f, b_X0_fits_21, x_ret1_0, x_ret1_1, b_X0_fits_23, x_iinc_1, x_goto, b_X0_fits_29, q_isL_I, q_isL_R, q_isL_S, true_and, and_true, and_self, List.length_nil, List.length_cons, Nat.zero_add, x_K, x_Kn, Int.reduceToNat, Nat.reduceAdd, Nat.reduceMul, Nat.reduceLeDiff, Nat.reduceLT, Nat.zero_le, Int.reduceAdd, Int.reduceSub, Int.reduceMul, Int.reduceNeg, q_add_e, q_sub_e, q_mul_e, q_neg_e, q_upd_s, q_upd_n, zr_shr0, zr_shr1, zr_shr2, zr_shr3, zr_shr4, zr_and, zr_dyn8, zr_or, zr_shl, q_cpy_n, y_cpy26, c_X0_housed, sp_housed, Int.toNat_natCast]
        exact ih (b + 1) (by omega) (by rw [h1]; exact decide_eq_true c1)
      · have h2 := hall j (b + 1) (by omega) (by rw [h1]; exact decide_eq_false c1)
        rw [h2, if_neg (by decide)] at hq
        simp (disch := omega) only [b_X0_fits_0, x_iconst, x_storeI_1, x_loadI_1, y_ic_ge_t, y_ic_ge_f, b_X0_fits_7, x_loadR_0, x_loadS_0, f_0_0, y_iald_26, y_ic_le_t, y_ic_le_f, b_X0_fits_21, x_ret1_0, x_ret1_1, b_X0_fits_23, x_iinc_1, x_goto, b_X0_fits_29, q_isL_I, q_isL_R, q_isL_S, true_and, and_true, and_self, List.length_nil, List.length_cons, Nat.zero_add, x_K, x_Kn, Int.reduceToNat, Nat.reduceAdd, Nat.reduceMul, Nat.reduceLeDiff, Nat.reduceLT, Nat.zero_le, Int.reduceAdd, Int.reduceSub, Int.reduceMul, Int.reduceNeg, q_add_e, q_sub_e, q_mul_e, q_neg_e, q_upd_s, q_upd_n, zr_shr0, zr_shr1, zr_shr2, zr_shr3, zr_shr4, zr_and, zr_dyn8, zr_or, zr_shl, q_cpy_n, y_cpy26, c_X0_housed, sp_housed, Int.toNat_natCast]
        exact hq
  rw [s_X0_fits]
  simp (disch := omega) only [b_X0_fits_0, x_iconst, x_storeI_1, x_loadI_1, y_ic_ge_t, y_ic_ge_f, b_X0_fits_7, x_loadR_0, x_loadS_0, f_0_0, y_iald_26, y_ic_le_t, y_ic_le_f, b_X0_fits_21, x_ret1_0, x_ret1_1, b_X0_fits_23, x_iinc_1, x_goto, b_X0_fits_29, q_isL_I, q_isL_R, q_isL_S, true_and, and_true, and_self, List.length_nil, List.length_cons, Nat.zero_add, x_K, x_Kn, Int.reduceToNat, Nat.reduceAdd, Nat.reduceMul, Nat.reduceLeDiff, Nat.reduceLT, Nat.zero_le, Int.reduceAdd, Int.reduceSub, Int.reduceMul, Int.reduceNeg, q_add_e, q_sub_e, q_mul_e, q_neg_e, q_upd_s, q_upd_n, zr_shr0, zr_shr1, zr_shr2, zr_shr3, zr_shr4, zr_and, zr_dyn8, zr_or, zr_shl, q_cpy_n, y_cpy26]
  exact loop 5 0 (by omega) rfl
