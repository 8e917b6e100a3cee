/-! THE MODEL: cart; a sheet's numbers against years -/
set_option maxHeartbeats 4000000 in
theorem mp_cart {V : Nat → (Nat → Int) → Int} {d : Nat} {g : q_G} {M : q_M} {p wt : Int} {Q : Option q_V → q_G → q_M → Prop} (C : q_mi V M) (hq : ∀ M2 : q_M, q_mq M M2 → Q (some (qI (B_cart V (mW M) p wt))) g M2) : q_S 1 (d + 9) 176 [qR 6 100, qI p, qI wt] g M Q := by
  have n0 := C.1.1.1
  have y0 := C.1.1.2.1
  have y9 := C.2.1
  rw [s_X6_cart]
  unfold B_cart at hq
  rw [mW_90] at hq
  by_cases c1 : 0 ≤ p ∧ p ≤ M 100 0 - 1
  · rw [if_neg (fun z => z c1)] at hq
    by_cases c2 : 0 ≤ wt ∧ wt ≤ 1
    · rw [if_neg (fun z => z c2)] at hq
      obtain ⟨N, rfl⟩ : ∃ N : Nat, p = N := ⟨p.toNat, by omega⟩
      rw [Int.toNat_natCast] at hq
      have hN : N < 5 := by omega
      have loop : ∀ j k : Nat, k + j = 100 → ∀ (M1 : q_M) (l6 l7 : q_V), q_isL l6 = false → q_isL l7 = false → q_mq M M1 → q_mt M M1 → q_T 1 (d + 9) qP_X6_cart 35 [] [qR 6 100, qI N, qI wt, qI (G_ct V (mW M) N k).1, qI (G_ct V (mW M) N k).2, qI k, l6, l7] [] g M1 Q := by
        intro j
        induction j with
        | zero =>
          intro k hk M1 l6 l7 hl6 hl7 h1 t1
          have e : k = 100 := by omega
          subst e
          rw [b_X6_cart_35]
          rcases (show wt = 0 ∨ wt = 1 by omega) with e | e
          · rw [if_pos e] at hq
            simp (disch := omega) only [b_X6_cart_0, x_loadR_0, x_loadS_0, x_loadI_1, y_if_ne_t, y_if_ne_f, b_X6_cart_8, x_iconst, x_ret0, b_X6_cart_11, x_loadI_2, b_X6_cart_20, b_X6_cart_23, x_storeI_3, x_storeI_4, x_storeI_5, x_loadI_5, y_ic_ge_t, y_ic_ge_f, b_X6_cart_42, f_6_4, x_imul, y_iast_35, x_iadd, x_storeI_6, x_loadI_6, y_ic_eq_t, y_ic_eq_f, b_X6_cart_81, x_loadI_3, b_X6_cart_86, x_loadI_4, b_X6_cart_93, x_goto, b_X6_cart_97, b_X6_cart_98, x_storeI_7, x_loadI_7, y_if_eq_t, y_if_eq_f, b_X6_cart_105, b_X6_cart_110, b_X6_cart_111, b_X6_cart_117, b_X6_cart_122, b_X6_cart_124, x_iinc_5, b_X6_cart_132, b_X6_cart_136, b_X6_cart_140, b_X6_cart_142, q_isL_I, q_isL_R, q_isL_S, true_and, and_true, and_self, List.length_nil, List.length_cons, Nat.zero_add, x_K, x_Kn, Int.reduceToNat, Nat.reduceAdd, Nat.reduceMul, Nat.reduceLeDiff, Nat.reduceLT, Nat.zero_le, Int.reduceAdd, Int.reduceSub, Int.reduceMul, Int.reduceNeg, q_add_e, q_sub_e, q_mul_e, q_neg_e, q_upd_s, q_upd_n, zr_shr0, zr_shr1, zr_shr2, zr_shr3, zr_shr4, zr_and, zr_dyn8, zr_or, zr_shl, q_cpy_n, y_cpy26]
            exact hq M1 h1
          · rw [if_neg (by omega)] at hq
            simp (disch := omega) only [b_X6_cart_0, x_loadR_0, x_loadS_0, x_loadI_1, y_if_ne_t, y_if_ne_f, b_X6_cart_8, x_iconst, x_ret0, b_X6_cart_11, x_loadI_2, b_X6_cart_20, b_X6_cart_23, x_storeI_3, x_storeI_4, x_storeI_5, x_loadI_5, y_ic_ge_t, y_ic_ge_f, b_X6_cart_42, f_6_4, x_imul, y_iast_35, x_iadd, x_storeI_6, x_loadI_6, y_ic_eq_t, y_ic_eq_f, b_X6_cart_81, x_loadI_3, b_X6_cart_86, x_loadI_4, b_X6_cart_93, x_goto, b_X6_cart_97, b_X6_cart_98, x_storeI_7, x_loadI_7, y_if_eq_t, y_if_eq_f, b_X6_cart_105, b_X6_cart_110, b_X6_cart_111, b_X6_cart_117, b_X6_cart_122, b_X6_cart_124, x_iinc_5, b_X6_cart_132, b_X6_cart_136, b_X6_cart_140, b_X6_cart_142, q_isL_I, q_isL_R, q_isL_S, true_and, and_true, and_self, List.length_nil, List.length_cons, Nat.zero_add, x_K, x_Kn, Int.reduceToNat, Nat.reduceAdd, Nat.reduceMul, Nat.reduceLeDiff, Nat.reduceLT, Nat.zero_le, Int.reduceAdd, Int.reduceSub, Int.reduceMul, Int.reduceNeg, q_add_e, q_sub_e, q_mul_e, q_neg_e, q_upd_s, q_upd_n, zr_shr0, zr_shr1, zr_shr2, zr_shr3, zr_shr4, zr_and, zr_dyn8, zr_or, zr_shl, q_cpy_n, y_cpy26]
            exact hq M1 h1
        | succ j ih =>
          intro k hk M1 l6 l7 hl6 hl7 h1 t1
          have ih2 := ih (k + 1) (by omega)
          rw [G_ct] at ih2
          have m1 := q_mq_ml h1 C.1
          have e0 : M1 100 0 = M 100 0 := h1 100 0 (by omega) (by omega)
          have e5 : M1 100 5 = M 100 5 := h1 100 5 (by omega) (by omega)
          have m2 : q_ml V (q_upd (q_upd M1 104 (3 * N) k) 104 (3 * N + 2) (-1)) := q_ml_up (q_ml_up m1 (q_ok2 (by omega)) (by omega) (by omega) (by omega)) (q_ok4 (by omega)) (by omega) (by omega) (by omega)
          have w2 : mW (q_upd (q_upd M1 104 (3 * N) k) 104 (3 * N + 2) (-1)) = F_lay (mW M) N k := by
            rw [mW_up4 (by rw [q_upd_n (by omega), e0]; omega), mW_up2 (by rw [e0]; omega), q_mq_mW h1]
            rfl
          have t2 : q_mt M (q_upd (q_upd M1 104 (3 * N) k) 104 (3 * N + 2) (-1)) := q_mt_up (q_mt_up t1 (by omega)) (by omega)
          have y2 : q_upd (q_upd M1 104 (3 * N) k) 104 (3 * N + 2) (-1) 100 5 ≤ 1500 := by
            rw [q_upd_n (by omega), q_upd_n (by omega)]
            omega
          have p2 : N < (q_upd (q_upd M1 104 (3 * N) k) 104 (3 * N + 2) (-1) 100 0).toNat := by
            rw [q_upd_n (by omega), q_upd_n (by omega), e0]
            omega
          rw [b_X6_cart_35]
          simp (disch := omega) only [b_X6_cart_0, x_loadR_0, x_loadS_0, x_loadI_1, y_if_ne_t, y_if_ne_f, b_X6_cart_8, x_iconst, x_ret0, b_X6_cart_11, x_loadI_2, b_X6_cart_20, b_X6_cart_23, x_storeI_3, x_storeI_4, x_storeI_5, x_loadI_5, y_ic_ge_t, y_ic_ge_f, b_X6_cart_42, f_6_4, x_imul, y_iast_35, x_iadd, x_storeI_6, x_loadI_6, y_ic_eq_t, y_ic_eq_f, b_X6_cart_81, x_loadI_3, b_X6_cart_86, x_loadI_4, b_X6_cart_93, x_goto, b_X6_cart_97, b_X6_cart_98, x_storeI_7, x_loadI_7, y_if_eq_t, y_if_eq_f, b_X6_cart_105, b_X6_cart_110, b_X6_cart_111, b_X6_cart_117, b_X6_cart_122, b_X6_cart_124, x_iinc_5, b_X6_cart_132, b_X6_cart_136, b_X6_cart_140, b_X6_cart_142, q_isL_I, q_isL_R, q_isL_S, true_and, and_true, and_self, List.length_nil, List.length_cons, Nat.zero_add, x_K, x_Kn, Int.reduceToNat, Nat.reduceAdd, Nat.reduceMul, Nat.reduceLeDiff, Nat.reduceLT, Nat.zero_le, Int.reduceAdd, Int.reduceSub, Int.reduceMul, Int.reduceNeg, q_add_e, q_sub_e, q_mul_e, q_neg_e, q_upd_s, q_upd_n, zr_shr0, zr_shr1, zr_shr2, zr_shr3, zr_shr4, zr_and, zr_dyn8, zr_or, zr_shl, q_cpy_n, y_cpy26, Int.toNat_natCast, tn_30, tn_32, c_X6_whenIn]
          refine mp_whenIn m2 y2 p2 (by omega) t2 (fun M3 t3 => ?_)
          rw [w2]
          simp (disch := omega) only [b_X6_cart_0, x_loadR_0, x_loadS_0, x_loadI_1, y_if_ne_t, y_if_ne_f, b_X6_cart_8, x_iconst, x_ret0, b_X6_cart_11, x_loadI_2, b_X6_cart_20, b_X6_cart_23, x_storeI_3, x_storeI_4, x_storeI_5, x_loadI_5, y_ic_ge_t, y_ic_ge_f, b_X6_cart_42, f_6_4, x_imul, y_iast_35, x_iadd, x_storeI_6, x_loadI_6, y_ic_eq_t, y_ic_eq_f, b_X6_cart_81, x_loadI_3, b_X6_cart_86, x_loadI_4, b_X6_cart_93, x_goto, b_X6_cart_97, b_X6_cart_98, x_storeI_7, x_loadI_7, y_if_eq_t, y_if_eq_f, b_X6_cart_105, b_X6_cart_110, b_X6_cart_111, b_X6_cart_117, b_X6_cart_122, b_X6_cart_124, x_iinc_5, b_X6_cart_132, b_X6_cart_136, b_X6_cart_140, b_X6_cart_142, q_isL_I, q_isL_R, q_isL_S, true_and, and_true, and_self, List.length_nil, List.length_cons, Nat.zero_add, x_K, x_Kn, Int.reduceToNat, Nat.reduceAdd, Nat.reduceMul, Nat.reduceLeDiff, Nat.reduceLT, Nat.zero_le, Int.reduceAdd, Int.reduceSub, Int.reduceMul, Int.reduceNeg, q_add_e, q_sub_e, q_mul_e, q_neg_e, q_upd_s, q_upd_n, zr_shr0, zr_shr1, zr_shr2, zr_shr3, zr_shr4, zr_and, zr_dyn8, zr_or, zr_shl, q_cpy_n, y_cpy26, hl6, c_X6_lays]
          refine mp_layT2 t3 (fun M4 h4 t4 => ?_)
          generalize G_till V (F_lay (mW M) N k) N (-1) 60 0 = y at ih2 ⊢
          generalize G_ct V (mW M) N k = X at ih2 ⊢
          by_cases c3 : y ≠ -1 ∧ (X.1 = -1 ∨ y < X.2)
          · rw [if_pos c3] at ih2
            have c4 := c3.1
            rcases (show X.1 = -1 ∨ (X.1 ≠ -1 ∧ y < X.2) by omega) with c5 | c5
            · simp (disch := omega) only [b_X6_cart_0, x_loadR_0, x_loadS_0, x_loadI_1, y_if_ne_t, y_if_ne_f, b_X6_cart_8, x_iconst, x_ret0, b_X6_cart_11, x_loadI_2, b_X6_cart_20, b_X6_cart_23, x_storeI_3, x_storeI_4, x_storeI_5, x_loadI_5, y_ic_ge_t, y_ic_ge_f, b_X6_cart_42, f_6_4, x_imul, y_iast_35, x_iadd, x_storeI_6, x_loadI_6, y_ic_eq_t, y_ic_eq_f, b_X6_cart_81, x_loadI_3, b_X6_cart_86, x_loadI_4, b_X6_cart_93, x_goto, b_X6_cart_97, b_X6_cart_98, x_storeI_7, x_loadI_7, y_if_eq_t, y_if_eq_f, b_X6_cart_105, b_X6_cart_110, b_X6_cart_111, b_X6_cart_117, b_X6_cart_122, b_X6_cart_124, x_iinc_5, b_X6_cart_132, b_X6_cart_136, b_X6_cart_140, b_X6_cart_142, q_isL_I, q_isL_R, q_isL_S, true_and, and_true, and_self, List.length_nil, List.length_cons, Nat.zero_add, x_K, x_Kn, Int.reduceToNat, Nat.reduceAdd, Nat.reduceMul, Nat.reduceLeDiff, Nat.reduceLT, Nat.zero_le, Int.reduceAdd, Int.reduceSub, Int.reduceMul, Int.reduceNeg, q_add_e, q_sub_e, q_mul_e, q_neg_e, q_upd_s, q_upd_n, zr_shr0, zr_shr1, zr_shr2, zr_shr3, zr_shr4, zr_and, zr_dyn8, zr_or, zr_shl, q_cpy_n, y_cpy26, hl7]
              exact ih2 M4 _ _ rfl rfl h4 t4
            · simp (disch := omega) only [b_X6_cart_0, x_loadR_0, x_loadS_0, x_loadI_1, y_if_ne_t, y_if_ne_f, b_X6_cart_8, x_iconst, x_ret0, b_X6_cart_11, x_loadI_2, b_X6_cart_20, b_X6_cart_23, x_storeI_3, x_storeI_4, x_storeI_5, x_loadI_5, y_ic_ge_t, y_ic_ge_f, b_X6_cart_42, f_6_4, x_imul, y_iast_35, x_iadd, x_storeI_6, x_loadI_6, y_ic_eq_t, y_ic_eq_f, b_X6_cart_81, x_loadI_3, b_X6_cart_86, x_loadI_4, b_X6_cart_93, x_goto, b_X6_cart_97, b_X6_cart_98, x_storeI_7, x_loadI_7, y_if_eq_t, y_if_eq_f, b_X6_cart_105, b_X6_cart_110, b_X6_cart_111, b_X6_cart_117, b_X6_cart_122, b_X6_cart_124, x_iinc_5, b_X6_cart_132, b_X6_cart_136, b_X6_cart_140, b_X6_cart_142, q_isL_I, q_isL_R, q_isL_S, true_and, and_true, and_self, List.length_nil, List.length_cons, Nat.zero_add, x_K, x_Kn, Int.reduceToNat, Nat.reduceAdd, Nat.reduceMul, Nat.reduceLeDiff, Nat.reduceLT, Nat.zero_le, Int.reduceAdd, Int.reduceSub, Int.reduceMul, Int.reduceNeg, q_add_e, q_sub_e, q_mul_e, q_neg_e, q_upd_s, q_upd_n, zr_shr0, zr_shr1, zr_shr2, zr_shr3, zr_shr4, zr_and, zr_dyn8, zr_or, zr_shl, q_cpy_n, y_cpy26, hl7]
              exact ih2 M4 _ _ rfl rfl h4 t4
          · rw [if_neg c3] at ih2
            by_cases c4 : y = -1
            · simp (disch := omega) only [b_X6_cart_0, x_loadR_0, x_loadS_0, x_loadI_1, y_if_ne_t, y_if_ne_f, b_X6_cart_8, x_iconst, x_ret0, b_X6_cart_11, x_loadI_2, b_X6_cart_20, b_X6_cart_23, x_storeI_3, x_storeI_4, x_storeI_5, x_loadI_5, y_ic_ge_t, y_ic_ge_f, b_X6_cart_42, f_6_4, x_imul, y_iast_35, x_iadd, x_storeI_6, x_loadI_6, y_ic_eq_t, y_ic_eq_f, b_X6_cart_81, x_loadI_3, b_X6_cart_86, x_loadI_4, b_X6_cart_93, x_goto, b_X6_cart_97, b_X6_cart_98, x_storeI_7, x_loadI_7, y_if_eq_t, y_if_eq_f, b_X6_cart_105, b_X6_cart_110, b_X6_cart_111, b_X6_cart_117, b_X6_cart_122, b_X6_cart_124, x_iinc_5, b_X6_cart_132, b_X6_cart_136, b_X6_cart_140, b_X6_cart_142, q_isL_I, q_isL_R, q_isL_S, true_and, and_true, and_self, List.length_nil, List.length_cons, Nat.zero_add, x_K, x_Kn, Int.reduceToNat, Nat.reduceAdd, Nat.reduceMul, Nat.reduceLeDiff, Nat.reduceLT, Nat.zero_le, Int.reduceAdd, Int.reduceSub, Int.reduceMul, Int.reduceNeg, q_add_e, q_sub_e, q_mul_e, q_neg_e, q_upd_s, q_upd_n, zr_shr0, zr_shr1, zr_shr2, zr_shr3, zr_shr4, zr_and, zr_dyn8, zr_or, zr_shl, q_cpy_n, y_cpy26, hl7]
              exact ih2 M4 _ _ rfl rfl h4 t4
            · have c5 : X.1 ≠ -1 ∧ X.2 ≤ y := by omega
              simp (disch := omega) only [b_X6_cart_0, x_loadR_0, x_loadS_0, x_loadI_1, y_if_ne_t, y_if_ne_f, b_X6_cart_8, x_iconst, x_ret0, b_X6_cart_11, x_loadI_2, b_X6_cart_20, b_X6_cart_23, x_storeI_3, x_storeI_4, x_storeI_5, x_loadI_5, y_ic_ge_t, y_ic_ge_f, b_X6_cart_42, f_6_4, x_imul, y_iast_35, x_iadd, x_storeI_6, x_loadI_6, y_ic_eq_t, y_ic_eq_f, b_X6_cart_81, x_loadI_3, b_X6_cart_86, x_loadI_4, b_X6_cart_93, x_goto, b_X6_cart_97, b_X6_cart_98, x_storeI_7, x_loadI_7, y_if_eq_t, y_if_eq_f, b_X6_cart_105, b_X6_cart_110, b_X6_cart_111, b_X6_cart_117, b_X6_cart_122, b_X6_cart_124, x_iinc_5, b_X6_cart_132, b_X6_cart_136, b_X6_cart_140, b_X6_cart_142, q_isL_I, q_isL_R, q_isL_S, true_and, and_true, and_self, List.length_nil, List.length_cons, Nat.zero_add, x_K, x_Kn, Int.reduceToNat, Nat.reduceAdd, Nat.reduceMul, Nat.reduceLeDiff, Nat.reduceLT, Nat.zero_le, Int.reduceAdd, Int.reduceSub, Int.reduceMul, Int.reduceNeg, q_add_e, q_sub_e, q_mul_e, q_neg_e, q_upd_s, q_upd_n, zr_shr0, zr_shr1, zr_shr2, zr_shr3, zr_shr4, zr_and, zr_dyn8, zr_or, zr_shl, q_cpy_n, y_cpy26, hl7]
              exact ih2 M4 _ _ rfl rfl h4 t4
      simp (disch := omega) only [b_X6_cart_0, x_loadR_0, x_loadS_0, x_loadI_1, y_if_ne_t, y_if_ne_f, b_X6_cart_8, x_iconst, x_ret0, b_X6_cart_11, x_loadI_2, b_X6_cart_20, b_X6_cart_23, x_storeI_3, x_storeI_4, x_storeI_5, x_loadI_5, y_ic_ge_t, y_ic_ge_f, b_X6_cart_42, f_6_4, x_imul, y_iast_35, x_iadd, x_storeI_6, x_loadI_6, y_ic_eq_t, y_ic_eq_f, b_X6_cart_81, x_loadI_3, b_X6_cart_86, x_loadI_4, b_X6_cart_93, x_goto, b_X6_cart_97, b_X6_cart_98, x_storeI_7, x_loadI_7, y_if_eq_t, y_if_eq_f, b_X6_cart_105, b_X6_cart_110, b_X6_cart_111, b_X6_cart_117, b_X6_cart_122, b_X6_cart_124, x_iinc_5, b_X6_cart_132, b_X6_cart_136, b_X6_cart_140, b_X6_cart_142, q_isL_I, q_isL_R, q_isL_S, true_and, and_true, and_self, List.length_nil, List.length_cons, Nat.zero_add, x_K, x_Kn, Int.reduceToNat, Nat.reduceAdd, Nat.reduceMul, Nat.reduceLeDiff, Nat.reduceLT, Nat.zero_le, Int.reduceAdd, Int.reduceSub, Int.reduceMul, Int.reduceNeg, q_add_e, q_sub_e, q_mul_e, q_neg_e, q_upd_s, q_upd_n, zr_shr0, zr_shr1, zr_shr2, zr_shr3, zr_shr4, zr_and, zr_dyn8, zr_or, zr_shl, q_cpy_n, y_cpy26, c_X6_isStone, mp_isStone, c1, c_X6_in, mp_in, c2, and_self, if_true, c_X6_keeps]
      refine mp_keeps q_mq_rf (fun M2 t2 h2 => ?_)
      simp (disch := omega) only [b_X6_cart_0, x_loadR_0, x_loadS_0, x_loadI_1, y_if_ne_t, y_if_ne_f, b_X6_cart_8, x_iconst, x_ret0, b_X6_cart_11, x_loadI_2, b_X6_cart_20, b_X6_cart_23, x_storeI_3, x_storeI_4, x_storeI_5, x_loadI_5, y_ic_ge_t, y_ic_ge_f, b_X6_cart_42, f_6_4, x_imul, y_iast_35, x_iadd, x_storeI_6, x_loadI_6, y_ic_eq_t, y_ic_eq_f, b_X6_cart_81, x_loadI_3, b_X6_cart_86, x_loadI_4, b_X6_cart_93, x_goto, b_X6_cart_97, b_X6_cart_98, x_storeI_7, x_loadI_7, y_if_eq_t, y_if_eq_f, b_X6_cart_105, b_X6_cart_110, b_X6_cart_111, b_X6_cart_117, b_X6_cart_122, b_X6_cart_124, x_iinc_5, b_X6_cart_132, b_X6_cart_136, b_X6_cart_140, b_X6_cart_142, q_isL_I, q_isL_R, q_isL_S, true_and, and_true, and_self, List.length_nil, List.length_cons, Nat.zero_add, x_K, x_Kn, Int.reduceToNat, Nat.reduceAdd, Nat.reduceMul, Nat.reduceLeDiff, Nat.reduceLT, Nat.zero_le, Int.reduceAdd, Int.reduceSub, Int.reduceMul, Int.reduceNeg, q_add_e, q_sub_e, q_mul_e, q_neg_e, q_upd_s, q_upd_n, zr_shr0, zr_shr1, zr_shr2, zr_shr3, zr_shr4, zr_and, zr_dyn8, zr_or, zr_shl, q_cpy_n, y_cpy26]
      exact loop 100 0 rfl M2 _ _ rfl rfl h2 t2
    · rw [if_pos c2] at hq
      simp (disch := omega) only [b_X6_cart_0, x_loadR_0, x_loadS_0, x_loadI_1, y_if_ne_t, y_if_ne_f, b_X6_cart_8, x_iconst, x_ret0, b_X6_cart_11, x_loadI_2, b_X6_cart_20, b_X6_cart_23, x_storeI_3, x_storeI_4, x_storeI_5, x_loadI_5, y_ic_ge_t, y_ic_ge_f, b_X6_cart_42, f_6_4, x_imul, y_iast_35, x_iadd, x_storeI_6, x_loadI_6, y_ic_eq_t, y_ic_eq_f, b_X6_cart_81, x_loadI_3, b_X6_cart_86, x_loadI_4, b_X6_cart_93, x_goto, b_X6_cart_97, b_X6_cart_98, x_storeI_7, x_loadI_7, y_if_eq_t, y_if_eq_f, b_X6_cart_105, b_X6_cart_110, b_X6_cart_111, b_X6_cart_117, b_X6_cart_122, b_X6_cart_124, x_iinc_5, b_X6_cart_132, b_X6_cart_136, b_X6_cart_140, b_X6_cart_142, q_isL_I, q_isL_R, q_isL_S, true_and, and_true, and_self, List.length_nil, List.length_cons, Nat.zero_add, x_K, x_Kn, Int.reduceToNat, Nat.reduceAdd, Nat.reduceMul, Nat.reduceLeDiff, Nat.reduceLT, Nat.zero_le, Int.reduceAdd, Int.reduceSub, Int.reduceMul, Int.reduceNeg, q_add_e, q_sub_e, q_mul_e, q_neg_e, q_upd_s, q_upd_n, zr_shr0, zr_shr1, zr_shr2, zr_shr3, zr_shr4, zr_and, zr_dyn8, zr_or, zr_shl, q_cpy_n, y_cpy26, c_X6_isStone, mp_isStone, c1, c_X6_in, mp_in, c2, and_self, if_true, if_false]
      exact hq M q_mq_rf
  · rw [if_pos c1] at hq
    simp (disch := omega) only [b_X6_cart_0, x_loadR_0, x_loadS_0, x_loadI_1, y_if_ne_t, y_if_ne_f, b_X6_cart_8, x_iconst, x_ret0, b_X6_cart_11, x_loadI_2, b_X6_cart_20, b_X6_cart_23, x_storeI_3, x_storeI_4, x_storeI_5, x_loadI_5, y_ic_ge_t, y_ic_ge_f, b_X6_cart_42, f_6_4, x_imul, y_iast_35, x_iadd, x_storeI_6, x_loadI_6, y_ic_eq_t, y_ic_eq_f, b_X6_cart_81, x_loadI_3, b_X6_cart_86, x_loadI_4, b_X6_cart_93, x_goto, b_X6_cart_97, b_X6_cart_98, x_storeI_7, x_loadI_7, y_if_eq_t, y_if_eq_f, b_X6_cart_105, b_X6_cart_110, b_X6_cart_111, b_X6_cart_117, b_X6_cart_122, b_X6_cart_124, x_iinc_5, b_X6_cart_132, b_X6_cart_136, b_X6_cart_140, b_X6_cart_142, q_isL_I, q_isL_R, q_isL_S, true_and, and_true, and_self, List.length_nil, List.length_cons, Nat.zero_add, x_K, x_Kn, Int.reduceToNat, Nat.reduceAdd, Nat.reduceMul, Nat.reduceLeDiff, Nat.reduceLT, Nat.zero_le, Int.reduceAdd, Int.reduceSub, Int.reduceMul, Int.reduceNeg, q_add_e, q_sub_e, q_mul_e, q_neg_e, q_upd_s, q_upd_n, zr_shr0, zr_shr1, zr_shr2, zr_shr3, zr_shr4, zr_and, zr_dyn8, zr_or, zr_shl, q_cpy_n, y_cpy26, c_X6_isStone, mp_isStone, c1, if_false]
    exact hq M q_mq_rf
def G_fo (V : Nat → (Nat → Int) → Int) (S : q_M) (p : Nat) (C : Nat → Int) : Nat → Nat → Int
  | 0, _ => -1
  | j + 1, i => if C i = G_ys V S (i + 1) 2 p then G_fo V S p C j (i + 1) else i
theorem tn_c {s k : Nat} : (40 * (s : Int) + (k : Int)).toNat = 40 * s + k := by omega
def G_foA (V : Nat → (Nat → Int) → Int) (M S : q_M) (s p : Nat) : Int := G_fo V S p (fun i => M 112 (40 * s + i)) (M 111 s).toNat 0
set_option maxHeartbeats 4000000 in
theorem mp_unlike {V : Nat → (Nat → Int) → Int} {d dd : Nat} {g : q_G} {M : q_M} {s p : Nat} {P : q_P} {nx : Nat} {ops : List Instr} {ls st : List q_V} {Q : Option q_V → q_G → q_M → Prop} (hm : q_ml V M) (hy : M 100 5 ≤ 1000) (hs : s < 4) (hz : 0 ≤ M 111 s ∧ M 111 s ≤ 40) (hp : p < (M 100 0).toNat) (hq : ∀ M2 : q_M, q_mq M M2 → q_T 1 dd P nx ops ls (qI (G_foA V M (mW M) s p) :: st) g M2 Q) : q_S 1 (d + 8) 181 [qR 6 100, qI s, qI p] g M (q_K 1 dd P nx ops ls st Q) := by
  have hpush : ∀ (v : Int) (M3 : q_M), q_K 1 dd P nx ops ls st Q (some (qI v)) g M3 = q_T 1 dd P nx ops ls (qI v :: st) g M3 Q := fun _ _ => rfl
  generalize q_K 1 dd P nx ops ls st Q = QQ at hpush ⊢
  have n1 := hm.1.1
  have hp5 : p < 5 := by omega
  rw [s_X6_unlike]
  have fin : ∀ (M3 : q_M) (v k : Int), q_mt M M3 → (∀ M2 : q_M, q_mq M M2 → q_T 1 dd P nx ops ls (qI v :: st) g M2 Q) → q_T 1 (d + 8) qP_X6_unlike 66 [] [qR 6 100, qI s, qI p, qI v, qI k] [] g M3 QQ := by
    intro M3 v k t3 h
    rw [b_X6_unlike_66]
    simp (disch := omega) only [b_X6_unlike_0, x_iconst, x_storeI_3, x_loadR_0, x_loadS_0, x_storeI_4, x_loadI_4, f_6_16, x_loadI_1, y_iald_24, y_iald_35, y_iald_180, y_ic_ge_t, y_ic_ge_f, b_X6_unlike_20, x_loadI_3, y_ic_ne_t, y_ic_ne_f, b_X6_unlike_25, x_popI, x_popR, f_6_17, x_imul, x_iadd, f_6_4, x_loadI_2, b_X6_unlike_53, x_goto, b_X6_unlike_57, b_X6_unlike_59, x_iinc_4, x_ret0, q_isL_I, q_isL_R, q_isL_S, true_and, and_true, and_self, List.length_nil, List.length_cons, Nat.zero_add, x_K, x_Kn, Int.reduceToNat, Nat.reduceAdd, Nat.reduceMul, Nat.reduceLeDiff, Nat.reduceLT, Nat.zero_le, Int.reduceAdd, Int.reduceSub, Int.reduceMul, Int.reduceNeg, q_add_e, q_sub_e, q_mul_e, q_neg_e, q_upd_s, q_upd_n, zr_shr0, zr_shr1, zr_shr2, zr_shr3, zr_shr4, zr_and, zr_dyn8, zr_or, zr_shl, q_cpy_n, y_cpy26, c_X6_lays]
    refine mp_layT t3 (fun M4 h4 _ => ?_)
    simp (disch := omega) only [b_X6_unlike_0, x_iconst, x_storeI_3, x_loadR_0, x_loadS_0, x_storeI_4, x_loadI_4, f_6_16, x_loadI_1, y_iald_24, y_iald_35, y_iald_180, y_ic_ge_t, y_ic_ge_f, b_X6_unlike_20, x_loadI_3, y_ic_ne_t, y_ic_ne_f, b_X6_unlike_25, x_popI, x_popR, f_6_17, x_imul, x_iadd, f_6_4, x_loadI_2, b_X6_unlike_53, x_goto, b_X6_unlike_57, b_X6_unlike_59, x_iinc_4, x_ret0, q_isL_I, q_isL_R, q_isL_S, true_and, and_true, and_self, List.length_nil, List.length_cons, Nat.zero_add, x_K, x_Kn, Int.reduceToNat, Nat.reduceAdd, Nat.reduceMul, Nat.reduceLeDiff, Nat.reduceLT, Nat.zero_le, Int.reduceAdd, Int.reduceSub, Int.reduceMul, Int.reduceNeg, q_add_e, q_sub_e, q_mul_e, q_neg_e, q_upd_s, q_upd_n, zr_shr0, zr_shr1, zr_shr2, zr_shr3, zr_shr4, zr_and, zr_dyn8, zr_or, zr_shl, q_cpy_n, y_cpy26]
    rw [hpush]
    exact h M4 h4
  unfold G_foA at hq
  have loop : ∀ j k : Nat, (k : Int) + j = M 111 s → ∀ M2 : q_M, q_ml V M2 → mW M2 = G_ys V (mW M) k → M2 100 5 + j ≤ 1900 → M2 100 0 = M 100 0 → q_mt M M2 → (∀ M3 : q_M, q_mq M M3 → q_T 1 dd P nx ops ls (qI (G_fo V (mW M) p (fun i => M 112 (40 * s + i)) j k) :: st) g M3 Q) → q_T 1 (d + 8) qP_X6_unlike 9 [] [qR 6 100, qI s, qI p, qI (-1), qI k] [] g M2 QQ := by
    intro j
    induction j with
    | zero =>
      intro k hk M2 m2 w2 y2 e0 t2 hq
      have es : M2 111 s = M 111 s := t2.2 111 s (by omega) (by omega) (by omega) (by omega)
      rw [G_fo] at hq
      rw [b_X6_unlike_9]
      simp (disch := omega) only [b_X6_unlike_0, x_iconst, x_storeI_3, x_loadR_0, x_loadS_0, x_storeI_4, x_loadI_4, f_6_16, x_loadI_1, y_iald_24, y_iald_35, y_iald_180, y_ic_ge_t, y_ic_ge_f, b_X6_unlike_20, x_loadI_3, y_ic_ne_t, y_ic_ne_f, b_X6_unlike_25, x_popI, x_popR, f_6_17, x_imul, x_iadd, f_6_4, x_loadI_2, b_X6_unlike_53, x_goto, b_X6_unlike_57, b_X6_unlike_59, x_iinc_4, x_ret0, q_isL_I, q_isL_R, q_isL_S, true_and, and_true, and_self, List.length_nil, List.length_cons, Nat.zero_add, x_K, x_Kn, Int.reduceToNat, Nat.reduceAdd, Nat.reduceMul, Nat.reduceLeDiff, Nat.reduceLT, Nat.zero_le, Int.reduceAdd, Int.reduceSub, Int.reduceMul, Int.reduceNeg, q_add_e, q_sub_e, q_mul_e, q_neg_e, q_upd_s, q_upd_n, zr_shr0, zr_shr1, zr_shr2, zr_shr3, zr_shr4, zr_and, zr_dyn8, zr_or, zr_shl, q_cpy_n, y_cpy26, Int.toNat_natCast, es]
      exact fin M2 (-1) _ t2 hq
    | succ j ih =>
      intro k hk M2 m2 w2 y2 e0 t2 hq
      have es : M2 111 s = M 111 s := t2.2 111 s (by omega) (by omega) (by omega) (by omega)
      rw [G_fo] at hq
      rw [b_X6_unlike_9]
      simp (disch := omega) only [b_X6_unlike_0, x_iconst, x_storeI_3, x_loadR_0, x_loadS_0, x_storeI_4, x_loadI_4, f_6_16, x_loadI_1, y_iald_24, y_iald_35, y_iald_180, y_ic_ge_t, y_ic_ge_f, b_X6_unlike_20, x_loadI_3, y_ic_ne_t, y_ic_ne_f, b_X6_unlike_25, x_popI, x_popR, f_6_17, x_imul, x_iadd, f_6_4, x_loadI_2, b_X6_unlike_53, x_goto, b_X6_unlike_57, b_X6_unlike_59, x_iinc_4, x_ret0, q_isL_I, q_isL_R, q_isL_S, true_and, and_true, and_self, List.length_nil, List.length_cons, Nat.zero_add, x_K, x_Kn, Int.reduceToNat, Nat.reduceAdd, Nat.reduceMul, Nat.reduceLeDiff, Nat.reduceLT, Nat.zero_le, Int.reduceAdd, Int.reduceSub, Int.reduceMul, Int.reduceNeg, q_add_e, q_sub_e, q_mul_e, q_neg_e, q_upd_s, q_upd_n, zr_shr0, zr_shr1, zr_shr2, zr_shr3, zr_shr4, zr_and, zr_dyn8, zr_or, zr_shl, q_cpy_n, y_cpy26, Int.toNat_natCast, es, c_X6_yearOf]
      refine mp_yearT m2 (by omega) t2 (fun M3 m3 w3 y3 n3 t3 => ?_)
      have w4 : mW M3 = G_ys V (mW M) (k + 1) := by rw [w3, w2]; rfl
      have ea : G_ys V (mW M) (k + 1) 2 p = M3 104 (3 * p) := by rw [← w4]; exact mW_2 (by rw [n3, e0]; exact hp)
      have ec : M 112 (40 * s + k) = M3 112 (40 * s + k) := (t3.2 112 _ (by omega) (by omega) (by omega) (by omega)).symm
      have es3 : M3 111 s = M 111 s := t3.2 111 s (by omega) (by omega) (by omega) (by omega)
      rw [ea, ec] at hq
      by_cases c : M3 112 (40 * s + k) = M3 104 (3 * p)
      · rw [if_pos c] at hq
        simp (disch := omega) only [b_X6_unlike_0, x_iconst, x_storeI_3, x_loadR_0, x_loadS_0, x_storeI_4, x_loadI_4, f_6_16, x_loadI_1, y_iald_24, y_iald_35, y_iald_180, y_ic_ge_t, y_ic_ge_f, b_X6_unlike_20, x_loadI_3, y_ic_ne_t, y_ic_ne_f, b_X6_unlike_25, x_popI, x_popR, f_6_17, x_imul, x_iadd, f_6_4, x_loadI_2, b_X6_unlike_53, x_goto, b_X6_unlike_57, b_X6_unlike_59, x_iinc_4, x_ret0, q_isL_I, q_isL_R, q_isL_S, true_and, and_true, and_self, List.length_nil, List.length_cons, Nat.zero_add, x_K, x_Kn, Int.reduceToNat, Nat.reduceAdd, Nat.reduceMul, Nat.reduceLeDiff, Nat.reduceLT, Nat.zero_le, Int.reduceAdd, Int.reduceSub, Int.reduceMul, Int.reduceNeg, q_add_e, q_sub_e, q_mul_e, q_neg_e, q_upd_s, q_upd_n, zr_shr0, zr_shr1, zr_shr2, zr_shr3, zr_shr4, zr_and, zr_dyn8, zr_or, zr_shl, q_cpy_n, y_cpy26, tn_c, tn_30]
        exact ih (k + 1) (by omega) M3 m3 w4 (by omega) (n3.trans e0) t3 hq
      · rw [if_neg c] at hq
        by_cases c2 : M 111 s ≤ (k : Int) + 1
        · simp (disch := omega) only [b_X6_unlike_0, x_iconst, x_storeI_3, x_loadR_0, x_loadS_0, x_storeI_4, b_X6_unlike_9, x_loadI_4, f_6_16, x_loadI_1, y_iald_24, y_iald_35, y_iald_180, y_ic_ge_t, y_ic_ge_f, b_X6_unlike_20, x_loadI_3, y_ic_ne_t, y_ic_ne_f, b_X6_unlike_25, x_popI, x_popR, f_6_17, x_imul, x_iadd, f_6_4, x_loadI_2, b_X6_unlike_53, x_goto, b_X6_unlike_57, b_X6_unlike_59, x_iinc_4, x_ret0, q_isL_I, q_isL_R, q_isL_S, true_and, and_true, and_self, List.length_nil, List.length_cons, Nat.zero_add, x_K, x_Kn, Int.reduceToNat, Nat.reduceAdd, Nat.reduceMul, Nat.reduceLeDiff, Nat.reduceLT, Nat.zero_le, Int.reduceAdd, Int.reduceSub, Int.reduceMul, Int.reduceNeg, q_add_e, q_sub_e, q_mul_e, q_neg_e, q_upd_s, q_upd_n, zr_shr0, zr_shr1, zr_shr2, zr_shr3, zr_shr4, zr_and, zr_dyn8, zr_or, zr_shl, q_cpy_n, y_cpy26, Int.toNat_natCast, tn_c, tn_30, es3]
          exact fin M3 _ _ t3 hq
        · simp (disch := omega) only [b_X6_unlike_0, x_iconst, x_storeI_3, x_loadR_0, x_loadS_0, x_storeI_4, b_X6_unlike_9, x_loadI_4, f_6_16, x_loadI_1, y_iald_24, y_iald_35, y_iald_180, y_ic_ge_t, y_ic_ge_f, b_X6_unlike_20, x_loadI_3, y_ic_ne_t, y_ic_ne_f, b_X6_unlike_25, x_popI, x_popR, f_6_17, x_imul, x_iadd, f_6_4, x_loadI_2, b_X6_unlike_53, x_goto, b_X6_unlike_57, b_X6_unlike_59, x_iinc_4, x_ret0, q_isL_I, q_isL_R, q_isL_S, true_and, and_true, and_self, List.length_nil, List.length_cons, Nat.zero_add, x_K, x_Kn, Int.reduceToNat, Nat.reduceAdd, Nat.reduceMul, Nat.reduceLeDiff, Nat.reduceLT, Nat.zero_le, Int.reduceAdd, Int.reduceSub, Int.reduceMul, Int.reduceNeg, q_add_e, q_sub_e, q_mul_e, q_neg_e, q_upd_s, q_upd_n, zr_shr0, zr_shr1, zr_shr2, zr_shr3, zr_shr4, zr_and, zr_dyn8, zr_or, zr_shl, q_cpy_n, y_cpy26, Int.toNat_natCast, tn_c, tn_30, es3]
          exact fin M3 _ _ t3 hq
  simp (disch := omega) only [b_X6_unlike_0, x_iconst, x_storeI_3, x_loadR_0, x_loadS_0, x_storeI_4, x_loadI_4, f_6_16, x_loadI_1, y_iald_24, y_iald_35, y_iald_180, y_ic_ge_t, y_ic_ge_f, b_X6_unlike_20, x_loadI_3, y_ic_ne_t, y_ic_ne_f, b_X6_unlike_25, x_popI, x_popR, f_6_17, x_imul, x_iadd, f_6_4, x_loadI_2, b_X6_unlike_53, x_goto, b_X6_unlike_57, b_X6_unlike_59, x_iinc_4, x_ret0, q_isL_I, q_isL_R, q_isL_S, true_and, and_true, and_self, List.length_nil, List.length_cons, Nat.zero_add, x_K, x_Kn, Int.reduceToNat, Nat.reduceAdd, Nat.reduceMul, Nat.reduceLeDiff, Nat.reduceLT, Nat.zero_le, Int.reduceAdd, Int.reduceSub, Int.reduceMul, Int.reduceNeg, q_add_e, q_sub_e, q_mul_e, q_neg_e, q_upd_s, q_upd_n, zr_shr0, zr_shr1, zr_shr2, zr_shr3, zr_shr4, zr_and, zr_dyn8, zr_or, zr_shl, q_cpy_n, y_cpy26, c_X6_keeps]
  refine mp_keepT hm q_mq_rf (fun M2 m2 w2 t2 => ?_)
  have e5 : M2 100 5 = M 100 5 := by rw [← mW_91 (M := M2), w2, mW_91]
  have e0 : M2 100 0 = M 100 0 := by rw [← mW_90 (M := M2), w2, mW_90]
  simp (disch := omega) only [b_X6_unlike_0, x_iconst, x_storeI_3, x_loadR_0, x_loadS_0, x_storeI_4, x_loadI_4, f_6_16, x_loadI_1, y_iald_24, y_iald_35, y_iald_180, y_ic_ge_t, y_ic_ge_f, b_X6_unlike_20, x_loadI_3, y_ic_ne_t, y_ic_ne_f, b_X6_unlike_25, x_popI, x_popR, f_6_17, x_imul, x_iadd, f_6_4, x_loadI_2, b_X6_unlike_53, x_goto, b_X6_unlike_57, b_X6_unlike_59, x_iinc_4, x_ret0, q_isL_I, q_isL_R, q_isL_S, true_and, and_true, and_self, List.length_nil, List.length_cons, Nat.zero_add, x_K, x_Kn, Int.reduceToNat, Nat.reduceAdd, Nat.reduceMul, Nat.reduceLeDiff, Nat.reduceLT, Nat.zero_le, Int.reduceAdd, Int.reduceSub, Int.reduceMul, Int.reduceNeg, q_add_e, q_sub_e, q_mul_e, q_neg_e, q_upd_s, q_upd_n, zr_shr0, zr_shr1, zr_shr2, zr_shr3, zr_shr4, zr_and, zr_dyn8, zr_or, zr_shl, q_cpy_n, y_cpy26]
  exact loop (M 111 s).toNat 0 (by omega) M2 m2 w2 (by omega) e0 t2 hq
