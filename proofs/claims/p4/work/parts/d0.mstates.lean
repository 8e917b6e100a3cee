/-! THE MODEL: states, laws -/
def B_states (V : Nat → (Nat → Int) → Int) (M : q_M) (s p so wt : Int) : Int := if q_twA M s p ≠ 0 then q_twA M s p else if ¬((0 ≤ so ∧ so ≤ 1) ∧ (0 ≤ wt ∧ wt ≤ 1)) then -7 else if wt = 0 then F_mn (fun k => G_foA V M (q_upd (mW M) (so.toNat + 2) p.toNat k) s.toNat p.toNat) 100 else F_ls (fun k => G_foA V M (q_upd (mW M) (so.toNat + 2) p.toNat k) s.toNat p.toNat) 100
set_option maxHeartbeats 4000000 in
theorem mp_states {V : Nat → (Nat → Int) → Int} {d : Nat} {g : q_G} {M : q_M} {s p so wt : Int} {Q : Option q_V → q_G → q_M → Prop} (C : q_mi V M) (hq : ∀ M2 : q_M, q_mq M M2 → Q (some (qI (B_states V M s p so wt))) g M2) : q_S 1 (d + 9) 184 [qR 6 100, qI s, qI p, qI so, qI wt] g M Q := by
  have n0 := C.1.1.1
  have y9 := C.2.1
  rw [s_X6_states]
  unfold B_states at hq
  by_cases c1 : q_twA M s p = 0
  · rw [if_neg (fun z => z c1)] at hq
    by_cases cs : 0 ≤ so ∧ so ≤ 1
    · by_cases cw : 0 ≤ wt ∧ wt ≤ 1
      · rw [if_neg (fun z => z ⟨cs, cw⟩)] at hq
        obtain ⟨c2, c3⟩ := q_twA_0 c1
        obtain ⟨c4, c5⟩ := q_mwA_0 c2
        obtain ⟨S, rfl⟩ : ∃ S : Nat, s = S := ⟨s.toNat, by omega⟩
        obtain ⟨N, rfl⟩ : ∃ N : Nat, p = N := ⟨p.toNat, by omega⟩
        obtain ⟨R, rfl⟩ : ∃ R : Nat, so = R := ⟨so.toNat, by omega⟩
        simp only [Int.toNat_natCast] at hq c5
        have hz := C.2.2 S (by omega)
        have hN : N < 5 := by omega
        have hR : R < 2 := by omega
        have tn : (3 * (N : Int) + (R : Int)).toNat = 3 * N + R := by omega
        generalize hT : (fun k : Nat => G_foA V M (q_upd (mW M) (R + 2) N k) S N) = T at hq
        have step : ∀ (M1 : q_M) (k : Nat), k ≤ 99 → (∀ a i, (a < 116 ∨ 124 ≤ a) → (a = 100 → i ≠ 36) → (a = 104 → i ≠ 3 * N + R) → M1 a i = M a i) → q_ml V (q_upd M1 104 (3 * N + R) k) ∧ mW (q_upd M1 104 (3 * N + R) k) = q_upd (mW M) (R + 2) N k ∧ q_mq (q_upd M 104 (3 * N + R) k) (q_upd M1 104 (3 * N + R) k) := by
          intro M1 k hk h1
          have h4 : q_mq (q_upd M 104 (3 * N + R) k) (q_upd M1 104 (3 * N + R) k) := by
            intro x i q1 q2
            by_cases k1 : x = 104 ∧ i = 3 * N + R
            · obtain ⟨rfl, rfl⟩ := k1
              rw [q_upd_s, q_upd_s]
            · rw [q_upd_n (by omega), q_upd_n (by omega)]
              exact h1 x i q1 q2 (by omega)
          rcases (show R = 0 ∨ R = 1 by omega) with e | e
          · subst e
            refine ⟨q_mq_ml h4 (q_ml_up C.1 (q_ok2 (by omega)) (by omega) (by omega) (by omega)), ?_, h4⟩
            rw [q_mq_mW h4]
            exact mW_up2 (by omega)
          · subst e
            refine ⟨q_mq_ml h4 (q_ml_up C.1 (q_ok3 (by omega)) (by omega) (by omega) (by omega)), ?_, h4⟩
            rw [q_mq_mW h4]
            exact mW_up3 (by omega)
        have loop : ∀ j k : Nat, k + j = 100 → ∀ (M1 : q_M) (la : q_V), q_isL la = false → (∀ a i, (a < 116 ∨ 124 ≤ a) → (a = 100 → i ≠ 36) → (a = 104 → i ≠ 3 * N + R) → M1 a i = M a i) → q_T 1 (d + 9) qP_X6_states 59 [] [qR 6 100, qI S, qI N, qI R, qI wt, qI (q_twA M S N), qI (M 104 (3 * N + R)), qI (F_mn T k), qI (F_ls T k), qI k, la] [] g M1 Q := by
          intro j
          induction j with
          | zero =>
            intro k hk M1 la hla h1
            have e : k = 100 := by omega
            subst e
            have fin : q_mq M (q_upd M1 104 (3 * N + R) (M 104 (3 * N + R))) := by
              intro x i q1 q2
              by_cases k1 : x = 104 ∧ i = 3 * N + R
              · obtain ⟨rfl, rfl⟩ := k1
                exact q_upd_s
              · rw [q_upd_n (by omega)]
                exact h1 x i q1 q2 (by omega)
            rw [b_X6_states_59]
            rcases (show wt = 0 ∨ wt = 1 by omega) with e | e
            · rw [if_pos e] at hq
              simp (disch := omega) only [b_X6_states_0, x_loadR_0, x_loadS_0, x_loadI_1, x_loadI_2, x_storeI_5, x_loadI_5, y_if_eq_t, y_if_eq_f, b_X6_states_13, x_ret0, b_X6_states_16, x_loadI_3, x_iconst, b_X6_states_25, x_loadI_4, y_if_ne_t, y_if_ne_f, b_X6_states_35, b_X6_states_38, f_6_4, x_imul, x_iadd, y_iald_35, x_storeI_6, x_storeI_7, x_storeI_8, x_storeI_9, x_loadI_9, y_ic_gt_t, y_ic_gt_f, b_X6_states_66, y_iast_35, y_ic_ne_t, y_ic_ne_f, b_X6_states_88, x_goto, b_X6_states_92, b_X6_states_93, x_storeI_10, x_loadI_7, x_loadI_10, b_X6_states_102, b_X6_states_106, b_X6_states_107, b_X6_states_115, x_loadI_8, b_X6_states_121, b_X6_states_126, b_X6_states_128, x_iinc_9, b_X6_states_136, x_loadI_6, b_X6_states_153, b_X6_states_158, b_X6_states_160, q_isL_I, q_isL_R, q_isL_S, true_and, and_true, and_self, List.length_nil, List.length_cons, Nat.zero_add, x_K, x_Kn, Int.reduceToNat, Nat.reduceAdd, Nat.reduceMul, Nat.reduceLeDiff, Nat.reduceLT, Nat.zero_le, Int.reduceAdd, Int.reduceSub, Int.reduceMul, Int.reduceNeg, q_add_e, q_sub_e, q_mul_e, q_neg_e, q_upd_s, q_upd_n, zr_shr0, zr_shr1, zr_shr2, zr_shr3, zr_shr4, zr_and, zr_dyn8, zr_or, zr_shl, q_cpy_n, y_cpy26, tn]
              exact hq _ fin
            · rw [if_neg (by omega)] at hq
              simp (disch := omega) only [b_X6_states_0, x_loadR_0, x_loadS_0, x_loadI_1, x_loadI_2, x_storeI_5, x_loadI_5, y_if_eq_t, y_if_eq_f, b_X6_states_13, x_ret0, b_X6_states_16, x_loadI_3, x_iconst, b_X6_states_25, x_loadI_4, y_if_ne_t, y_if_ne_f, b_X6_states_35, b_X6_states_38, f_6_4, x_imul, x_iadd, y_iald_35, x_storeI_6, x_storeI_7, x_storeI_8, x_storeI_9, x_loadI_9, y_ic_gt_t, y_ic_gt_f, b_X6_states_66, y_iast_35, y_ic_ne_t, y_ic_ne_f, b_X6_states_88, x_goto, b_X6_states_92, b_X6_states_93, x_storeI_10, x_loadI_7, x_loadI_10, b_X6_states_102, b_X6_states_106, b_X6_states_107, b_X6_states_115, x_loadI_8, b_X6_states_121, b_X6_states_126, b_X6_states_128, x_iinc_9, b_X6_states_136, x_loadI_6, b_X6_states_153, b_X6_states_158, b_X6_states_160, q_isL_I, q_isL_R, q_isL_S, true_and, and_true, and_self, List.length_nil, List.length_cons, Nat.zero_add, x_K, x_Kn, Int.reduceToNat, Nat.reduceAdd, Nat.reduceMul, Nat.reduceLeDiff, Nat.reduceLT, Nat.zero_le, Int.reduceAdd, Int.reduceSub, Int.reduceMul, Int.reduceNeg, q_add_e, q_sub_e, q_mul_e, q_neg_e, q_upd_s, q_upd_n, zr_shr0, zr_shr1, zr_shr2, zr_shr3, zr_shr4, zr_and, zr_dyn8, zr_or, zr_shl, q_cpy_n, y_cpy26, tn]
              exact hq _ fin
          | succ j ih =>
            intro k hk M1 la hla h1
            have e0 : M1 100 0 = M 100 0 := h1 100 0 (by omega) (by omega) (by omega)
            have e5 : M1 100 5 = M 100 5 := h1 100 5 (by omega) (by omega) (by omega)
            have ez : M1 111 S = M 111 S := h1 111 S (by omega) (by omega) (by omega)
            have hm := F_mn_le T k
            have ih2 := ih (k + 1) (by omega)
            rw [F_mn, F_ls] at ih2
            obtain ⟨m2, w2, f2⟩ := step M1 k (by omega) h1
            rw [b_X6_states_59]
            simp (disch := omega) only [b_X6_states_0, x_loadR_0, x_loadS_0, x_loadI_1, x_loadI_2, x_storeI_5, x_loadI_5, y_if_eq_t, y_if_eq_f, b_X6_states_13, x_ret0, b_X6_states_16, x_loadI_3, x_iconst, b_X6_states_25, x_loadI_4, y_if_ne_t, y_if_ne_f, b_X6_states_35, b_X6_states_38, f_6_4, x_imul, x_iadd, y_iald_35, x_storeI_6, x_storeI_7, x_storeI_8, x_storeI_9, x_loadI_9, y_ic_gt_t, y_ic_gt_f, b_X6_states_66, y_iast_35, y_ic_ne_t, y_ic_ne_f, b_X6_states_88, x_goto, b_X6_states_92, b_X6_states_93, x_storeI_10, x_loadI_7, x_loadI_10, b_X6_states_102, b_X6_states_106, b_X6_states_107, b_X6_states_115, x_loadI_8, b_X6_states_121, b_X6_states_126, b_X6_states_128, x_iinc_9, b_X6_states_136, x_loadI_6, b_X6_states_153, b_X6_states_158, b_X6_states_160, q_isL_I, q_isL_R, q_isL_S, true_and, and_true, and_self, List.length_nil, List.length_cons, Nat.zero_add, x_K, x_Kn, Int.reduceToNat, Nat.reduceAdd, Nat.reduceMul, Nat.reduceLeDiff, Nat.reduceLT, Nat.zero_le, Int.reduceAdd, Int.reduceSub, Int.reduceMul, Int.reduceNeg, q_add_e, q_sub_e, q_mul_e, q_neg_e, q_upd_s, q_upd_n, zr_shr0, zr_shr1, zr_shr2, zr_shr3, zr_shr4, zr_and, zr_dyn8, zr_or, zr_shl, q_cpy_n, y_cpy26, tn, c_X6_unlike]
            refine mp_unlike m2 (by rw [q_upd_n (by omega)]; omega) (by omega) (by rw [q_upd_n (by omega)]; omega) (by rw [q_upd_n (by omega)]; omega) (fun M3 h3 => ?_)
            have eT : G_foA V (q_upd M1 104 (3 * N + R) k) (mW (q_upd M1 104 (3 * N + R) k)) S N = T k := by
              rw [← hT, w2]
              exact G_foA_mq (fun i => (q_upd_n (by omega)).trans (h1 112 i (by omega) (by omega) (by omega))) ((q_upd_n (by omega)).trans ez)
            rw [eT]
            have f3 : ∀ a i, (a < 116 ∨ 124 ≤ a) → (a = 100 → i ≠ 36) → (a = 104 → i ≠ 3 * N + R) → M3 a i = M a i := fun a i q1 q2 q3 => (h3 a i q1 q2).trans ((f2 a i q1 q2).trans (q_upd_n (by omega)))
            by_cases c : T k = -1
            · rw [if_pos c] at ih2
              by_cases c7 : F_ls T k = -1
              · rw [if_pos ⟨c, c7⟩] at ih2
                simp (disch := omega) only [b_X6_states_0, x_loadR_0, x_loadS_0, x_loadI_1, x_loadI_2, x_storeI_5, x_loadI_5, y_if_eq_t, y_if_eq_f, b_X6_states_13, x_ret0, b_X6_states_16, x_loadI_3, x_iconst, b_X6_states_25, x_loadI_4, y_if_ne_t, y_if_ne_f, b_X6_states_35, b_X6_states_38, f_6_4, x_imul, x_iadd, y_iald_35, x_storeI_6, x_storeI_7, x_storeI_8, x_storeI_9, x_loadI_9, y_ic_gt_t, y_ic_gt_f, b_X6_states_66, y_iast_35, y_ic_ne_t, y_ic_ne_f, b_X6_states_88, x_goto, b_X6_states_92, b_X6_states_93, x_storeI_10, x_loadI_7, x_loadI_10, b_X6_states_102, b_X6_states_106, b_X6_states_107, b_X6_states_115, x_loadI_8, b_X6_states_121, b_X6_states_126, b_X6_states_128, x_iinc_9, b_X6_states_136, x_loadI_6, b_X6_states_153, b_X6_states_158, b_X6_states_160, q_isL_I, q_isL_R, q_isL_S, true_and, and_true, and_self, List.length_nil, List.length_cons, Nat.zero_add, x_K, x_Kn, Int.reduceToNat, Nat.reduceAdd, Nat.reduceMul, Nat.reduceLeDiff, Nat.reduceLT, Nat.zero_le, Int.reduceAdd, Int.reduceSub, Int.reduceMul, Int.reduceNeg, q_add_e, q_sub_e, q_mul_e, q_neg_e, q_upd_s, q_upd_n, zr_shr0, zr_shr1, zr_shr2, zr_shr3, zr_shr4, zr_and, zr_dyn8, zr_or, zr_shl, q_cpy_n, y_cpy26, hla]
                exact ih2 M3 _ rfl f3
              · rw [if_neg (fun z => c7 z.2)] at ih2
                simp (disch := omega) only [b_X6_states_0, x_loadR_0, x_loadS_0, x_loadI_1, x_loadI_2, x_storeI_5, x_loadI_5, y_if_eq_t, y_if_eq_f, b_X6_states_13, x_ret0, b_X6_states_16, x_loadI_3, x_iconst, b_X6_states_25, x_loadI_4, y_if_ne_t, y_if_ne_f, b_X6_states_35, b_X6_states_38, f_6_4, x_imul, x_iadd, y_iald_35, x_storeI_6, x_storeI_7, x_storeI_8, x_storeI_9, x_loadI_9, y_ic_gt_t, y_ic_gt_f, b_X6_states_66, y_iast_35, y_ic_ne_t, y_ic_ne_f, b_X6_states_88, x_goto, b_X6_states_92, b_X6_states_93, x_storeI_10, x_loadI_7, x_loadI_10, b_X6_states_102, b_X6_states_106, b_X6_states_107, b_X6_states_115, x_loadI_8, b_X6_states_121, b_X6_states_126, b_X6_states_128, x_iinc_9, b_X6_states_136, x_loadI_6, b_X6_states_153, b_X6_states_158, b_X6_states_160, q_isL_I, q_isL_R, q_isL_S, true_and, and_true, and_self, List.length_nil, List.length_cons, Nat.zero_add, x_K, x_Kn, Int.reduceToNat, Nat.reduceAdd, Nat.reduceMul, Nat.reduceLeDiff, Nat.reduceLT, Nat.zero_le, Int.reduceAdd, Int.reduceSub, Int.reduceMul, Int.reduceNeg, q_add_e, q_sub_e, q_mul_e, q_neg_e, q_upd_s, q_upd_n, zr_shr0, zr_shr1, zr_shr2, zr_shr3, zr_shr4, zr_and, zr_dyn8, zr_or, zr_shl, q_cpy_n, y_cpy26, hla]
                exact ih2 M3 _ rfl f3
            · rw [if_neg c, if_neg (fun z => c z.1)] at ih2
              simp (disch := omega) only [b_X6_states_0, x_loadR_0, x_loadS_0, x_loadI_1, x_loadI_2, x_storeI_5, x_loadI_5, y_if_eq_t, y_if_eq_f, b_X6_states_13, x_ret0, b_X6_states_16, x_loadI_3, x_iconst, b_X6_states_25, x_loadI_4, y_if_ne_t, y_if_ne_f, b_X6_states_35, b_X6_states_38, f_6_4, x_imul, x_iadd, y_iald_35, x_storeI_6, x_storeI_7, x_storeI_8, x_storeI_9, x_loadI_9, y_ic_gt_t, y_ic_gt_f, b_X6_states_66, y_iast_35, y_ic_ne_t, y_ic_ne_f, b_X6_states_88, x_goto, b_X6_states_92, b_X6_states_93, x_storeI_10, x_loadI_7, x_loadI_10, b_X6_states_102, b_X6_states_106, b_X6_states_107, b_X6_states_115, x_loadI_8, b_X6_states_121, b_X6_states_126, b_X6_states_128, x_iinc_9, b_X6_states_136, x_loadI_6, b_X6_states_153, b_X6_states_158, b_X6_states_160, q_isL_I, q_isL_R, q_isL_S, true_and, and_true, and_self, List.length_nil, List.length_cons, Nat.zero_add, x_K, x_Kn, Int.reduceToNat, Nat.reduceAdd, Nat.reduceMul, Nat.reduceLeDiff, Nat.reduceLT, Nat.zero_le, Int.reduceAdd, Int.reduceSub, Int.reduceMul, Int.reduceNeg, q_add_e, q_sub_e, q_mul_e, q_neg_e, q_upd_s, q_upd_n, zr_shr0, zr_shr1, zr_shr2, zr_shr3, zr_shr4, zr_and, zr_dyn8, zr_or, zr_shl, q_cpy_n, y_cpy26, hla]
              exact ih2 M3 _ rfl f3
        have l := fun la hl => loop 100 0 rfl M la hl (fun _ _ _ _ _ => rfl)
        simp (disch := omega) only [b_X6_states_0, x_loadR_0, x_loadS_0, x_loadI_1, x_loadI_2, x_storeI_5, x_loadI_5, y_if_eq_t, y_if_eq_f, b_X6_states_13, x_ret0, b_X6_states_16, x_loadI_3, x_iconst, b_X6_states_25, x_loadI_4, y_if_ne_t, y_if_ne_f, b_X6_states_35, b_X6_states_38, f_6_4, x_imul, x_iadd, y_iald_35, x_storeI_6, x_storeI_7, x_storeI_8, x_storeI_9, x_loadI_9, y_ic_gt_t, y_ic_gt_f, b_X6_states_66, y_iast_35, y_ic_ne_t, y_ic_ne_f, b_X6_states_88, x_goto, b_X6_states_92, b_X6_states_93, x_storeI_10, x_loadI_7, x_loadI_10, b_X6_states_102, b_X6_states_106, b_X6_states_107, b_X6_states_115, x_loadI_8, b_X6_states_121, b_X6_states_126, b_X6_states_128, x_iinc_9, b_X6_states_136, x_loadI_6, b_X6_states_153, b_X6_states_158, b_X6_states_160, q_isL_I, q_isL_R, q_isL_S, true_and, and_true, and_self, List.length_nil, List.length_cons, Nat.zero_add, x_K, x_Kn, Int.reduceToNat, Nat.reduceAdd, Nat.reduceMul, Nat.reduceLeDiff, Nat.reduceLT, Nat.zero_le, Int.reduceAdd, Int.reduceSub, Int.reduceMul, Int.reduceNeg, q_add_e, q_sub_e, q_mul_e, q_neg_e, q_upd_s, q_upd_n, zr_shr0, zr_shr1, zr_shr2, zr_shr3, zr_shr4, zr_and, zr_dyn8, zr_or, zr_shl, q_cpy_n, y_cpy26, c_X6_toldWrong, mp_toldWrong, c_X6_in, mp_in, cs, cw, and_self, if_true, tn]
        exact l _ rfl
      · rw [if_pos (fun z => cw z.2)] at hq
        simp (disch := omega) only [b_X6_states_0, x_loadR_0, x_loadS_0, x_loadI_1, x_loadI_2, x_storeI_5, x_loadI_5, y_if_eq_t, y_if_eq_f, b_X6_states_13, x_ret0, b_X6_states_16, x_loadI_3, x_iconst, b_X6_states_25, x_loadI_4, y_if_ne_t, y_if_ne_f, b_X6_states_35, b_X6_states_38, f_6_4, x_imul, x_iadd, y_iald_35, x_storeI_6, x_storeI_7, x_storeI_8, x_storeI_9, x_loadI_9, y_ic_gt_t, y_ic_gt_f, b_X6_states_66, y_iast_35, y_ic_ne_t, y_ic_ne_f, b_X6_states_88, x_goto, b_X6_states_92, b_X6_states_93, x_storeI_10, x_loadI_7, x_loadI_10, b_X6_states_102, b_X6_states_106, b_X6_states_107, b_X6_states_115, x_loadI_8, b_X6_states_121, b_X6_states_126, b_X6_states_128, x_iinc_9, b_X6_states_136, x_loadI_6, b_X6_states_153, b_X6_states_158, b_X6_states_160, q_isL_I, q_isL_R, q_isL_S, true_and, and_true, and_self, List.length_nil, List.length_cons, Nat.zero_add, x_K, x_Kn, Int.reduceToNat, Nat.reduceAdd, Nat.reduceMul, Nat.reduceLeDiff, Nat.reduceLT, Nat.zero_le, Int.reduceAdd, Int.reduceSub, Int.reduceMul, Int.reduceNeg, q_add_e, q_sub_e, q_mul_e, q_neg_e, q_upd_s, q_upd_n, zr_shr0, zr_shr1, zr_shr2, zr_shr3, zr_shr4, zr_and, zr_dyn8, zr_or, zr_shl, q_cpy_n, y_cpy26, c_X6_toldWrong, mp_toldWrong, c_X6_in, mp_in, cs, cw, and_self, if_true, if_false]
        exact hq M q_mq_rf
    · rw [if_pos (fun z => cs z.1)] at hq
      simp (disch := omega) only [b_X6_states_0, x_loadR_0, x_loadS_0, x_loadI_1, x_loadI_2, x_storeI_5, x_loadI_5, y_if_eq_t, y_if_eq_f, b_X6_states_13, x_ret0, b_X6_states_16, x_loadI_3, x_iconst, b_X6_states_25, x_loadI_4, y_if_ne_t, y_if_ne_f, b_X6_states_35, b_X6_states_38, f_6_4, x_imul, x_iadd, y_iald_35, x_storeI_6, x_storeI_7, x_storeI_8, x_storeI_9, x_loadI_9, y_ic_gt_t, y_ic_gt_f, b_X6_states_66, y_iast_35, y_ic_ne_t, y_ic_ne_f, b_X6_states_88, x_goto, b_X6_states_92, b_X6_states_93, x_storeI_10, x_loadI_7, x_loadI_10, b_X6_states_102, b_X6_states_106, b_X6_states_107, b_X6_states_115, x_loadI_8, b_X6_states_121, b_X6_states_126, b_X6_states_128, x_iinc_9, b_X6_states_136, x_loadI_6, b_X6_states_153, b_X6_states_158, b_X6_states_160, q_isL_I, q_isL_R, q_isL_S, true_and, and_true, and_self, List.length_nil, List.length_cons, Nat.zero_add, x_K, x_Kn, Int.reduceToNat, Nat.reduceAdd, Nat.reduceMul, Nat.reduceLeDiff, Nat.reduceLT, Nat.zero_le, Int.reduceAdd, Int.reduceSub, Int.reduceMul, Int.reduceNeg, q_add_e, q_sub_e, q_mul_e, q_neg_e, q_upd_s, q_upd_n, zr_shr0, zr_shr1, zr_shr2, zr_shr3, zr_shr4, zr_and, zr_dyn8, zr_or, zr_shl, q_cpy_n, y_cpy26, c_X6_toldWrong, mp_toldWrong, c_X6_in, mp_in, cs, if_false]
      exact hq M q_mq_rf
  · rw [if_pos c1] at hq
    simp (disch := omega) only [b_X6_states_0, x_loadR_0, x_loadS_0, x_loadI_1, x_loadI_2, x_storeI_5, x_loadI_5, y_if_eq_t, y_if_eq_f, b_X6_states_13, x_ret0, b_X6_states_16, x_loadI_3, x_iconst, b_X6_states_25, x_loadI_4, y_if_ne_t, y_if_ne_f, b_X6_states_35, b_X6_states_38, f_6_4, x_imul, x_iadd, y_iald_35, x_storeI_6, x_storeI_7, x_storeI_8, x_storeI_9, x_loadI_9, y_ic_gt_t, y_ic_gt_f, b_X6_states_66, y_iast_35, y_ic_ne_t, y_ic_ne_f, b_X6_states_88, x_goto, b_X6_states_92, b_X6_states_93, x_storeI_10, x_loadI_7, x_loadI_10, b_X6_states_102, b_X6_states_106, b_X6_states_107, b_X6_states_115, x_loadI_8, b_X6_states_121, b_X6_states_126, b_X6_states_128, x_iinc_9, b_X6_states_136, x_loadI_6, b_X6_states_153, b_X6_states_158, b_X6_states_160, q_isL_I, q_isL_R, q_isL_S, true_and, and_true, and_self, List.length_nil, List.length_cons, Nat.zero_add, x_K, x_Kn, Int.reduceToNat, Nat.reduceAdd, Nat.reduceMul, Nat.reduceLeDiff, Nat.reduceLT, Nat.zero_le, Int.reduceAdd, Int.reduceSub, Int.reduceMul, Int.reduceNeg, q_add_e, q_sub_e, q_mul_e, q_neg_e, q_upd_s, q_upd_n, zr_shr0, zr_shr1, zr_shr2, zr_shr3, zr_shr4, zr_and, zr_dyn8, zr_or, zr_shl, q_cpy_n, y_cpy26, c_X6_toldWrong, mp_toldWrong]
    exact hq M q_mq_rf
/-- a text r of the model says V -/
def q_lawT (V : Nat → (Nat → Int) → Int) (r : Nat) (M : q_M) : Prop := ∀ M' : q_M, (∀ a i, ((a = 106 ∧ 200 * r ≤ i ∧ i < 200 * r + 200) ∨ (a = 107 ∧ 4 * r ≤ i ∧ i < 4 * r + 4)) → M' a i = M a i) → M' 100 11 = r → ∀ (d : Nat) (g : q_G) (Q : Option q_V → q_G → q_M → Prop) (part : Nat), part < 3 → (∀ M2 : q_M, (∀ a i, a ≠ 116 → M2 a i = M' a i) → Q (some (qI (V part (M' 117)))) g M2) → q_S 1 (d + 1) 135 [qR 6 100, qI part] g M' Q
def q_mtx (Vt : Nat → Nat → (Nat → Int) → Int) (tm : Nat) (M : q_M) : Prop := 1 ≤ tm ∧ tm ≤ 6 ∧ M 100 10 = tm ∧ ∀ t, t < tm → q_lawV (Vt t) ∧ q_lawT (Vt t) t M
theorem q_mtx_mq {Vt : Nat → Nat → (Nat → Int) → Int} {tm : Nat} {M M2 : q_M} (h : ∀ a i, (a = 106 ∨ a = 107 ∨ (a = 100 ∧ i = 10)) → M2 a i = M a i) (T : q_mtx Vt tm M) : q_mtx Vt tm M2 := by
  obtain ⟨h1, h2, h3, h4⟩ := T
  exact ⟨h1, h2, (h 100 10 (by omega)).trans h3, fun t ht => ⟨(h4 t ht).1, fun M' q1 q2 => (h4 t ht).2 M' (fun a i ha => (q1 a i ha).trans (h a i (by omega))) q2⟩⟩
theorem q_ml_rule {V : Nat → (Nat → Int) → Int} {r : Nat} {M : q_M} (hb : q_mb M) (hV : q_lawV V) (hT : q_lawT V r M) (hr : M 100 11 = r) : q_ml V M := ⟨hb, hV, fun M' h1 h2 => hT M' (fun a i ha => h1 a i (by omega)) (h2.trans hr)⟩
theorem q_okr {v : Int} {i : Nat} (h : i ≠ 0) (h5 : i ≠ 5) : q_okv 100 i v := ⟨q_okE (by decide), q_okE (by decide), q_okE (by decide), q_okE (by decide), fun _ z => absurd z h5, q_okE (by decide), q_okE (by decide), fun _ => h⟩
def B_laws (Vt : Nat → Nat → (Nat → Int) → Int) (tm : Nat) (M : q_M) (s p : Int) : Int := if q_twA M s p ≠ 0 then q_twA M s p else G_set (fun t => G_foA (Vt t) M (mW M) s.toNat p.toNat) tm
set_option maxHeartbeats 4000000 in
theorem mp_laws {V : Nat → (Nat → Int) → Int} {Vt : Nat → Nat → (Nat → Int) → Int} {d tm : Nat} {g : q_G} {M : q_M} {s p : Int} {Q : Option q_V → q_G → q_M → Prop} (C : q_mi V M) (X : q_mtx Vt tm M) (hq : ∀ M2 : q_M, q_mq M M2 → Q (some (qI (B_laws Vt tm M s p))) g M2) : q_S 1 (d + 9) 186 [qR 6 100, qI s, qI p] g M Q := by
  have n0 := C.1.1.1
  have y9 := C.2.1
  obtain ⟨t1, t6, etm, htx⟩ := X
  rw [s_X6_laws]
  unfold B_laws at hq
  by_cases c1 : q_twA M s p = 0
  · rw [if_neg (fun z => z c1)] at hq
    obtain ⟨c2, c3⟩ := q_twA_0 c1
    obtain ⟨c4, c5⟩ := q_mwA_0 c2
    obtain ⟨S, rfl⟩ : ∃ S : Nat, s = S := ⟨s.toNat, by omega⟩
    obtain ⟨N, rfl⟩ : ∃ N : Nat, p = N := ⟨p.toNat, by omega⟩
    simp only [Int.toNat_natCast] at hq c5
    have hz := C.2.2 S (by omega)
    have hN : N < 5 := by omega
    generalize hT : (fun t : Nat => G_foA (Vt t) M (mW M) S N) = T at hq
    have loop : ∀ j k : Nat, k + j = tm → ∀ M1 : q_M, (∀ a i, (a < 116 ∨ 124 ≤ a) → (a = 100 → i ≠ 36 ∧ i ≠ 11) → M1 a i = M a i) → q_T 1 (d + 9) qP_X6_laws 25 [] [qR 6 100, qI S, qI N, qI (q_twA M S N), qI (M 100 11), qI (G_set T k), qI k] [] g M1 Q := by
      intro j
      induction j with
      | zero =>
        intro k hk M1 h1
        have e1 : M1 100 10 = tm := (h1 100 10 (by omega) (by omega)).trans etm
        have e : k = tm := by omega
        rw [← e] at hq
        have fin : q_mq M (q_upd M1 100 11 (M 100 11)) := by
          intro x i q1 q2
          by_cases k1 : x = 100 ∧ i = 11
          · obtain ⟨rfl, rfl⟩ := k1
            exact q_upd_s
          · rw [q_upd_n (by omega)]
            exact h1 x i q1 (by omega)
        rw [b_X6_laws_25]
        simp (disch := omega) only [b_X6_laws_0, x_loadR_0, x_loadS_0, x_loadI_1, x_loadI_2, x_storeI_3, x_loadI_3, y_if_eq_t, y_if_eq_f, b_X6_laws_11, x_ret0, b_X6_laws_13, f_6_11, x_storeI_4, x_iconst, x_storeI_5, x_storeI_6, x_loadI_6, f_6_10, y_ic_ge_t, y_ic_ge_f, b_X6_laws_34, p_6_11, x_loadI_5, y_ic_ne_t, y_ic_ne_f, b_X6_laws_52, x_ishl, x_goto, b_X6_laws_59, b_X6_laws_60, x_ior, x_iinc_6, b_X6_laws_69, x_loadI_4, q_isL_I, q_isL_R, q_isL_S, true_and, and_true, and_self, List.length_nil, List.length_cons, Nat.zero_add, x_K, x_Kn, Int.reduceToNat, Nat.reduceAdd, Nat.reduceMul, Nat.reduceLeDiff, Nat.reduceLT, Nat.zero_le, Int.reduceAdd, Int.reduceSub, Int.reduceMul, Int.reduceNeg, q_add_e, q_sub_e, q_mul_e, q_neg_e, q_upd_s, q_upd_n, zr_shr0, zr_shr1, zr_shr2, zr_shr3, zr_shr4, zr_and, zr_dyn8, zr_or, zr_shl, q_cpy_n, y_cpy26]
        exact hq _ fin
      | succ j ih =>
        intro k hk M1 h1
        have e1 : M1 100 10 = tm := (h1 100 10 (by omega) (by omega)).trans etm
        have e0 : M1 100 0 = M 100 0 := h1 100 0 (by omega) (by omega)
        have e5 : M1 100 5 = M 100 5 := h1 100 5 (by omega) (by omega)
        have ez : M1 111 S = M 111 S := h1 111 S (by omega) (by omega)
        have ih2 := ih (k + 1) (by omega)
        rw [G_set] at ih2
        have hx := htx k (by omega)
        have hb : q_mb M1 := q_mb_same (fun a i ha => h1 a i (by omega) (by omega)) C.1.1
        have m2 : q_ml (Vt k) (q_upd M1 100 11 k) := q_ml_rule (q_mb_up hb (q_okr (by decide) (by decide))) hx.1 (fun M' q1 q2 => hx.2 M' (fun a i ha => (q1 a i ha).trans ((q_upd_n (by omega)).trans (h1 a i (by omega) (by omega)))) q2) q_upd_s
        have w2 : mW (q_upd M1 100 11 k) = mW M := mW_same (fun a i ha => (q_upd_n (by omega)).trans (h1 a i (by omega) (by omega)))
        rw [b_X6_laws_25]
        simp (disch := omega) only [b_X6_laws_0, x_loadR_0, x_loadS_0, x_loadI_1, x_loadI_2, x_storeI_3, x_loadI_3, y_if_eq_t, y_if_eq_f, b_X6_laws_11, x_ret0, b_X6_laws_13, f_6_11, x_storeI_4, x_iconst, x_storeI_5, x_storeI_6, x_loadI_6, f_6_10, y_ic_ge_t, y_ic_ge_f, b_X6_laws_34, p_6_11, x_loadI_5, y_ic_ne_t, y_ic_ne_f, b_X6_laws_52, x_ishl, x_goto, b_X6_laws_59, b_X6_laws_60, x_ior, x_iinc_6, b_X6_laws_69, x_loadI_4, q_isL_I, q_isL_R, q_isL_S, true_and, and_true, and_self, List.length_nil, List.length_cons, Nat.zero_add, x_K, x_Kn, Int.reduceToNat, Nat.reduceAdd, Nat.reduceMul, Nat.reduceLeDiff, Nat.reduceLT, Nat.zero_le, Int.reduceAdd, Int.reduceSub, Int.reduceMul, Int.reduceNeg, q_add_e, q_sub_e, q_mul_e, q_neg_e, q_upd_s, q_upd_n, zr_shr0, zr_shr1, zr_shr2, zr_shr3, zr_shr4, zr_and, zr_dyn8, zr_or, zr_shl, q_cpy_n, y_cpy26, c_X6_unlike]
        refine mp_unlike m2 (by rw [q_upd_n (by omega)]; omega) (by omega) (by rw [q_upd_n (by omega)]; omega) (by rw [q_upd_n (by omega)]; omega) (fun M3 h3 => ?_)
        have eT : G_foA (Vt k) (q_upd M1 100 11 k) (mW (q_upd M1 100 11 k)) S N = T k := by
          rw [← hT, w2]
          exact G_foA_mq (fun i => (q_upd_n (by omega)).trans (h1 112 i (by omega) (by omega))) ((q_upd_n (by omega)).trans ez)
        rw [eT]
        have f3 : ∀ a i, (a < 116 ∨ 124 ≤ a) → (a = 100 → i ≠ 36 ∧ i ≠ 11) → M3 a i = M a i := fun a i q1 q2 => (h3 a i q1 (by omega)).trans ((q_upd_n (by omega)).trans (h1 a i q1 q2))
        by_cases c : T k = -1
        · rw [if_pos c] at ih2
          simp (disch := omega) only [b_X6_laws_0, x_loadR_0, x_loadS_0, x_loadI_1, x_loadI_2, x_storeI_3, x_loadI_3, y_if_eq_t, y_if_eq_f, b_X6_laws_11, x_ret0, b_X6_laws_13, f_6_11, x_storeI_4, x_iconst, x_storeI_5, x_storeI_6, x_loadI_6, f_6_10, y_ic_ge_t, y_ic_ge_f, b_X6_laws_34, p_6_11, x_loadI_5, y_ic_ne_t, y_ic_ne_f, b_X6_laws_52, x_ishl, x_goto, b_X6_laws_59, b_X6_laws_60, x_ior, x_iinc_6, b_X6_laws_69, x_loadI_4, q_isL_I, q_isL_R, q_isL_S, true_and, and_true, and_self, List.length_nil, List.length_cons, Nat.zero_add, x_K, x_Kn, Int.reduceToNat, Nat.reduceAdd, Nat.reduceMul, Nat.reduceLeDiff, Nat.reduceLT, Nat.zero_le, Int.reduceAdd, Int.reduceSub, Int.reduceMul, Int.reduceNeg, q_add_e, q_sub_e, q_mul_e, q_neg_e, q_upd_s, q_upd_n, zr_shr0, zr_shr1, zr_shr2, zr_shr3, zr_shr4, zr_and, zr_dyn8, zr_or, zr_shl, q_cpy_n, y_cpy26]
          exact ih2 M3 f3
        · rw [if_neg c] at ih2
          simp (disch := omega) only [b_X6_laws_0, x_loadR_0, x_loadS_0, x_loadI_1, x_loadI_2, x_storeI_3, x_loadI_3, y_if_eq_t, y_if_eq_f, b_X6_laws_11, x_ret0, b_X6_laws_13, f_6_11, x_storeI_4, x_iconst, x_storeI_5, x_storeI_6, x_loadI_6, f_6_10, y_ic_ge_t, y_ic_ge_f, b_X6_laws_34, p_6_11, x_loadI_5, y_ic_ne_t, y_ic_ne_f, b_X6_laws_52, x_ishl, x_goto, b_X6_laws_59, b_X6_laws_60, x_ior, x_iinc_6, b_X6_laws_69, x_loadI_4, q_isL_I, q_isL_R, q_isL_S, true_and, and_true, and_self, List.length_nil, List.length_cons, Nat.zero_add, x_K, x_Kn, Int.reduceToNat, Nat.reduceAdd, Nat.reduceMul, Nat.reduceLeDiff, Nat.reduceLT, Nat.zero_le, Int.reduceAdd, Int.reduceSub, Int.reduceMul, Int.reduceNeg, q_add_e, q_sub_e, q_mul_e, q_neg_e, q_upd_s, q_upd_n, zr_shr0, zr_shr1, zr_shr2, zr_shr3, zr_shr4, zr_and, zr_dyn8, zr_or, zr_shl, q_cpy_n, y_cpy26]
          exact ih2 M3 f3
    have l := loop tm 0 (by omega) M (fun _ _ _ _ => rfl)
    simp (disch := omega) only [b_X6_laws_0, x_loadR_0, x_loadS_0, x_loadI_1, x_loadI_2, x_storeI_3, x_loadI_3, y_if_eq_t, y_if_eq_f, b_X6_laws_11, x_ret0, b_X6_laws_13, f_6_11, x_storeI_4, x_iconst, x_storeI_5, x_storeI_6, x_loadI_6, f_6_10, y_ic_ge_t, y_ic_ge_f, b_X6_laws_34, p_6_11, x_loadI_5, y_ic_ne_t, y_ic_ne_f, b_X6_laws_52, x_ishl, x_goto, b_X6_laws_59, b_X6_laws_60, x_ior, x_iinc_6, b_X6_laws_69, x_loadI_4, q_isL_I, q_isL_R, q_isL_S, true_and, and_true, and_self, List.length_nil, List.length_cons, Nat.zero_add, x_K, x_Kn, Int.reduceToNat, Nat.reduceAdd, Nat.reduceMul, Nat.reduceLeDiff, Nat.reduceLT, Nat.zero_le, Int.reduceAdd, Int.reduceSub, Int.reduceMul, Int.reduceNeg, q_add_e, q_sub_e, q_mul_e, q_neg_e, q_upd_s, q_upd_n, zr_shr0, zr_shr1, zr_shr2, zr_shr3, zr_shr4, zr_and, zr_dyn8, zr_or, zr_shl, q_cpy_n, y_cpy26, c_X6_toldWrong, mp_toldWrong]
    exact l
  · rw [if_pos c1] at hq
    simp (disch := omega) only [b_X6_laws_0, x_loadR_0, x_loadS_0, x_loadI_1, x_loadI_2, x_storeI_3, x_loadI_3, y_if_eq_t, y_if_eq_f, b_X6_laws_11, x_ret0, b_X6_laws_13, f_6_11, x_storeI_4, x_iconst, x_storeI_5, x_storeI_6, x_loadI_6, f_6_10, y_ic_ge_t, y_ic_ge_f, b_X6_laws_34, p_6_11, x_loadI_5, y_ic_ne_t, y_ic_ne_f, b_X6_laws_52, x_ishl, x_goto, b_X6_laws_59, b_X6_laws_60, x_ior, x_iinc_6, b_X6_laws_69, x_loadI_4, q_isL_I, q_isL_R, q_isL_S, true_and, and_true, and_self, List.length_nil, List.length_cons, Nat.zero_add, x_K, x_Kn, Int.reduceToNat, Nat.reduceAdd, Nat.reduceMul, Nat.reduceLeDiff, Nat.reduceLT, Nat.zero_le, Int.reduceAdd, Int.reduceSub, Int.reduceMul, Int.reduceNeg, q_add_e, q_sub_e, q_mul_e, q_neg_e, q_upd_s, q_upd_n, zr_shr0, zr_shr1, zr_shr2, zr_shr3, zr_shr4, zr_and, zr_dyn8, zr_or, zr_shl, q_cpy_n, y_cpy26, c_X6_toldWrong, mp_toldWrong]
    exact hq M q_mq_rf
