/-! THE CLASS'S CHOICE: the sums, asked of its own cells alone -/
theorem F_sum_le2 {L : Nat → Nat → Int} {f : Nat → Int} {N : Nat} (hf : ∀ i, 0 ≤ f i ∧ f i ≤ 5) (hL : ∀ p b, p < N → b < 6 → -1000 ≤ L p b ∧ L p b ≤ 1000) : ∀ n : Nat, n ≤ N → -1000 * n ≤ F_sum L f n ∧ F_sum L f n ≤ 1000 * n
  | 0, _ => by rw [F_sum]; omega
  | n + 1, hn => by
    have h := F_sum_le2 hf hL n (by omega)
    have h3 := hf n
    have h2 := hL n (f n).toNat (by omega) (by omega)
    rw [F_sum]
    omega
theorem sp_liked2 {d : Nat} {g : q_G} {M : q_M} {c : Nat} (h0 : 0 ≤ M c 5) (h5 : M c 5 ≤ 5) (hf : ∀ i, 0 ≤ M (c + 2) i ∧ M (c + 2) i ≤ 5) (hL : ∀ p b, p < (M c 5).toNat → b < 6 → -1000 ≤ M (c + 3 + (1 + p)) b ∧ M (c + 3 + (1 + p)) b ≤ 1000) (Q : Option q_V → q_G → q_M → Prop) : q_S 1 d 7 [qR 0 c] g M Q = Q (some (qI (F_sum (fun p => M (c + 3 + (1 + p))) (M (c + 2)) (M c 5).toNat))) g M := by
  refine q_S_eq (fun Q hq => ?_) Q
  rw [s_X0_liked]
  have loop : ∀ k p : Nat, p + k = (M c 5).toNat → q_T 1 d qP_X0_liked 4 [] [qR 0 c, qI (F_sum (fun p => M (c + 3 + (1 + p))) (M (c + 2)) p), qI p] [] g M Q := by
    intro k
    induction k with
    | zero =>
      intro p hp
      have e : p = (M c 5).toNat := by omega
      subst e
      rw [b_X0_liked_4]
      simp (disch := omega) only [b_X0_liked_0, x_iconst, x_storeI_1, x_storeI_2, x_loadI_2, x_loadR_0, x_loadS_0, f_0_5, y_ic_ge_t, y_ic_ge_f, b_X0_liked_12, x_loadI_1, f_0_2, y_aald7, f_0_1, y_iald_26, x_iadd, x_iinc_2, x_goto, b_X0_liked_34, x_ret0, q_isL_I, q_isL_R, q_isL_S, true_and, and_true, and_self, List.length_nil, List.length_cons, Nat.zero_add, x_K, x_Kn, Int.reduceToNat, Nat.reduceAdd, Nat.reduceMul, Nat.reduceLeDiff, Nat.reduceLT, Nat.zero_le, Int.reduceAdd, Int.reduceSub, Int.reduceMul, Int.reduceNeg, q_add_e, q_sub_e, q_mul_e, q_neg_e, q_upd_s, q_upd_n, zr_shr0, zr_shr1, zr_shr2, zr_shr3, zr_shr4, zr_and, zr_dyn8, zr_or, zr_shl, q_cpy_n, y_cpy26]
      exact hq
    | succ k ih =>
      intro p hp
      have hc := F_sum_le2 (N := (M c 5).toNat) (L := fun p => M (c + 3 + (1 + p))) (f := M (c + 2)) hf hL p (by omega)
      have hp9 := hf p
      have hl9 := hL p (M (c + 2) p).toNat (by omega) (by omega)
      have h9 := ih (p + 1) (by omega)
      rw [F_sum] at h9
      rw [b_X0_liked_4]
      simp (disch := omega) only [b_X0_liked_0, x_iconst, x_storeI_1, x_storeI_2, x_loadI_2, x_loadR_0, x_loadS_0, f_0_5, y_ic_ge_t, y_ic_ge_f, b_X0_liked_12, x_loadI_1, f_0_2, y_aald7, f_0_1, y_iald_26, x_iadd, x_iinc_2, x_goto, b_X0_liked_34, x_ret0, q_isL_I, q_isL_R, q_isL_S, true_and, and_true, and_self, List.length_nil, List.length_cons, Nat.zero_add, x_K, x_Kn, Int.reduceToNat, Nat.reduceAdd, Nat.reduceMul, Nat.reduceLeDiff, Nat.reduceLT, Nat.zero_le, Int.reduceAdd, Int.reduceSub, Int.reduceMul, Int.reduceNeg, q_add_e, q_sub_e, q_mul_e, q_neg_e, q_upd_s, q_upd_n, zr_shr0, zr_shr1, zr_shr2, zr_shr3, zr_shr4, zr_and, zr_dyn8, zr_or, zr_shl, q_cpy_n, y_cpy26, Int.toNat_natCast]
      exact h9
  simp (disch := omega) only [b_X0_liked_0, x_iconst, x_storeI_1, x_storeI_2, x_loadI_2, x_loadR_0, x_loadS_0, f_0_5, y_ic_ge_t, y_ic_ge_f, b_X0_liked_12, x_loadI_1, f_0_2, y_aald7, f_0_1, y_iald_26, x_iadd, x_iinc_2, x_goto, b_X0_liked_34, x_ret0, q_isL_I, q_isL_R, q_isL_S, true_and, and_true, and_self, List.length_nil, List.length_cons, Nat.zero_add, x_K, x_Kn, Int.reduceToNat, Nat.reduceAdd, Nat.reduceMul, Nat.reduceLeDiff, Nat.reduceLT, Nat.zero_le, Int.reduceAdd, Int.reduceSub, Int.reduceMul, Int.reduceNeg, q_add_e, q_sub_e, q_mul_e, q_neg_e, q_upd_s, q_upd_n, zr_shr0, zr_shr1, zr_shr2, zr_shr3, zr_shr4, zr_and, zr_dyn8, zr_or, zr_shl, q_cpy_n, y_cpy26]
  exact loop (M c 5).toNat 0 (by omega)
theorem sp_wanted2 {d : Nat} {g : q_G} {M : q_M} {c : Nat} (h0 : 0 ≤ M c 5) (h5 : M c 5 ≤ 5) (hf : ∀ i, 0 ≤ M (c + 2) i ∧ M (c + 2) i ≤ 5) (hL : ∀ p b, p < (M c 5).toNat → b < 6 → -1000 ≤ M (c + 10 + (1 + p)) b ∧ M (c + 10 + (1 + p)) b ≤ 1000) (Q : Option q_V → q_G → q_M → Prop) : q_S 1 d 8 [qR 0 c] g M Q = Q (some (qI (F_sum (fun p => M (c + 10 + (1 + p))) (M (c + 2)) (M c 5).toNat))) g M := by
  refine q_S_eq (fun Q hq => ?_) Q
  rw [s_X0_wanted]
  have loop : ∀ k p : Nat, p + k = (M c 5).toNat → q_T 1 d qP_X0_wanted 4 [] [qR 0 c, qI (F_sum (fun p => M (c + 10 + (1 + p))) (M (c + 2)) p), qI p] [] g M Q := by
    intro k
    induction k with
    | zero =>
      intro p hp
      have e : p = (M c 5).toNat := by omega
      subst e
      rw [b_X0_wanted_4]
      simp (disch := omega) only [b_X0_wanted_0, x_iconst, x_storeI_1, x_storeI_2, x_loadI_2, x_loadR_0, x_loadS_0, f_0_5, y_ic_ge_t, y_ic_ge_f, b_X0_wanted_12, x_loadI_1, f_0_3, y_aald7, f_0_1, y_iald_26, x_iadd, x_iinc_2, x_goto, b_X0_wanted_34, x_ret0, q_isL_I, q_isL_R, q_isL_S, true_and, and_true, and_self, List.length_nil, List.length_cons, Nat.zero_add, x_K, x_Kn, Int.reduceToNat, Nat.reduceAdd, Nat.reduceMul, Nat.reduceLeDiff, Nat.reduceLT, Nat.zero_le, Int.reduceAdd, Int.reduceSub, Int.reduceMul, Int.reduceNeg, q_add_e, q_sub_e, q_mul_e, q_neg_e, q_upd_s, q_upd_n, zr_shr0, zr_shr1, zr_shr2, zr_shr3, zr_shr4, zr_and, zr_dyn8, zr_or, zr_shl, q_cpy_n, y_cpy26]
      exact hq
    | succ k ih =>
      intro p hp
      have hc := F_sum_le2 (N := (M c 5).toNat) (L := fun p => M (c + 10 + (1 + p))) (f := M (c + 2)) hf hL p (by omega)
      have hp9 := hf p
      have hl9 := hL p (M (c + 2) p).toNat (by omega) (by omega)
      have h9 := ih (p + 1) (by omega)
      rw [F_sum] at h9
      rw [b_X0_wanted_4]
      simp (disch := omega) only [b_X0_wanted_0, x_iconst, x_storeI_1, x_storeI_2, x_loadI_2, x_loadR_0, x_loadS_0, f_0_5, y_ic_ge_t, y_ic_ge_f, b_X0_wanted_12, x_loadI_1, f_0_3, y_aald7, f_0_1, y_iald_26, x_iadd, x_iinc_2, x_goto, b_X0_wanted_34, x_ret0, q_isL_I, q_isL_R, q_isL_S, true_and, and_true, and_self, List.length_nil, List.length_cons, Nat.zero_add, x_K, x_Kn, Int.reduceToNat, Nat.reduceAdd, Nat.reduceMul, Nat.reduceLeDiff, Nat.reduceLT, Nat.zero_le, Int.reduceAdd, Int.reduceSub, Int.reduceMul, Int.reduceNeg, q_add_e, q_sub_e, q_mul_e, q_neg_e, q_upd_s, q_upd_n, zr_shr0, zr_shr1, zr_shr2, zr_shr3, zr_shr4, zr_and, zr_dyn8, zr_or, zr_shl, q_cpy_n, y_cpy26, Int.toNat_natCast]
      exact h9
  simp (disch := omega) only [b_X0_wanted_0, x_iconst, x_storeI_1, x_storeI_2, x_loadI_2, x_loadR_0, x_loadS_0, f_0_5, y_ic_ge_t, y_ic_ge_f, b_X0_wanted_12, x_loadI_1, f_0_3, y_aald7, f_0_1, y_iald_26, x_iadd, x_iinc_2, x_goto, b_X0_wanted_34, x_ret0, q_isL_I, q_isL_R, q_isL_S, true_and, and_true, and_self, List.length_nil, List.length_cons, Nat.zero_add, x_K, x_Kn, Int.reduceToNat, Nat.reduceAdd, Nat.reduceMul, Nat.reduceLeDiff, Nat.reduceLT, Nat.zero_le, Int.reduceAdd, Int.reduceSub, Int.reduceMul, Int.reduceNeg, q_add_e, q_sub_e, q_mul_e, q_neg_e, q_upd_s, q_upd_n, zr_shr0, zr_shr1, zr_shr2, zr_shr3, zr_shr4, zr_and, zr_dyn8, zr_or, zr_shl, q_cpy_n, y_cpy26]
  exact loop (M c 5).toNat 0 (by omega)
