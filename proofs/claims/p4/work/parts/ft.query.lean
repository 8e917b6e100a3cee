/-! BOTH SIDES: questions, what they leave -/
set_option maxHeartbeats 4000000 in
theorem cf_count {Vt : Nat → Nat → (Nat → Int) → Int} {d tm l sl : Nat} {g : q_G} {M : q_M} {wt : Int} {Q : Option q_V → q_G → q_M → Prop} (C : q_XI Vt tm l sl M) (hq : ∀ (v : Int) (M2 : q_M), q_tq M M2 → Q (some (qI v)) g M2) : q_S 1 (d + 50) 62 [qR 5 0, qI wt] g M Q := by
  have T := C.1
  have c := C.2.2.1
  have w := c.2.1
  have n5 := q_ci_n c
  have tas := c.1
  exact sp_count (d := d + 48) w (hq _ M q_tq_rf)
set_option maxHeartbeats 4000000 in
theorem cf_site {Vt : Nat → Nat → (Nat → Int) → Int} {d tm l sl : Nat} {g : q_G} {M : q_M} {b wt : Int} {Q : Option q_V → q_G → q_M → Prop} (C : q_XI Vt tm l sl M) (hq : ∀ (v : Int) (M2 : q_M), q_tq M M2 → Q (some (qI v)) g M2) : q_S 1 (d + 50) 65 [qR 5 0, qI b, qI wt] g M Q := by
  have T := C.1
  have c := C.2.2.1
  have w := c.2.1
  have n5 := q_ci_n c
  have tas := c.1
  by_cases c1 : 0 ≤ b ∧ b < 5
  · obtain ⟨B, rfl⟩ : ∃ B : Nat, b = B := ⟨b.toNat, by omega⟩
    rw [sp_site (d := d + 49) (by omega) n5.1 n5.2]
    exact hq _ M q_tq_rf
  · exact sp_siteF (d := d + 49) c1 (hq _ M q_tq_rf)
set_option maxHeartbeats 4000000 in
theorem cf_asks {Vt : Nat → Nat → (Nat → Int) → Int} {d tm l sl : Nat} {g : q_G} {M : q_M} {part p b : Int} {Q : Option q_V → q_G → q_M → Prop} (C : q_XI Vt tm l sl M) (hq : ∀ (v : Int) (M2 : q_M), q_tq M M2 → Q (some (qI v)) g M2) : q_S 1 (d + 50) 69 [qR 5 0, qI part, qI p, qI b] g M Q := by
  have T := C.1
  have c := C.2.2.1
  have w := c.2.1
  have n5 := q_ci_n c
  have tas := c.1
  by_cases c1 : 0 ≤ part ∧ part < 3
  · by_cases c2 : 0 ≤ p ∧ p < M 12 5
    · by_cases c3 : b = -1 ∨ (0 ≤ b ∧ b < 5)
      · obtain ⟨PT, rfl⟩ : ∃ n : Nat, part = n := ⟨part.toNat, by omega⟩
        obtain ⟨P, rfl⟩ : ∃ n : Nat, p = n := ⟨p.toNat, by omega⟩
        exact sp_asks (d := d + 48) w (by omega) (show P < (M 12 5).toNat by omega) c3 (fun M2 h => hq _ M2 (q_tq_fwd tas h))
      · have c4 : ¬(0 ≤ b ∧ b < 5) := by omega
        rw [s_X5_asks]
        simp (disch := omega) only [b_X5_asks_0, x_loadI_1, y_if_lt_t, y_if_lt_f, b_X5_asks_4, x_iconst, y_ic_ge_t, y_ic_ge_f, b_X5_asks_9, x_loadR_0, x_loadS_0, x_loadI_2, y_if_eq_t, y_if_eq_f, b_X5_asks_17, x_loadI_3, y_ic_eq_t, y_ic_eq_f, b_X5_asks_22, y_if_ne_t, y_if_ne_f, b_X5_asks_29, x_ret0, b_X5_asks_33, f_5_3, y_ic_ne_t, y_ic_ne_f, b_X5_asks_44, x_goto, b_X5_asks_48, b_X5_asks_49, q_isL_I, q_isL_R, q_isL_S, true_and, and_true, and_self, List.length_nil, List.length_cons, Nat.zero_add, x_K, x_Kn, Int.reduceToNat, Nat.reduceAdd, Nat.reduceMul, Nat.reduceLeDiff, Nat.reduceLT, Nat.zero_le, Int.reduceAdd, Int.reduceSub, Int.reduceMul, Int.reduceNeg, q_add_e, q_sub_e, q_mul_e, q_neg_e, q_upd_s, q_upd_n, zr_shr0, zr_shr1, zr_shr2, zr_shr3, zr_shr4, zr_and, zr_dyn8, zr_or, zr_shl, q_cpy_n, y_cpy26, c_X5_isStone, sp_isStone, c_X5_isBuilding, sp_isBuilding, c2, and_self, if_true, c4, if_false]
        exact hq _ M q_tq_rf
    · rw [s_X5_asks]
      simp (disch := omega) only [b_X5_asks_0, x_loadI_1, y_if_lt_t, y_if_lt_f, b_X5_asks_4, x_iconst, y_ic_ge_t, y_ic_ge_f, b_X5_asks_9, x_loadR_0, x_loadS_0, x_loadI_2, y_if_eq_t, y_if_eq_f, b_X5_asks_17, x_loadI_3, y_ic_eq_t, y_ic_eq_f, b_X5_asks_22, y_if_ne_t, y_if_ne_f, b_X5_asks_29, x_ret0, b_X5_asks_33, f_5_3, y_ic_ne_t, y_ic_ne_f, b_X5_asks_44, x_goto, b_X5_asks_48, b_X5_asks_49, q_isL_I, q_isL_R, q_isL_S, true_and, and_true, and_self, List.length_nil, List.length_cons, Nat.zero_add, x_K, x_Kn, Int.reduceToNat, Nat.reduceAdd, Nat.reduceMul, Nat.reduceLeDiff, Nat.reduceLT, Nat.zero_le, Int.reduceAdd, Int.reduceSub, Int.reduceMul, Int.reduceNeg, q_add_e, q_sub_e, q_mul_e, q_neg_e, q_upd_s, q_upd_n, zr_shr0, zr_shr1, zr_shr2, zr_shr3, zr_shr4, zr_and, zr_dyn8, zr_or, zr_shl, q_cpy_n, y_cpy26, c_X5_isStone, sp_isStone, c_X5_isBuilding, sp_isBuilding, c2, if_false]
      exact hq _ M q_tq_rf
  · rw [s_X5_asks]
    by_cases c5 : part < 0
    · simp (disch := omega) only [b_X5_asks_0, x_loadI_1, y_if_lt_t, y_if_lt_f, b_X5_asks_4, x_iconst, y_ic_ge_t, y_ic_ge_f, b_X5_asks_9, x_loadR_0, x_loadS_0, x_loadI_2, y_if_eq_t, y_if_eq_f, b_X5_asks_17, x_loadI_3, y_ic_eq_t, y_ic_eq_f, b_X5_asks_22, y_if_ne_t, y_if_ne_f, b_X5_asks_29, x_ret0, b_X5_asks_33, f_5_3, y_ic_ne_t, y_ic_ne_f, b_X5_asks_44, x_goto, b_X5_asks_48, b_X5_asks_49, q_isL_I, q_isL_R, q_isL_S, true_and, and_true, and_self, List.length_nil, List.length_cons, Nat.zero_add, x_K, x_Kn, Int.reduceToNat, Nat.reduceAdd, Nat.reduceMul, Nat.reduceLeDiff, Nat.reduceLT, Nat.zero_le, Int.reduceAdd, Int.reduceSub, Int.reduceMul, Int.reduceNeg, q_add_e, q_sub_e, q_mul_e, q_neg_e, q_upd_s, q_upd_n, zr_shr0, zr_shr1, zr_shr2, zr_shr3, zr_shr4, zr_and, zr_dyn8, zr_or, zr_shl, q_cpy_n, y_cpy26, c_X5_isStone, sp_isStone, c_X5_isBuilding, sp_isBuilding]
      exact hq _ M q_tq_rf
    · simp (disch := omega) only [b_X5_asks_0, x_loadI_1, y_if_lt_t, y_if_lt_f, b_X5_asks_4, x_iconst, y_ic_ge_t, y_ic_ge_f, b_X5_asks_9, x_loadR_0, x_loadS_0, x_loadI_2, y_if_eq_t, y_if_eq_f, b_X5_asks_17, x_loadI_3, y_ic_eq_t, y_ic_eq_f, b_X5_asks_22, y_if_ne_t, y_if_ne_f, b_X5_asks_29, x_ret0, b_X5_asks_33, f_5_3, y_ic_ne_t, y_ic_ne_f, b_X5_asks_44, x_goto, b_X5_asks_48, b_X5_asks_49, q_isL_I, q_isL_R, q_isL_S, true_and, and_true, and_self, List.length_nil, List.length_cons, Nat.zero_add, x_K, x_Kn, Int.reduceToNat, Nat.reduceAdd, Nat.reduceMul, Nat.reduceLeDiff, Nat.reduceLT, Nat.zero_le, Int.reduceAdd, Int.reduceSub, Int.reduceMul, Int.reduceNeg, q_add_e, q_sub_e, q_mul_e, q_neg_e, q_upd_s, q_upd_n, zr_shr0, zr_shr1, zr_shr2, zr_shr3, zr_shr4, zr_and, zr_dyn8, zr_or, zr_shl, q_cpy_n, y_cpy26, c_X5_isStone, sp_isStone, c_X5_isBuilding, sp_isBuilding]
      exact hq _ M q_tq_rf
set_option maxHeartbeats 4000000 in
theorem cf_told {Vt : Nat → Nat → (Nat → Int) → Int} {d tm l sl : Nat} {g : q_G} {M : q_M} {p wt : Int} {Q : Option q_V → q_G → q_M → Prop} (C : q_XI Vt tm l sl M) (hq : ∀ (v : Int) (M2 : q_M), q_tq M M2 → Q (some (qI v)) g M2) : q_S 1 (d + 50) 72 [qR 5 0, qI p, qI wt] g M Q := by
  have T := C.1
  have c := C.2.2.1
  have w := c.2.1
  have n5 := q_ci_n c
  have tas := c.1
  by_cases c1 : 0 ≤ p ∧ p < M 12 5
  · obtain ⟨P, rfl⟩ : ∃ n : Nat, p = n := ⟨p.toNat, by omega⟩
    exact sp_told (d := d + 46) w (show P < (M 12 5).toNat by omega) (c.2.2.2.1.1 P (by omega)) (fun M2 h => hq _ M2 (q_tq_tel tas h))
  · exact sp_toldF (d := d + 49) c1 (hq _ M q_tq_rf)
set_option maxHeartbeats 4000000 in
theorem cf_love {Vt : Nat → Nat → (Nat → Int) → Int} {d tm l sl : Nat} {g : q_G} {M : q_M} {p b wt : Int} {Q : Option q_V → q_G → q_M → Prop} (C : q_XI Vt tm l sl M) (hq : ∀ (v : Int) (M2 : q_M), q_tq M M2 → Q (some (qI v)) g M2) : q_S 1 (d + 50) 73 [qR 5 0, qI p, qI b, qI wt] g M Q := by
  have T := C.1
  have c := C.2.2.1
  have w := c.2.1
  have n5 := q_ci_n c
  have tas := c.1
  by_cases c2 : 0 ≤ p ∧ p < M 12 5
  · by_cases c3 : 0 ≤ b ∧ b < 5
    · obtain ⟨P, rfl⟩ : ∃ n : Nat, p = n := ⟨p.toNat, by omega⟩
      obtain ⟨B, rfl⟩ : ∃ n : Nat, b = n := ⟨b.toNat, by omega⟩
      exact sp_love (d := d + 47) w (show P < (M 12 5).toNat by omega) (by omega) (fun M2 h => hq _ M2 (q_tq_fwd tas h))
    · rw [s_X5_love]
      simp (disch := omega) only [b_X5_love_0, x_loadR_0, x_loadS_0, x_loadI_1, y_if_eq_t, y_if_eq_f, b_X5_love_8, x_loadI_2, y_if_ne_t, y_if_ne_f, b_X5_love_15, x_iconst, x_ret0, b_X5_love_19, x_loadI_3, tw_5_0, tw_5_1, tw_5_o, b_X5_love_48, f_5_3, b_X5_love_58, b_X5_love_68, q_isL_I, q_isL_R, q_isL_S, true_and, and_true, and_self, List.length_nil, List.length_cons, Nat.zero_add, x_K, x_Kn, Int.reduceToNat, Nat.reduceAdd, Nat.reduceMul, Nat.reduceLeDiff, Nat.reduceLT, Nat.zero_le, Int.reduceAdd, Int.reduceSub, Int.reduceMul, Int.reduceNeg, q_add_e, q_sub_e, q_mul_e, q_neg_e, q_upd_s, q_upd_n, zr_shr0, zr_shr1, zr_shr2, zr_shr3, zr_shr4, zr_and, zr_dyn8, zr_or, zr_shl, q_cpy_n, y_cpy26, c_X5_isStone, sp_isStone, c_X5_isBuilding, sp_isBuilding, c2, and_self, if_true, c3, if_false]
      exact hq _ M q_tq_rf
  · rw [s_X5_love]
    simp (disch := omega) only [b_X5_love_0, x_loadR_0, x_loadS_0, x_loadI_1, y_if_eq_t, y_if_eq_f, b_X5_love_8, x_loadI_2, y_if_ne_t, y_if_ne_f, b_X5_love_15, x_iconst, x_ret0, b_X5_love_19, x_loadI_3, tw_5_0, tw_5_1, tw_5_o, b_X5_love_48, f_5_3, b_X5_love_58, b_X5_love_68, q_isL_I, q_isL_R, q_isL_S, true_and, and_true, and_self, List.length_nil, List.length_cons, Nat.zero_add, x_K, x_Kn, Int.reduceToNat, Nat.reduceAdd, Nat.reduceMul, Nat.reduceLeDiff, Nat.reduceLT, Nat.zero_le, Int.reduceAdd, Int.reduceSub, Int.reduceMul, Int.reduceNeg, q_add_e, q_sub_e, q_mul_e, q_neg_e, q_upd_s, q_upd_n, zr_shr0, zr_shr1, zr_shr2, zr_shr3, zr_shr4, zr_and, zr_dyn8, zr_or, zr_shl, q_cpy_n, y_cpy26, c_X5_isStone, sp_isStone, c_X5_isBuilding, sp_isBuilding, c2, if_false]
    exact hq _ M q_tq_rf
set_option maxHeartbeats 4000000 in
theorem cf_run {Vt : Nat → Nat → (Nat → Int) → Int} {d tm l sl : Nat} {g : q_G} {M : q_M} {n wt : Int} {Q : Option q_V → q_G → q_M → Prop} (C : q_XI Vt tm l sl M) (hq : ∀ (v : Int) (M2 : q_M), q_tq M M2 → Q (some (qI v)) g M2) (hwt : -2147483648 ≤ wt ∧ wt ≤ 2147483647) : q_S 1 (d + 50) 75 [qR 5 0, qI n, qI wt] g M Q := by
  have T := C.1
  have c := C.2.2.1
  have w := c.2.1
  have n5 := q_ci_n c
  have tas := c.1
  by_cases c1 : 0 ≤ n ∧ n ≤ 40
  · by_cases c2 : wt = 0 ∨ wt = 1 ∨ (0 ≤ wt - 10 ∧ wt - 10 < M 12 5)
    · obtain ⟨N, rfl⟩ : ∃ k : Nat, n = k := ⟨n.toNat, by omega⟩
      exact sp_run (d := d + 45) (q_ci_t c) w c.2.2.1 c.2.2.2.2.1.1 c.2.2.2.2.2.1 (by omega) c2 (fun M2 h h2 h3 => hq _ M2 (q_tq_th tas h))
    · by_cases c3 : -2147483638 ≤ wt
      · have c4 : ¬(0 ≤ wt - 10 ∧ wt - 10 < M 12 5) := by omega
        rw [s_X5_run]
        simp (disch := omega) only [b_X5_run_0, x_loadI_1, y_if_lt_t, y_if_lt_f, b_X5_run_4, x_iconst, y_ic_le_t, y_ic_le_f, b_X5_run_10, x_ret0, b_X5_run_13, x_loadI_2, y_if_eq_t, y_if_eq_f, b_X5_run_17, y_ic_ne_t, y_ic_ne_f, b_X5_run_22, x_goto, b_X5_run_26, b_X5_run_27, x_storeI_3, x_loadI_3, y_if_ne_t, y_if_ne_f, b_X5_run_32, x_loadR_0, x_loadS_0, x_isub, b_X5_run_43, b_X5_run_46, f_5_4, f_5_3, x_storeI_4, b_X5_run_60, x_loadI_4, y_ic_ge_t, y_ic_ge_f, b_X5_run_66, x_popI, x_popR, x_iinc_4, b_X5_run_80, b_X5_run_84, b_X5_run_88, f_4_0, b_X5_run_101, b_X5_run_111, b_X5_run_112, f_4_6, y_iald_26, q_isL_I, q_isL_R, q_isL_S, true_and, and_true, and_self, List.length_nil, List.length_cons, Nat.zero_add, x_K, x_Kn, Int.reduceToNat, Nat.reduceAdd, Nat.reduceMul, Nat.reduceLeDiff, Nat.reduceLT, Nat.zero_le, Int.reduceAdd, Int.reduceSub, Int.reduceMul, Int.reduceNeg, q_add_e, q_sub_e, q_mul_e, q_neg_e, q_upd_s, q_upd_n, zr_shr0, zr_shr1, zr_shr2, zr_shr3, zr_shr4, zr_and, zr_dyn8, zr_or, zr_shl, q_cpy_n, y_cpy26, c_X5_isStone, sp_isStone, c4, if_false]
        exact hq _ M q_tq_rf
      · have e : q_sub wt 10 = wt - 10 + 4294967296 := by
          rw [q_sub_b, Int.bmod_def]
          split <;> omega
        have c4 : ¬(0 ≤ wt - 10 + 4294967296 ∧ wt - 10 + 4294967296 < M 12 5) := by omega
        rw [s_X5_run]
        simp (disch := omega) only [b_X5_run_0, x_loadI_1, y_if_lt_t, y_if_lt_f, b_X5_run_4, x_iconst, y_ic_le_t, y_ic_le_f, b_X5_run_10, x_ret0, b_X5_run_13, x_loadI_2, y_if_eq_t, y_if_eq_f, b_X5_run_17, y_ic_ne_t, y_ic_ne_f, b_X5_run_22, x_goto, b_X5_run_26, b_X5_run_27, x_storeI_3, x_loadI_3, y_if_ne_t, y_if_ne_f, b_X5_run_32, x_loadR_0, x_loadS_0, x_isub, b_X5_run_43, b_X5_run_46, f_5_4, f_5_3, x_storeI_4, b_X5_run_60, x_loadI_4, y_ic_ge_t, y_ic_ge_f, b_X5_run_66, x_popI, x_popR, x_iinc_4, b_X5_run_80, b_X5_run_84, b_X5_run_88, f_4_0, b_X5_run_101, b_X5_run_111, b_X5_run_112, f_4_6, y_iald_26, q_isL_I, q_isL_R, q_isL_S, true_and, and_true, and_self, List.length_nil, List.length_cons, Nat.zero_add, x_K, x_Kn, Int.reduceToNat, Nat.reduceAdd, Nat.reduceMul, Nat.reduceLeDiff, Nat.reduceLT, Nat.zero_le, Int.reduceAdd, Int.reduceSub, Int.reduceMul, Int.reduceNeg, q_add_e, q_sub_e, q_mul_e, q_neg_e, q_upd_s, q_upd_n, zr_shr0, zr_shr1, zr_shr2, zr_shr3, zr_shr4, zr_and, zr_dyn8, zr_or, zr_shl, q_cpy_n, y_cpy26, c_X5_isStone, sp_isStone, e, c4, if_false]
        exact hq _ M q_tq_rf
  · rw [s_X5_run]
    by_cases c5 : n < 0
    · simp (disch := omega) only [b_X5_run_0, x_loadI_1, y_if_lt_t, y_if_lt_f, b_X5_run_4, x_iconst, y_ic_le_t, y_ic_le_f, b_X5_run_10, x_ret0, b_X5_run_13, x_loadI_2, y_if_eq_t, y_if_eq_f, b_X5_run_17, y_ic_ne_t, y_ic_ne_f, b_X5_run_22, x_goto, b_X5_run_26, b_X5_run_27, x_storeI_3, x_loadI_3, y_if_ne_t, y_if_ne_f, b_X5_run_32, x_loadR_0, x_loadS_0, x_isub, b_X5_run_43, b_X5_run_46, f_5_4, f_5_3, x_storeI_4, b_X5_run_60, x_loadI_4, y_ic_ge_t, y_ic_ge_f, b_X5_run_66, x_popI, x_popR, x_iinc_4, b_X5_run_80, b_X5_run_84, b_X5_run_88, f_4_0, b_X5_run_101, b_X5_run_111, b_X5_run_112, f_4_6, y_iald_26, q_isL_I, q_isL_R, q_isL_S, true_and, and_true, and_self, List.length_nil, List.length_cons, Nat.zero_add, x_K, x_Kn, Int.reduceToNat, Nat.reduceAdd, Nat.reduceMul, Nat.reduceLeDiff, Nat.reduceLT, Nat.zero_le, Int.reduceAdd, Int.reduceSub, Int.reduceMul, Int.reduceNeg, q_add_e, q_sub_e, q_mul_e, q_neg_e, q_upd_s, q_upd_n, zr_shr0, zr_shr1, zr_shr2, zr_shr3, zr_shr4, zr_and, zr_dyn8, zr_or, zr_shl, q_cpy_n, y_cpy26, c_X5_isStone, sp_isStone]
      exact hq _ M q_tq_rf
    · simp (disch := omega) only [b_X5_run_0, x_loadI_1, y_if_lt_t, y_if_lt_f, b_X5_run_4, x_iconst, y_ic_le_t, y_ic_le_f, b_X5_run_10, x_ret0, b_X5_run_13, x_loadI_2, y_if_eq_t, y_if_eq_f, b_X5_run_17, y_ic_ne_t, y_ic_ne_f, b_X5_run_22, x_goto, b_X5_run_26, b_X5_run_27, x_storeI_3, x_loadI_3, y_if_ne_t, y_if_ne_f, b_X5_run_32, x_loadR_0, x_loadS_0, x_isub, b_X5_run_43, b_X5_run_46, f_5_4, f_5_3, x_storeI_4, b_X5_run_60, x_loadI_4, y_ic_ge_t, y_ic_ge_f, b_X5_run_66, x_popI, x_popR, x_iinc_4, b_X5_run_80, b_X5_run_84, b_X5_run_88, f_4_0, b_X5_run_101, b_X5_run_111, b_X5_run_112, f_4_6, y_iald_26, q_isL_I, q_isL_R, q_isL_S, true_and, and_true, and_self, List.length_nil, List.length_cons, Nat.zero_add, x_K, x_Kn, Int.reduceToNat, Nat.reduceAdd, Nat.reduceMul, Nat.reduceLeDiff, Nat.reduceLT, Nat.zero_le, Int.reduceAdd, Int.reduceSub, Int.reduceMul, Int.reduceNeg, q_add_e, q_sub_e, q_mul_e, q_neg_e, q_upd_s, q_upd_n, zr_shr0, zr_shr1, zr_shr2, zr_shr3, zr_shr4, zr_and, zr_dyn8, zr_or, zr_shl, q_cpy_n, y_cpy26, c_X5_isStone, sp_isStone]
      exact hq _ M q_tq_rf
set_option maxHeartbeats 4000000 in
theorem cf_when {Vt : Nat → Nat → (Nat → Int) → Int} {d tm l sl : Nat} {g : q_G} {M : q_M} {p wt : Int} {Q : Option q_V → q_G → q_M → Prop} (C : q_XI Vt tm l sl M) (hq : ∀ (v : Int) (M2 : q_M), q_tq M M2 → Q (some (qI v)) g M2) : q_S 1 (d + 50) 76 [qR 5 0, qI p, qI wt] g M Q := by
  have T := C.1
  have c := C.2.2.1
  have w := c.2.1
  have n5 := q_ci_n c
  have tas := c.1
  by_cases c1 : 0 ≤ p ∧ p < M 12 5
  · by_cases c2 : wt = -1 ∨ (0 ≤ wt ∧ wt < 5)
    · obtain ⟨P, rfl⟩ : ∃ k : Nat, p = k := ⟨p.toNat, by omega⟩
      exact sp_when (d := d + 44) (q_ci_t c) w c.2.2.1 c.2.2.2.2.1.1 c.2.2.2.2.2.1 (by omega) c2 (fun M2 h => hq _ M2 (q_tq_th tas h))
    · exact sp_whenG (d := d + 49) c1 (by omega) (by omega) (hq _ M q_tq_rf)
  · exact sp_whenF (d := d + 49) c1 (hq _ M q_tq_rf)
set_option maxHeartbeats 4000000 in
theorem cf_peace {Vt : Nat → Nat → (Nat → Int) → Int} {d tm l sl : Nat} {g : q_G} {M : q_M} {wt : Int} {Q : Option q_V → q_G → q_M → Prop} (C : q_XI Vt tm l sl M) (hq : ∀ (v : Int) (M2 : q_M), q_tq M M2 → Q (some (qI v)) g M2) : q_S 1 (d + 50) 77 [qR 5 0, qI wt] g M Q := by
  have T := C.1
  have c := C.2.2.1
  have w := c.2.1
  have n5 := q_ci_n c
  have tas := c.1
  by_cases c1 : 0 ≤ wt ∧ wt ≤ 2
  · exact sp_peace (d := d + 46) w c.2.2.2.1.1 c.2.2.2.1.2 c1 (fun M2 h _ => hq _ M2 (q_tq_tel tas h))
  · exact sp_peaceF (by omega) (hq _ M q_tq_rf)
set_option maxHeartbeats 4000000 in
theorem cf_court {Vt : Nat → Nat → (Nat → Int) → Int} {d tm l sl : Nat} {g : q_G} {M : q_M} {wt : Int} {Q : Option q_V → q_G → q_M → Prop} (C : q_XI Vt tm l sl M) (hq : ∀ (v : Int) (M2 : q_M), q_tq M M2 → Q (some (qI v)) g M2) : q_S 1 (d + 50) 78 [qR 5 0, qI wt] g M Q := by
  have T := C.1
  have c := C.2.2.1
  have w := c.2.1
  have n5 := q_ci_n c
  have tas := c.1
  by_cases c1 : 0 ≤ wt ∧ wt ≤ 2
  · refine sp_court (d := d + 45) (q_ci_t c) w c.2.2.1 c.2.2.2.2.1.1 c.2.2.2.2.1.2 c1 (fun M2 M3 h h2 h3 h4 => ?_)
    have hn : M2 39 5 = M 12 5 := by
      have := congrFun (congrFun h2 9) 0
      rw [cW_90, cW_90] at this
      exact this
    have hx : q_tq M M3 := by
      rw [h4]
      exact q_tq_cM (q_tq_th tas h) (q_hi_tr F_fr_hi (F_turn_hi (by omega) 1000 _))
    exact hq _ M3 hx
  · exact sp_courtF (by omega) (hq _ M q_tq_rf)
set_option maxHeartbeats 4000000 in
theorem cf_all {Vt : Nat → Nat → (Nat → Int) → Int} {d tm l sl : Nat} {g : q_G} {M : q_M} {wt : Int} {Q : Option q_V → q_G → q_M → Prop} (C : q_XI Vt tm l sl M) (hq : ∀ (v : Int) (M2 : q_M), q_tq M M2 → Q (some (qI v)) g M2) : q_S 1 (d + 50) 79 [qR 5 0, qI wt] g M Q := by
  have T := C.1
  have c := C.2.2.1
  have w := c.2.1
  have n5 := q_ci_n c
  have tas := c.1
  by_cases c1 : 0 ≤ wt ∧ wt ≤ 4
  · exact sp_all (d := d + 44) c c1 (fun M2 M3 _ h => hq _ M3 h)
  · exact sp_allF (by omega) (hq _ M q_tq_rf)
set_option maxHeartbeats 4000000 in
theorem cf_annex {Vt : Nat → Nat → (Nat → Int) → Int} {d tm l sl : Nat} {g : q_G} {M : q_M} {wt : Int} {Q : Option q_V → q_G → q_M → Prop} (C : q_XI Vt tm l sl M) (hq : ∀ (v : Int) (M2 : q_M), q_tq M M2 → Q (some (qI v)) g M2) : q_S 1 (d + 50) 80 [qR 5 0, qI wt] g M Q := by
  have T := C.1
  have c := C.2.2.1
  have w := c.2.1
  have n5 := q_ci_n c
  have tas := c.1
  by_cases c1 : 0 ≤ wt ∧ wt ≤ 1
  · exact sp_annex (d := d + 44) c c1 (fun M2 M3 _ h => hq _ M3 h)
  · exact sp_annexF (by omega) (hq _ M q_tq_rf)
set_option maxHeartbeats 4000000 in
theorem cf_cart {Vt : Nat → Nat → (Nat → Int) → Int} {d tm l sl : Nat} {g : q_G} {M : q_M} {p wt : Int} {Q : Option q_V → q_G → q_M → Prop} (C : q_XI Vt tm l sl M) (hq : ∀ (v : Int) (M2 : q_M), q_tq M M2 → Q (some (qI v)) g M2) : q_S 1 (d + 50) 81 [qR 5 0, qI p, qI wt] g M Q := by
  have T := C.1
  have c := C.2.2.1
  have w := c.2.1
  have n5 := q_ci_n c
  have tas := c.1
  exact sp_cart (d := d + 44) c (fun M2 h => hq _ M2 h)
set_option maxHeartbeats 4000000 in
theorem cf_judge {Vt : Nat → Nat → (Nat → Int) → Int} {d tm l sl : Nat} {g : q_G} {M : q_M} {s p : Int} {Q : Option q_V → q_G → q_M → Prop} (C : q_XI Vt tm l sl M) (hq : ∀ (v : Int) (M2 : q_M), q_tq M M2 → Q (some (qI v)) g M2) : q_S 1 (d + 50) 83 [qR 5 0, qI s, qI p] g M Q := by
  have T := C.1
  have c := C.2.2.1
  have w := c.2.1
  have n5 := q_ci_n c
  have tas := c.1
  exact sp_judge (d := d + 44) c (fun M2 h => hq _ M2 h)
set_option maxHeartbeats 4000000 in
theorem cf_kinds {Vt : Nat → Nat → (Nat → Int) → Int} {d tm l sl : Nat} {g : q_G} {M : q_M} {s p so : Int} {Q : Option q_V → q_G → q_M → Prop} (C : q_XI Vt tm l sl M) (hq : ∀ (v : Int) (M2 : q_M), q_tq M M2 → Q (some (qI v)) g M2) : q_S 1 (d + 50) 84 [qR 5 0, qI s, qI p, qI so] g M Q := by
  have T := C.1
  have c := C.2.2.1
  have w := c.2.1
  have n5 := q_ci_n c
  have tas := c.1
  exact sp_kinds (d := d + 44) c (fun M2 h => hq _ M2 h)
set_option maxHeartbeats 4000000 in
theorem cf_states {Vt : Nat → Nat → (Nat → Int) → Int} {d tm l sl : Nat} {g : q_G} {M : q_M} {s p so wt : Int} {Q : Option q_V → q_G → q_M → Prop} (C : q_XI Vt tm l sl M) (hq : ∀ (v : Int) (M2 : q_M), q_tq M M2 → Q (some (qI v)) g M2) : q_S 1 (d + 50) 85 [qR 5 0, qI s, qI p, qI so, qI wt] g M Q := by
  have T := C.1
  have c := C.2.2.1
  have w := c.2.1
  have n5 := q_ci_n c
  have tas := c.1
  exact sp_states (d := d + 44) c (fun M2 h => hq _ M2 h)
set_option maxHeartbeats 4000000 in
theorem cf_whose {Vt : Nat → Nat → (Nat → Int) → Int} {d tm l sl : Nat} {g : q_G} {M : q_M} {s : Int} {Q : Option q_V → q_G → q_M → Prop} (C : q_XI Vt tm l sl M) (hq : ∀ (v : Int) (M2 : q_M), q_tq M M2 → Q (some (qI v)) g M2) : q_S 1 (d + 50) 86 [qR 5 0, qI s] g M Q := by
  have T := C.1
  have c := C.2.2.1
  have w := c.2.1
  have n5 := q_ci_n c
  have tas := c.1
  exact sp_whose (d := d + 44) c (fun M2 h => hq _ M2 h)
set_option maxHeartbeats 4000000 in
theorem cf_drawn {Vt : Nat → Nat → (Nat → Int) → Int} {d tm l sl : Nat} {g : q_G} {M : q_M} {seed wt : Int} {Q : Option q_V → q_G → q_M → Prop} (C : q_XI Vt tm l sl M) (hq : ∀ (v : Int) (M2 : q_M), q_tq M M2 → Q (some (qI v)) g M2) : q_S 1 (d + 50) 89 [qR 5 0, qI seed, qI wt] g M Q := by
  have T := C.1
  have c := C.2.2.1
  have w := c.2.1
  have n5 := q_ci_n c
  have tas := c.1
  exact sp_drawn (d := d + 44) c (fun M2 h => hq _ M2 h)
set_option maxHeartbeats 4000000 in
theorem cf_laws {Vt : Nat → Nat → (Nat → Int) → Int} {d tm l sl : Nat} {g : q_G} {M : q_M} {s p : Int} {Q : Option q_V → q_G → q_M → Prop} (C : q_XI Vt tm l sl M) (hq : ∀ (v : Int) (M2 : q_M), q_tq M M2 → Q (some (qI v)) g M2) : q_S 1 (d + 50) 87 [qR 5 0, qI s, qI p] g M Q := by
  have T := C.1
  have c := C.2.2.1
  have w := c.2.1
  have n5 := q_ci_n c
  have tas := c.1
  exact sp_laws (d := d + 44) c T (fun M2 h => hq _ M2 h)
set_option maxHeartbeats 4000000 in
theorem cf_odds {Vt : Nat → Nat → (Nat → Int) → Int} {d tm l sl : Nat} {g : q_G} {M : q_M} {seed seeds most part : Int} {Q : Option q_V → q_G → q_M → Prop} (C : q_XI Vt tm l sl M) (hq : ∀ (v : Int) (M2 : q_M), q_tq M M2 → Q (some (qL v)) g M2) : q_S 1 (d + 50) 90 [qR 5 0, qI seed, qI seeds, qI most, qI part] g M Q := by
  have T := C.1
  have c := C.2.2.1
  have w := c.2.1
  have n5 := q_ci_n c
  have tas := c.1
  exact sp_odds (d := d + 44) c (fun M2 h => hq _ M2 h)
set_option maxHeartbeats 4000000 in
theorem cf_share {Vt : Nat → Nat → (Nat → Int) → Int} {d tm l sl : Nat} {g : q_G} {M : q_M} {part : Int} {Q : Option q_V → q_G → q_M → Prop} (C : q_XI Vt tm l sl M) (hq : ∀ (v : Int) (M2 : q_M), q_tq M M2 → Q (some (qL v)) g M2) : q_S 1 (d + 50) 82 [qR 5 0, qI part] g M Q := by
  have T := C.1
  have c := C.2.2.1
  have w := c.2.1
  have n5 := q_ci_n c
  have tas := c.1
  exact sp_share (d := d + 49) w (hq _ M q_tq_rf)
set_option maxHeartbeats 4000000 in
theorem cf_taken {Vt : Nat → Nat → (Nat → Int) → Int} {d tm l sl : Nat} {g : q_G} {M : q_M} {i k : Int} {Q : Option q_V → q_G → q_M → Prop} (C : q_XI Vt tm l sl M) (hq : ∀ (v : Int) (M2 : q_M), q_tq M M2 → Q (some (qI v)) g M2) : q_S 1 (d + 50) 97 [qR 5 0, qI i, qI k] g M Q := by
  have T := C.1
  have c := C.2.2.1
  have w := c.2.1
  have n5 := q_ci_n c
  have tas := c.1
  exact sp_taken (d := d + 49) n5.1 n5.2 (hq _ M q_tq_rf)
set_option maxHeartbeats 4000000 in
theorem mf_count {Vt : Nat → Nat → (Nat → Int) → Int} {d tm : Nat} {g : q_G} {M : q_M} {w : Int} {Q : Option q_V → q_G → q_M → Prop} (hI : q_MI Vt tm M) (hq : ∀ (v : Int) (M2 : q_M), q_mq M M2 → Q (some (qI v)) g M2) : q_S 1 (d + 10) 117 [qR 6 100, qI w] g M Q := by
  have n0 := hI.1.1
  rw [s_X6_count]
  have hin := hI.1.2.2.2.2.2.2.1
  have n0a := n0.1
  have n0b := n0.2
  rcases (show w < 0 ∨ w = 0 ∨ w = 1 ∨ w = 2 ∨ w = 3 ∨ w = 4 ∨ w = 5 ∨ 5 < w by omega) with k | k | k | k | k | k | k | k
  · rw [b_X6_count_0, x_loadI_1]
    rw [y_tsw_o (Or.inl k)]
    simp (disch := omega) only [b_X6_count_0, x_loadI_1, tw_8_0, tw_8_1, tw_8_2, tw_8_3, tw_8_4, tw_8_5, tw_8_o, b_X6_count_40, x_loadR_0, x_loadS_0, f_6_0, x_ret0, b_X6_count_45, f_6_5, b_X6_count_50, b_X6_count_55, f_6_10, b_X6_count_60, f_6_11, b_X6_count_65, f_6_7, b_X6_count_70, x_iconst, q_isL_I, q_isL_R, q_isL_S, true_and, and_true, and_self, List.length_nil, List.length_cons, Nat.zero_add, x_K, x_Kn, Int.reduceToNat, Nat.reduceAdd, Nat.reduceMul, Nat.reduceLeDiff, Nat.reduceLT, Nat.zero_le, Int.reduceAdd, Int.reduceSub, Int.reduceMul, Int.reduceNeg, q_add_e, q_sub_e, q_mul_e, q_neg_e, q_upd_s, q_upd_n, zr_shr0, zr_shr1, zr_shr2, zr_shr3, zr_shr4, zr_and, zr_dyn8, zr_or, zr_shl, q_cpy_n, y_cpy26]
    exact hq _ _ q_mq_rf
  · subst k
    simp (disch := omega) only [b_X6_count_0, x_loadI_1, tw_8_0, tw_8_1, tw_8_2, tw_8_3, tw_8_4, tw_8_5, tw_8_o, b_X6_count_40, x_loadR_0, x_loadS_0, f_6_0, x_ret0, b_X6_count_45, f_6_5, b_X6_count_50, b_X6_count_55, f_6_10, b_X6_count_60, f_6_11, b_X6_count_65, f_6_7, b_X6_count_70, x_iconst, q_isL_I, q_isL_R, q_isL_S, true_and, and_true, and_self, List.length_nil, List.length_cons, Nat.zero_add, x_K, x_Kn, Int.reduceToNat, Nat.reduceAdd, Nat.reduceMul, Nat.reduceLeDiff, Nat.reduceLT, Nat.zero_le, Int.reduceAdd, Int.reduceSub, Int.reduceMul, Int.reduceNeg, q_add_e, q_sub_e, q_mul_e, q_neg_e, q_upd_s, q_upd_n, zr_shr0, zr_shr1, zr_shr2, zr_shr3, zr_shr4, zr_and, zr_dyn8, zr_or, zr_shl, q_cpy_n, y_cpy26]
    exact hq _ _ q_mq_rf
  · subst k
    simp (disch := omega) only [b_X6_count_0, x_loadI_1, tw_8_0, tw_8_1, tw_8_2, tw_8_3, tw_8_4, tw_8_5, tw_8_o, b_X6_count_40, x_loadR_0, x_loadS_0, f_6_0, x_ret0, b_X6_count_45, f_6_5, b_X6_count_50, b_X6_count_55, f_6_10, b_X6_count_60, f_6_11, b_X6_count_65, f_6_7, b_X6_count_70, x_iconst, q_isL_I, q_isL_R, q_isL_S, true_and, and_true, and_self, List.length_nil, List.length_cons, Nat.zero_add, x_K, x_Kn, Int.reduceToNat, Nat.reduceAdd, Nat.reduceMul, Nat.reduceLeDiff, Nat.reduceLT, Nat.zero_le, Int.reduceAdd, Int.reduceSub, Int.reduceMul, Int.reduceNeg, q_add_e, q_sub_e, q_mul_e, q_neg_e, q_upd_s, q_upd_n, zr_shr0, zr_shr1, zr_shr2, zr_shr3, zr_shr4, zr_and, zr_dyn8, zr_or, zr_shl, q_cpy_n, y_cpy26]
    exact hq _ _ q_mq_rf
  · subst k
    simp (disch := omega) only [b_X6_count_0, x_loadI_1, tw_8_0, tw_8_1, tw_8_2, tw_8_3, tw_8_4, tw_8_5, tw_8_o, b_X6_count_40, x_loadR_0, x_loadS_0, f_6_0, x_ret0, b_X6_count_45, f_6_5, b_X6_count_50, b_X6_count_55, f_6_10, b_X6_count_60, f_6_11, b_X6_count_65, f_6_7, b_X6_count_70, x_iconst, q_isL_I, q_isL_R, q_isL_S, true_and, and_true, and_self, List.length_nil, List.length_cons, Nat.zero_add, x_K, x_Kn, Int.reduceToNat, Nat.reduceAdd, Nat.reduceMul, Nat.reduceLeDiff, Nat.reduceLT, Nat.zero_le, Int.reduceAdd, Int.reduceSub, Int.reduceMul, Int.reduceNeg, q_add_e, q_sub_e, q_mul_e, q_neg_e, q_upd_s, q_upd_n, zr_shr0, zr_shr1, zr_shr2, zr_shr3, zr_shr4, zr_and, zr_dyn8, zr_or, zr_shl, q_cpy_n, y_cpy26, c_X6_outside]
    rw [mp_outside n0a n0b hin]
    simp (disch := omega) only [b_X6_count_0, x_loadI_1, tw_8_0, tw_8_1, tw_8_2, tw_8_3, tw_8_4, tw_8_5, tw_8_o, b_X6_count_40, x_loadR_0, x_loadS_0, f_6_0, x_ret0, b_X6_count_45, f_6_5, b_X6_count_50, b_X6_count_55, f_6_10, b_X6_count_60, f_6_11, b_X6_count_65, f_6_7, b_X6_count_70, x_iconst, q_isL_I, q_isL_R, q_isL_S, true_and, and_true, and_self, List.length_nil, List.length_cons, Nat.zero_add, x_K, x_Kn, Int.reduceToNat, Nat.reduceAdd, Nat.reduceMul, Nat.reduceLeDiff, Nat.reduceLT, Nat.zero_le, Int.reduceAdd, Int.reduceSub, Int.reduceMul, Int.reduceNeg, q_add_e, q_sub_e, q_mul_e, q_neg_e, q_upd_s, q_upd_n, zr_shr0, zr_shr1, zr_shr2, zr_shr3, zr_shr4, zr_and, zr_dyn8, zr_or, zr_shl, q_cpy_n, y_cpy26]
    exact hq _ _ q_mq_rf
  · subst k
    simp (disch := omega) only [b_X6_count_0, x_loadI_1, tw_8_0, tw_8_1, tw_8_2, tw_8_3, tw_8_4, tw_8_5, tw_8_o, b_X6_count_40, x_loadR_0, x_loadS_0, f_6_0, x_ret0, b_X6_count_45, f_6_5, b_X6_count_50, b_X6_count_55, f_6_10, b_X6_count_60, f_6_11, b_X6_count_65, f_6_7, b_X6_count_70, x_iconst, q_isL_I, q_isL_R, q_isL_S, true_and, and_true, and_self, List.length_nil, List.length_cons, Nat.zero_add, x_K, x_Kn, Int.reduceToNat, Nat.reduceAdd, Nat.reduceMul, Nat.reduceLeDiff, Nat.reduceLT, Nat.zero_le, Int.reduceAdd, Int.reduceSub, Int.reduceMul, Int.reduceNeg, q_add_e, q_sub_e, q_mul_e, q_neg_e, q_upd_s, q_upd_n, zr_shr0, zr_shr1, zr_shr2, zr_shr3, zr_shr4, zr_and, zr_dyn8, zr_or, zr_shl, q_cpy_n, y_cpy26]
    exact hq _ _ q_mq_rf
  · subst k
    simp (disch := omega) only [b_X6_count_0, x_loadI_1, tw_8_0, tw_8_1, tw_8_2, tw_8_3, tw_8_4, tw_8_5, tw_8_o, b_X6_count_40, x_loadR_0, x_loadS_0, f_6_0, x_ret0, b_X6_count_45, f_6_5, b_X6_count_50, b_X6_count_55, f_6_10, b_X6_count_60, f_6_11, b_X6_count_65, f_6_7, b_X6_count_70, x_iconst, q_isL_I, q_isL_R, q_isL_S, true_and, and_true, and_self, List.length_nil, List.length_cons, Nat.zero_add, x_K, x_Kn, Int.reduceToNat, Nat.reduceAdd, Nat.reduceMul, Nat.reduceLeDiff, Nat.reduceLT, Nat.zero_le, Int.reduceAdd, Int.reduceSub, Int.reduceMul, Int.reduceNeg, q_add_e, q_sub_e, q_mul_e, q_neg_e, q_upd_s, q_upd_n, zr_shr0, zr_shr1, zr_shr2, zr_shr3, zr_shr4, zr_and, zr_dyn8, zr_or, zr_shl, q_cpy_n, y_cpy26]
    exact hq _ _ q_mq_rf
  · subst k
    simp (disch := omega) only [b_X6_count_0, x_loadI_1, tw_8_0, tw_8_1, tw_8_2, tw_8_3, tw_8_4, tw_8_5, tw_8_o, b_X6_count_40, x_loadR_0, x_loadS_0, f_6_0, x_ret0, b_X6_count_45, f_6_5, b_X6_count_50, b_X6_count_55, f_6_10, b_X6_count_60, f_6_11, b_X6_count_65, f_6_7, b_X6_count_70, x_iconst, q_isL_I, q_isL_R, q_isL_S, true_and, and_true, and_self, List.length_nil, List.length_cons, Nat.zero_add, x_K, x_Kn, Int.reduceToNat, Nat.reduceAdd, Nat.reduceMul, Nat.reduceLeDiff, Nat.reduceLT, Nat.zero_le, Int.reduceAdd, Int.reduceSub, Int.reduceMul, Int.reduceNeg, q_add_e, q_sub_e, q_mul_e, q_neg_e, q_upd_s, q_upd_n, zr_shr0, zr_shr1, zr_shr2, zr_shr3, zr_shr4, zr_and, zr_dyn8, zr_or, zr_shl, q_cpy_n, y_cpy26]
    exact hq _ _ q_mq_rf
  · rw [b_X6_count_0, x_loadI_1]
    rw [y_tsw_o (Or.inr k)]
    simp (disch := omega) only [b_X6_count_0, x_loadI_1, tw_8_0, tw_8_1, tw_8_2, tw_8_3, tw_8_4, tw_8_5, tw_8_o, b_X6_count_40, x_loadR_0, x_loadS_0, f_6_0, x_ret0, b_X6_count_45, f_6_5, b_X6_count_50, b_X6_count_55, f_6_10, b_X6_count_60, f_6_11, b_X6_count_65, f_6_7, b_X6_count_70, x_iconst, q_isL_I, q_isL_R, q_isL_S, true_and, and_true, and_self, List.length_nil, List.length_cons, Nat.zero_add, x_K, x_Kn, Int.reduceToNat, Nat.reduceAdd, Nat.reduceMul, Nat.reduceLeDiff, Nat.reduceLT, Nat.zero_le, Int.reduceAdd, Int.reduceSub, Int.reduceMul, Int.reduceNeg, q_add_e, q_sub_e, q_mul_e, q_neg_e, q_upd_s, q_upd_n, zr_shr0, zr_shr1, zr_shr2, zr_shr3, zr_shr4, zr_and, zr_dyn8, zr_or, zr_shl, q_cpy_n, y_cpy26]
    exact hq _ _ q_mq_rf
set_option maxHeartbeats 4000000 in
theorem mf_site {Vt : Nat → Nat → (Nat → Int) → Int} {d tm : Nat} {g : q_G} {M : q_M} {b w : Int} {Q : Option q_V → q_G → q_M → Prop} (hI : q_MI Vt tm M) (hq : ∀ (v : Int) (M2 : q_M), q_mq M M2 → Q (some (qI v)) g M2) : q_S 1 (d + 10) 120 [qR 6 100, qI b, qI w] g M Q := by
  have n0 := hI.1.1
  rw [s_X6_site]
  by_cases c : 0 ≤ b ∧ b ≤ 4
  · obtain ⟨B, rfl⟩ : ∃ B : Nat, b = B := ⟨b.toNat, by omega⟩
    have n0a := n0.1
    have n0b := n0.2
    by_cases c2 : w = 4
    · subst c2
      simp (disch := omega) only [b_X6_site_0, x_loadI_1, y_if_ne_t, y_if_ne_f, b_X6_site_7, x_iconst, x_ret0, b_X6_site_10, x_loadI_2, y_ic_ne_t, y_ic_ne_f, b_X6_site_15, x_loadR_0, x_loadS_0, x_goto, b_X6_site_23, y_if_eq_t, y_if_eq_f, b_X6_site_32, f_6_3, x_imul, x_iadd, y_iald_40, b_X6_site_45, b_X6_site_47, q_isL_I, q_isL_R, q_isL_S, true_and, and_true, and_self, List.length_nil, List.length_cons, Nat.zero_add, x_K, x_Kn, Int.reduceToNat, Nat.reduceAdd, Nat.reduceMul, Nat.reduceLeDiff, Nat.reduceLT, Nat.zero_le, Int.reduceAdd, Int.reduceSub, Int.reduceMul, Int.reduceNeg, q_add_e, q_sub_e, q_mul_e, q_neg_e, q_upd_s, q_upd_n, zr_shr0, zr_shr1, zr_shr2, zr_shr3, zr_shr4, zr_and, zr_dyn8, zr_or, zr_shl, q_cpy_n, y_cpy26, c_X6_isSite, mp_isSite, c, and_self, if_true, c_X6_whoIn, mp_whoIn]
      exact hq _ _ q_mq_rf
    · by_cases c3 : 0 ≤ w ∧ w ≤ 3
      · simp (disch := omega) only [b_X6_site_0, x_loadI_1, y_if_ne_t, y_if_ne_f, b_X6_site_7, x_iconst, x_ret0, b_X6_site_10, x_loadI_2, y_ic_ne_t, y_ic_ne_f, b_X6_site_15, x_loadR_0, x_loadS_0, x_goto, b_X6_site_23, y_if_eq_t, y_if_eq_f, b_X6_site_32, f_6_3, x_imul, x_iadd, y_iald_40, b_X6_site_45, b_X6_site_47, q_isL_I, q_isL_R, q_isL_S, true_and, and_true, and_self, List.length_nil, List.length_cons, Nat.zero_add, x_K, x_Kn, Int.reduceToNat, Nat.reduceAdd, Nat.reduceMul, Nat.reduceLeDiff, Nat.reduceLT, Nat.zero_le, Int.reduceAdd, Int.reduceSub, Int.reduceMul, Int.reduceNeg, q_add_e, q_sub_e, q_mul_e, q_neg_e, q_upd_s, q_upd_n, zr_shr0, zr_shr1, zr_shr2, zr_shr3, zr_shr4, zr_and, zr_dyn8, zr_or, zr_shl, q_cpy_n, y_cpy26, c_X6_isSite, mp_isSite, c, c_X6_in, mp_in, c3, and_self, if_true]
        exact hq _ _ q_mq_rf
      · simp (disch := omega) only [b_X6_site_0, x_loadI_1, y_if_ne_t, y_if_ne_f, b_X6_site_7, x_iconst, x_ret0, b_X6_site_10, x_loadI_2, y_ic_ne_t, y_ic_ne_f, b_X6_site_15, x_loadR_0, x_loadS_0, x_goto, b_X6_site_23, y_if_eq_t, y_if_eq_f, b_X6_site_32, f_6_3, x_imul, x_iadd, y_iald_40, b_X6_site_45, b_X6_site_47, q_isL_I, q_isL_R, q_isL_S, true_and, and_true, and_self, List.length_nil, List.length_cons, Nat.zero_add, x_K, x_Kn, Int.reduceToNat, Nat.reduceAdd, Nat.reduceMul, Nat.reduceLeDiff, Nat.reduceLT, Nat.zero_le, Int.reduceAdd, Int.reduceSub, Int.reduceMul, Int.reduceNeg, q_add_e, q_sub_e, q_mul_e, q_neg_e, q_upd_s, q_upd_n, zr_shr0, zr_shr1, zr_shr2, zr_shr3, zr_shr4, zr_and, zr_dyn8, zr_or, zr_shl, q_cpy_n, y_cpy26, c_X6_isSite, mp_isSite, c, c_X6_in, mp_in, c3, and_self, if_true, if_false]
        exact hq _ _ q_mq_rf
  · simp (disch := omega) only [b_X6_site_0, x_loadI_1, y_if_ne_t, y_if_ne_f, b_X6_site_7, x_iconst, x_ret0, b_X6_site_10, x_loadI_2, y_ic_ne_t, y_ic_ne_f, b_X6_site_15, x_loadR_0, x_loadS_0, x_goto, b_X6_site_23, y_if_eq_t, y_if_eq_f, b_X6_site_32, f_6_3, x_imul, x_iadd, y_iald_40, b_X6_site_45, b_X6_site_47, q_isL_I, q_isL_R, q_isL_S, true_and, and_true, and_self, List.length_nil, List.length_cons, Nat.zero_add, x_K, x_Kn, Int.reduceToNat, Nat.reduceAdd, Nat.reduceMul, Nat.reduceLeDiff, Nat.reduceLT, Nat.zero_le, Int.reduceAdd, Int.reduceSub, Int.reduceMul, Int.reduceNeg, q_add_e, q_sub_e, q_mul_e, q_neg_e, q_upd_s, q_upd_n, zr_shr0, zr_shr1, zr_shr2, zr_shr3, zr_shr4, zr_and, zr_dyn8, zr_or, zr_shl, q_cpy_n, y_cpy26, c_X6_isSite, mp_isSite, c, if_false]
    exact hq _ _ q_mq_rf
set_option maxHeartbeats 4000000 in
theorem mf_asks {Vt : Nat → Nat → (Nat → Int) → Int} {d tm : Nat} {g : q_G} {M : q_M} {pt p b : Int} {Q : Option q_V → q_G → q_M → Prop} (hI : q_MI Vt tm M) (hq : ∀ (v : Int) (M2 : q_M), q_mq M M2 → Q (some (qI v)) g M2) : q_S 1 (d + 10) 138 [qR 6 100, qI pt, qI p, qI b] g M Q := by
  have n0 := hI.1.1
  rw [s_X6_asks]
  have hm := (q_MI_mi hI).1
  by_cases c1 : 0 ≤ pt ∧ pt ≤ 2
  · by_cases c2 : 0 ≤ p ∧ p ≤ M 100 0 - 1
    · by_cases c3 : -1 ≤ b ∧ b ≤ 4
      · obtain ⟨P, rfl⟩ : ∃ P : Nat, pt = P := ⟨pt.toNat, by omega⟩
        obtain ⟨N, rfl⟩ : ∃ N : Nat, p = N := ⟨p.toNat, by omega⟩
        have ak : ∀ (nx : Nat) (ops : List Instr) (ls st : List q_V), (∀ (v : Int) (M2 : q_M), q_mf M M2 → q_T 1 (d + 10) qP_X6_asks nx ops ls (qI v :: st) g M2 Q) → q_S 1 (d + 9) 137 [qR 6 100, qI P, qI N, qI b] g M (q_K 1 (d + 10) qP_X6_asks nx ops ls st Q) := fun nx ops ls st h => mp_asks hm (by omega) (by omega) (by omega) (fun M2 h2 => h _ M2 h2)
        simp (disch := omega) only [b_X6_asks_0, x_loadI_1, x_iconst, y_if_eq_t, y_if_eq_f, b_X6_asks_9, x_loadR_0, x_loadS_0, x_loadI_2, b_X6_asks_17, x_loadI_3, b_X6_asks_26, x_goto, b_X6_asks_36, b_X6_asks_39, x_ret0, q_isL_I, q_isL_R, q_isL_S, true_and, and_true, and_self, List.length_nil, List.length_cons, Nat.zero_add, x_K, x_Kn, Int.reduceToNat, Nat.reduceAdd, Nat.reduceMul, Nat.reduceLeDiff, Nat.reduceLT, Nat.zero_le, Int.reduceAdd, Int.reduceSub, Int.reduceMul, Int.reduceNeg, q_add_e, q_sub_e, q_mul_e, q_neg_e, q_upd_s, q_upd_n, zr_shr0, zr_shr1, zr_shr2, zr_shr3, zr_shr4, zr_and, zr_dyn8, zr_or, zr_shl, q_cpy_n, y_cpy26, c_X6_in, mp_in, c1, c_X6_isStone, mp_isStone, c2, c3, and_self, if_true, c_X6_asksOf]
        refine ak _ _ _ _ (fun v M2 h2 => ?_)
        simp (disch := omega) only [b_X6_asks_0, x_loadI_1, x_iconst, y_if_eq_t, y_if_eq_f, b_X6_asks_9, x_loadR_0, x_loadS_0, x_loadI_2, b_X6_asks_17, x_loadI_3, b_X6_asks_26, x_goto, b_X6_asks_36, b_X6_asks_39, x_ret0, q_isL_I, q_isL_R, q_isL_S, true_and, and_true, and_self, List.length_nil, List.length_cons, Nat.zero_add, x_K, x_Kn, Int.reduceToNat, Nat.reduceAdd, Nat.reduceMul, Nat.reduceLeDiff, Nat.reduceLT, Nat.zero_le, Int.reduceAdd, Int.reduceSub, Int.reduceMul, Int.reduceNeg, q_add_e, q_sub_e, q_mul_e, q_neg_e, q_upd_s, q_upd_n, zr_shr0, zr_shr1, zr_shr2, zr_shr3, zr_shr4, zr_and, zr_dyn8, zr_or, zr_shl, q_cpy_n, y_cpy26]
        exact hq _ _ (q_mq_mf h2)
      · simp (disch := omega) only [b_X6_asks_0, x_loadI_1, x_iconst, y_if_eq_t, y_if_eq_f, b_X6_asks_9, x_loadR_0, x_loadS_0, x_loadI_2, b_X6_asks_17, x_loadI_3, b_X6_asks_26, x_goto, b_X6_asks_36, b_X6_asks_39, x_ret0, q_isL_I, q_isL_R, q_isL_S, true_and, and_true, and_self, List.length_nil, List.length_cons, Nat.zero_add, x_K, x_Kn, Int.reduceToNat, Nat.reduceAdd, Nat.reduceMul, Nat.reduceLeDiff, Nat.reduceLT, Nat.zero_le, Int.reduceAdd, Int.reduceSub, Int.reduceMul, Int.reduceNeg, q_add_e, q_sub_e, q_mul_e, q_neg_e, q_upd_s, q_upd_n, zr_shr0, zr_shr1, zr_shr2, zr_shr3, zr_shr4, zr_and, zr_dyn8, zr_or, zr_shl, q_cpy_n, y_cpy26, c_X6_in, mp_in, c1, c_X6_isStone, mp_isStone, c2, c3, and_self, if_true, if_false]
        exact hq _ _ q_mq_rf
    · simp (disch := omega) only [b_X6_asks_0, x_loadI_1, x_iconst, y_if_eq_t, y_if_eq_f, b_X6_asks_9, x_loadR_0, x_loadS_0, x_loadI_2, b_X6_asks_17, x_loadI_3, b_X6_asks_26, x_goto, b_X6_asks_36, b_X6_asks_39, x_ret0, q_isL_I, q_isL_R, q_isL_S, true_and, and_true, and_self, List.length_nil, List.length_cons, Nat.zero_add, x_K, x_Kn, Int.reduceToNat, Nat.reduceAdd, Nat.reduceMul, Nat.reduceLeDiff, Nat.reduceLT, Nat.zero_le, Int.reduceAdd, Int.reduceSub, Int.reduceMul, Int.reduceNeg, q_add_e, q_sub_e, q_mul_e, q_neg_e, q_upd_s, q_upd_n, zr_shr0, zr_shr1, zr_shr2, zr_shr3, zr_shr4, zr_and, zr_dyn8, zr_or, zr_shl, q_cpy_n, y_cpy26, c_X6_in, mp_in, c1, c_X6_isStone, mp_isStone, c2, and_self, if_true, if_false]
      exact hq _ _ q_mq_rf
  · simp (disch := omega) only [b_X6_asks_0, x_loadI_1, x_iconst, y_if_eq_t, y_if_eq_f, b_X6_asks_9, x_loadR_0, x_loadS_0, x_loadI_2, b_X6_asks_17, x_loadI_3, b_X6_asks_26, x_goto, b_X6_asks_36, b_X6_asks_39, x_ret0, q_isL_I, q_isL_R, q_isL_S, true_and, and_true, and_self, List.length_nil, List.length_cons, Nat.zero_add, x_K, x_Kn, Int.reduceToNat, Nat.reduceAdd, Nat.reduceMul, Nat.reduceLeDiff, Nat.reduceLT, Nat.zero_le, Int.reduceAdd, Int.reduceSub, Int.reduceMul, Int.reduceNeg, q_add_e, q_sub_e, q_mul_e, q_neg_e, q_upd_s, q_upd_n, zr_shr0, zr_shr1, zr_shr2, zr_shr3, zr_shr4, zr_and, zr_dyn8, zr_or, zr_shl, q_cpy_n, y_cpy26, c_X6_in, mp_in, c1, if_false]
    exact hq _ _ q_mq_rf
set_option maxHeartbeats 4000000 in
theorem mf_told {Vt : Nat → Nat → (Nat → Int) → Int} {d tm : Nat} {g : q_G} {M : q_M} {p w : Int} {Q : Option q_V → q_G → q_M → Prop} (hI : q_MI Vt tm M) (hq : ∀ (v : Int) (M2 : q_M), q_mq M M2 → Q (some (qI v)) g M2) : q_S 1 (d + 10) 145 [qR 6 100, qI p, qI w] g M Q := by
  have n0 := hI.1.1
  rw [s_X6_told]
  have hm := (q_MI_mi hI).1
  by_cases c : 0 ≤ p ∧ p ≤ M 100 0 - 1
  · obtain ⟨N, rfl⟩ : ∃ N : Nat, p = N := ⟨p.toNat, by omega⟩
    have tn2 : ∀ k : Int, 0 ≤ k → k ≤ 2 → 0 ≤ 3 * (N : Int) + k ∧ 3 * (N : Int) + k < 15 := fun k _ _ => by omega
    have wk : ∀ (nx : Nat) (ops : List Instr) (ls st : List q_V), (∀ (v : Int) (M2 : q_M), q_mf M M2 → q_T 1 (d + 10) qP_X6_told nx ops ls (qI v :: st) g M2 Q) → q_S 1 (d + 9) 144 [qR 6 100, qI N] g M (q_K 1 (d + 10) qP_X6_told nx ops ls st Q) := fun nx ops ls st h => mp_wish hm (by omega) (fun M2 h2 => h _ M2 h2)
    have gk : ∀ (nx : Nat) (ops : List Instr) (ls st : List q_V), (∀ (v : Int) (M2 : q_M), q_mf M M2 → q_T 1 (d + 10) qP_X6_told nx ops ls (qI v :: st) g M2 Q) → q_S 1 (d + 9) 143 [qR 6 100, qI N] g M (q_K 1 (d + 10) qP_X6_told nx ops ls st Q) := fun nx ops ls st h => mp_goes hm (by omega) (fun M2 h2 => h _ M2 h2)
    rcases (show w < 0 ∨ w = 0 ∨ w = 1 ∨ w = 2 ∨ w = 3 ∨ w = 4 ∨ w = 5 ∨ w = 6 ∨ 6 < w by omega) with k | k | k | k | k | k | k | k | k
    · simp (disch := omega) only [b_X6_told_0, x_loadR_0, x_loadS_0, x_loadI_1, y_if_ne_t, y_if_ne_f, b_X6_told_8, x_iconst, x_ret0, b_X6_told_11, x_loadI_2, tw_13_0, tw_13_1, tw_13_2, tw_13_3, tw_13_4, tw_13_5, tw_13_6, tw_13_o, b_X6_told_56, f_6_4, x_imul, x_iadd, y_iald_25, y_iald_35, b_X6_told_67, f_6_1, b_X6_told_74, f_6_2, b_X6_told_81, b_X6_told_87, b_X6_told_93, q_isL_I, q_isL_R, q_isL_S, true_and, and_true, and_self, List.length_nil, List.length_cons, Nat.zero_add, x_K, x_Kn, Int.reduceToNat, Nat.reduceAdd, Nat.reduceMul, Nat.reduceLeDiff, Nat.reduceLT, Nat.zero_le, Int.reduceAdd, Int.reduceSub, Int.reduceMul, Int.reduceNeg, q_add_e, q_sub_e, q_mul_e, q_neg_e, q_upd_s, q_upd_n, zr_shr0, zr_shr1, zr_shr2, zr_shr3, zr_shr4, zr_and, zr_dyn8, zr_or, zr_shl, q_cpy_n, y_cpy26, c_X6_isStone, mp_isStone, c, and_self, if_true, y_tsw_o]
      exact hq _ _ q_mq_rf
    · subst k
      simp (disch := omega) only [b_X6_told_0, x_loadR_0, x_loadS_0, x_loadI_1, y_if_ne_t, y_if_ne_f, b_X6_told_8, x_iconst, x_ret0, b_X6_told_11, x_loadI_2, tw_13_0, tw_13_1, tw_13_2, tw_13_3, tw_13_4, tw_13_5, tw_13_6, tw_13_o, b_X6_told_56, f_6_4, x_imul, x_iadd, y_iald_25, y_iald_35, b_X6_told_67, f_6_1, b_X6_told_74, f_6_2, b_X6_told_81, b_X6_told_87, b_X6_told_93, q_isL_I, q_isL_R, q_isL_S, true_and, and_true, and_self, List.length_nil, List.length_cons, Nat.zero_add, x_K, x_Kn, Int.reduceToNat, Nat.reduceAdd, Nat.reduceMul, Nat.reduceLeDiff, Nat.reduceLT, Nat.zero_le, Int.reduceAdd, Int.reduceSub, Int.reduceMul, Int.reduceNeg, q_add_e, q_sub_e, q_mul_e, q_neg_e, q_upd_s, q_upd_n, zr_shr0, zr_shr1, zr_shr2, zr_shr3, zr_shr4, zr_and, zr_dyn8, zr_or, zr_shl, q_cpy_n, y_cpy26, c_X6_isStone, mp_isStone, c, and_self, if_true]
      exact hq _ _ q_mq_rf
    · subst k
      simp (disch := omega) only [b_X6_told_0, x_loadR_0, x_loadS_0, x_loadI_1, y_if_ne_t, y_if_ne_f, b_X6_told_8, x_iconst, x_ret0, b_X6_told_11, x_loadI_2, tw_13_0, tw_13_1, tw_13_2, tw_13_3, tw_13_4, tw_13_5, tw_13_6, tw_13_o, b_X6_told_56, f_6_4, x_imul, x_iadd, y_iald_25, y_iald_35, b_X6_told_67, f_6_1, b_X6_told_74, f_6_2, b_X6_told_81, b_X6_told_87, b_X6_told_93, q_isL_I, q_isL_R, q_isL_S, true_and, and_true, and_self, List.length_nil, List.length_cons, Nat.zero_add, x_K, x_Kn, Int.reduceToNat, Nat.reduceAdd, Nat.reduceMul, Nat.reduceLeDiff, Nat.reduceLT, Nat.zero_le, Int.reduceAdd, Int.reduceSub, Int.reduceMul, Int.reduceNeg, q_add_e, q_sub_e, q_mul_e, q_neg_e, q_upd_s, q_upd_n, zr_shr0, zr_shr1, zr_shr2, zr_shr3, zr_shr4, zr_and, zr_dyn8, zr_or, zr_shl, q_cpy_n, y_cpy26, c_X6_isStone, mp_isStone, c, and_self, if_true]
      exact hq _ _ q_mq_rf
    · subst k
      simp (disch := omega) only [b_X6_told_0, x_loadR_0, x_loadS_0, x_loadI_1, y_if_ne_t, y_if_ne_f, b_X6_told_8, x_iconst, x_ret0, b_X6_told_11, x_loadI_2, tw_13_0, tw_13_1, tw_13_2, tw_13_3, tw_13_4, tw_13_5, tw_13_6, tw_13_o, b_X6_told_56, f_6_4, x_imul, x_iadd, y_iald_25, y_iald_35, b_X6_told_67, f_6_1, b_X6_told_74, f_6_2, b_X6_told_81, b_X6_told_87, b_X6_told_93, q_isL_I, q_isL_R, q_isL_S, true_and, and_true, and_self, List.length_nil, List.length_cons, Nat.zero_add, x_K, x_Kn, Int.reduceToNat, Nat.reduceAdd, Nat.reduceMul, Nat.reduceLeDiff, Nat.reduceLT, Nat.zero_le, Int.reduceAdd, Int.reduceSub, Int.reduceMul, Int.reduceNeg, q_add_e, q_sub_e, q_mul_e, q_neg_e, q_upd_s, q_upd_n, zr_shr0, zr_shr1, zr_shr2, zr_shr3, zr_shr4, zr_and, zr_dyn8, zr_or, zr_shl, q_cpy_n, y_cpy26, c_X6_isStone, mp_isStone, c, and_self, if_true]
      exact hq _ _ q_mq_rf
    · subst k
      simp (disch := omega) only [b_X6_told_0, x_loadR_0, x_loadS_0, x_loadI_1, y_if_ne_t, y_if_ne_f, b_X6_told_8, x_iconst, x_ret0, b_X6_told_11, x_loadI_2, tw_13_0, tw_13_1, tw_13_2, tw_13_3, tw_13_4, tw_13_5, tw_13_6, tw_13_o, b_X6_told_56, f_6_4, x_imul, x_iadd, y_iald_25, y_iald_35, b_X6_told_67, f_6_1, b_X6_told_74, f_6_2, b_X6_told_81, b_X6_told_87, b_X6_told_93, q_isL_I, q_isL_R, q_isL_S, true_and, and_true, and_self, List.length_nil, List.length_cons, Nat.zero_add, x_K, x_Kn, Int.reduceToNat, Nat.reduceAdd, Nat.reduceMul, Nat.reduceLeDiff, Nat.reduceLT, Nat.zero_le, Int.reduceAdd, Int.reduceSub, Int.reduceMul, Int.reduceNeg, q_add_e, q_sub_e, q_mul_e, q_neg_e, q_upd_s, q_upd_n, zr_shr0, zr_shr1, zr_shr2, zr_shr3, zr_shr4, zr_and, zr_dyn8, zr_or, zr_shl, q_cpy_n, y_cpy26, c_X6_isStone, mp_isStone, c, and_self, if_true]
      exact hq _ _ q_mq_rf
    · subst k
      simp (disch := omega) only [b_X6_told_0, x_loadR_0, x_loadS_0, x_loadI_1, y_if_ne_t, y_if_ne_f, b_X6_told_8, x_iconst, x_ret0, b_X6_told_11, x_loadI_2, tw_13_0, tw_13_1, tw_13_2, tw_13_3, tw_13_4, tw_13_5, tw_13_6, tw_13_o, b_X6_told_56, f_6_4, x_imul, x_iadd, y_iald_25, y_iald_35, b_X6_told_67, f_6_1, b_X6_told_74, f_6_2, b_X6_told_81, b_X6_told_87, b_X6_told_93, q_isL_I, q_isL_R, q_isL_S, true_and, and_true, and_self, List.length_nil, List.length_cons, Nat.zero_add, x_K, x_Kn, Int.reduceToNat, Nat.reduceAdd, Nat.reduceMul, Nat.reduceLeDiff, Nat.reduceLT, Nat.zero_le, Int.reduceAdd, Int.reduceSub, Int.reduceMul, Int.reduceNeg, q_add_e, q_sub_e, q_mul_e, q_neg_e, q_upd_s, q_upd_n, zr_shr0, zr_shr1, zr_shr2, zr_shr3, zr_shr4, zr_and, zr_dyn8, zr_or, zr_shl, q_cpy_n, y_cpy26, c_X6_isStone, mp_isStone, c, and_self, if_true]
      exact hq _ _ q_mq_rf
    · subst k
      simp (disch := omega) only [b_X6_told_0, x_loadR_0, x_loadS_0, x_loadI_1, y_if_ne_t, y_if_ne_f, b_X6_told_8, x_iconst, x_ret0, b_X6_told_11, x_loadI_2, tw_13_0, tw_13_1, tw_13_2, tw_13_3, tw_13_4, tw_13_5, tw_13_6, tw_13_o, b_X6_told_56, f_6_4, x_imul, x_iadd, y_iald_25, y_iald_35, b_X6_told_67, f_6_1, b_X6_told_74, f_6_2, b_X6_told_81, b_X6_told_87, b_X6_told_93, q_isL_I, q_isL_R, q_isL_S, true_and, and_true, and_self, List.length_nil, List.length_cons, Nat.zero_add, x_K, x_Kn, Int.reduceToNat, Nat.reduceAdd, Nat.reduceMul, Nat.reduceLeDiff, Nat.reduceLT, Nat.zero_le, Int.reduceAdd, Int.reduceSub, Int.reduceMul, Int.reduceNeg, q_add_e, q_sub_e, q_mul_e, q_neg_e, q_upd_s, q_upd_n, zr_shr0, zr_shr1, zr_shr2, zr_shr3, zr_shr4, zr_and, zr_dyn8, zr_or, zr_shl, q_cpy_n, y_cpy26, c_X6_isStone, mp_isStone, c, and_self, if_true, c_X6_wishOf]
      refine wk _ _ _ _ (fun v M2 h2 => ?_)
      simp (disch := omega) only [b_X6_told_0, x_loadR_0, x_loadS_0, x_loadI_1, y_if_ne_t, y_if_ne_f, b_X6_told_8, x_iconst, x_ret0, b_X6_told_11, x_loadI_2, tw_13_0, tw_13_1, tw_13_2, tw_13_3, tw_13_4, tw_13_5, tw_13_6, tw_13_o, b_X6_told_56, f_6_4, x_imul, x_iadd, y_iald_25, y_iald_35, b_X6_told_67, f_6_1, b_X6_told_74, f_6_2, b_X6_told_81, b_X6_told_87, b_X6_told_93, q_isL_I, q_isL_R, q_isL_S, true_and, and_true, and_self, List.length_nil, List.length_cons, Nat.zero_add, x_K, x_Kn, Int.reduceToNat, Nat.reduceAdd, Nat.reduceMul, Nat.reduceLeDiff, Nat.reduceLT, Nat.zero_le, Int.reduceAdd, Int.reduceSub, Int.reduceMul, Int.reduceNeg, q_add_e, q_sub_e, q_mul_e, q_neg_e, q_upd_s, q_upd_n, zr_shr0, zr_shr1, zr_shr2, zr_shr3, zr_shr4, zr_and, zr_dyn8, zr_or, zr_shl, q_cpy_n, y_cpy26]
      exact hq _ _ (q_mq_mf h2)
    · subst k
      simp (disch := omega) only [b_X6_told_0, x_loadR_0, x_loadS_0, x_loadI_1, y_if_ne_t, y_if_ne_f, b_X6_told_8, x_iconst, x_ret0, b_X6_told_11, x_loadI_2, tw_13_0, tw_13_1, tw_13_2, tw_13_3, tw_13_4, tw_13_5, tw_13_6, tw_13_o, b_X6_told_56, f_6_4, x_imul, x_iadd, y_iald_25, y_iald_35, b_X6_told_67, f_6_1, b_X6_told_74, f_6_2, b_X6_told_81, b_X6_told_87, b_X6_told_93, q_isL_I, q_isL_R, q_isL_S, true_and, and_true, and_self, List.length_nil, List.length_cons, Nat.zero_add, x_K, x_Kn, Int.reduceToNat, Nat.reduceAdd, Nat.reduceMul, Nat.reduceLeDiff, Nat.reduceLT, Nat.zero_le, Int.reduceAdd, Int.reduceSub, Int.reduceMul, Int.reduceNeg, q_add_e, q_sub_e, q_mul_e, q_neg_e, q_upd_s, q_upd_n, zr_shr0, zr_shr1, zr_shr2, zr_shr3, zr_shr4, zr_and, zr_dyn8, zr_or, zr_shl, q_cpy_n, y_cpy26, c_X6_isStone, mp_isStone, c, and_self, if_true, c_X6_goesOf]
      refine gk _ _ _ _ (fun v M2 h2 => ?_)
      simp (disch := omega) only [b_X6_told_0, x_loadR_0, x_loadS_0, x_loadI_1, y_if_ne_t, y_if_ne_f, b_X6_told_8, x_iconst, x_ret0, b_X6_told_11, x_loadI_2, tw_13_0, tw_13_1, tw_13_2, tw_13_3, tw_13_4, tw_13_5, tw_13_6, tw_13_o, b_X6_told_56, f_6_4, x_imul, x_iadd, y_iald_25, y_iald_35, b_X6_told_67, f_6_1, b_X6_told_74, f_6_2, b_X6_told_81, b_X6_told_87, b_X6_told_93, q_isL_I, q_isL_R, q_isL_S, true_and, and_true, and_self, List.length_nil, List.length_cons, Nat.zero_add, x_K, x_Kn, Int.reduceToNat, Nat.reduceAdd, Nat.reduceMul, Nat.reduceLeDiff, Nat.reduceLT, Nat.zero_le, Int.reduceAdd, Int.reduceSub, Int.reduceMul, Int.reduceNeg, q_add_e, q_sub_e, q_mul_e, q_neg_e, q_upd_s, q_upd_n, zr_shr0, zr_shr1, zr_shr2, zr_shr3, zr_shr4, zr_and, zr_dyn8, zr_or, zr_shl, q_cpy_n, y_cpy26]
      exact hq _ _ (q_mq_mf h2)
    · simp (disch := omega) only [b_X6_told_0, x_loadR_0, x_loadS_0, x_loadI_1, y_if_ne_t, y_if_ne_f, b_X6_told_8, x_iconst, x_ret0, b_X6_told_11, x_loadI_2, tw_13_0, tw_13_1, tw_13_2, tw_13_3, tw_13_4, tw_13_5, tw_13_6, tw_13_o, b_X6_told_56, f_6_4, x_imul, x_iadd, y_iald_25, y_iald_35, b_X6_told_67, f_6_1, b_X6_told_74, f_6_2, b_X6_told_81, b_X6_told_87, b_X6_told_93, q_isL_I, q_isL_R, q_isL_S, true_and, and_true, and_self, List.length_nil, List.length_cons, Nat.zero_add, x_K, x_Kn, Int.reduceToNat, Nat.reduceAdd, Nat.reduceMul, Nat.reduceLeDiff, Nat.reduceLT, Nat.zero_le, Int.reduceAdd, Int.reduceSub, Int.reduceMul, Int.reduceNeg, q_add_e, q_sub_e, q_mul_e, q_neg_e, q_upd_s, q_upd_n, zr_shr0, zr_shr1, zr_shr2, zr_shr3, zr_shr4, zr_and, zr_dyn8, zr_or, zr_shl, q_cpy_n, y_cpy26, c_X6_isStone, mp_isStone, c, and_self, if_true, y_tsw_o]
      exact hq _ _ q_mq_rf
  · simp (disch := omega) only [b_X6_told_0, x_loadR_0, x_loadS_0, x_loadI_1, y_if_ne_t, y_if_ne_f, b_X6_told_8, x_iconst, x_ret0, b_X6_told_11, x_loadI_2, tw_13_0, tw_13_1, tw_13_2, tw_13_3, tw_13_4, tw_13_5, tw_13_6, tw_13_o, b_X6_told_56, f_6_4, x_imul, x_iadd, y_iald_25, y_iald_35, b_X6_told_67, f_6_1, b_X6_told_74, f_6_2, b_X6_told_81, b_X6_told_87, b_X6_told_93, q_isL_I, q_isL_R, q_isL_S, true_and, and_true, and_self, List.length_nil, List.length_cons, Nat.zero_add, x_K, x_Kn, Int.reduceToNat, Nat.reduceAdd, Nat.reduceMul, Nat.reduceLeDiff, Nat.reduceLT, Nat.zero_le, Int.reduceAdd, Int.reduceSub, Int.reduceMul, Int.reduceNeg, q_add_e, q_sub_e, q_mul_e, q_neg_e, q_upd_s, q_upd_n, zr_shr0, zr_shr1, zr_shr2, zr_shr3, zr_shr4, zr_and, zr_dyn8, zr_or, zr_shl, q_cpy_n, y_cpy26, c_X6_isStone, mp_isStone, c, if_false]
    exact hq _ _ q_mq_rf
set_option maxHeartbeats 4000000 in
theorem mf_love {Vt : Nat → Nat → (Nat → Int) → Int} {d tm : Nat} {g : q_G} {M : q_M} {p b w : Int} {Q : Option q_V → q_G → q_M → Prop} (hI : q_MI Vt tm M) (hq : ∀ (v : Int) (M2 : q_M), q_mq M M2 → Q (some (qI v)) g M2) : q_S 1 (d + 10) 146 [qR 6 100, qI p, qI b, qI w] g M Q := by
  have n0 := hI.1.1
  rw [s_X6_love]
  have hm := (q_MI_mi hI).1
  by_cases c : 0 ≤ p ∧ p ≤ M 100 0 - 1
  · by_cases c2 : 0 ≤ b ∧ b ≤ 4
    · obtain ⟨N, rfl⟩ : ∃ N : Nat, p = N := ⟨p.toNat, by omega⟩
      obtain ⟨B, rfl⟩ : ∃ B : Nat, b = B := ⟨b.toNat, by omega⟩
      have lk : ∀ (nx : Nat) (ops : List Instr) (ls st : List q_V), (∀ (v : Int) (M2 : q_M), q_mf M M2 → q_T 1 (d + 10) qP_X6_love nx ops ls (qI v :: st) g M2 Q) → q_S 1 (d + 9) 141 [qR 6 100, qI N, qI B] g M (q_K 1 (d + 10) qP_X6_love nx ops ls st Q) := fun nx ops ls st h => mp_likes hm (by omega) (by omega) (fun M2 h2 => h _ M2 h2)
      have wk : ∀ (nx : Nat) (ops : List Instr) (ls st : List q_V), (∀ (v : Int) (M2 : q_M), q_mf M M2 → q_T 1 (d + 10) qP_X6_love nx ops ls (qI v :: st) g M2 Q) → q_S 1 (d + 9) 142 [qR 6 100, qI N, qI B] g M (q_K 1 (d + 10) qP_X6_love nx ops ls st Q) := fun nx ops ls st h => mp_wants hm (by omega) (by omega) (fun M2 h2 => h _ M2 h2)
      by_cases k0 : w = 0
      · simp (disch := omega) only [b_X6_love_0, x_loadR_0, x_loadS_0, x_loadI_1, y_if_eq_t, y_if_eq_f, b_X6_love_8, x_loadI_2, y_if_ne_t, y_if_ne_f, b_X6_love_15, x_iconst, x_ret0, b_X6_love_19, x_loadI_3, b_X6_love_23, x_goto, b_X6_love_32, y_ic_ne_t, y_ic_ne_f, b_X6_love_37, b_X6_love_46, b_X6_love_49, q_isL_I, q_isL_R, q_isL_S, true_and, and_true, and_self, List.length_nil, List.length_cons, Nat.zero_add, x_K, x_Kn, Int.reduceToNat, Nat.reduceAdd, Nat.reduceMul, Nat.reduceLeDiff, Nat.reduceLT, Nat.zero_le, Int.reduceAdd, Int.reduceSub, Int.reduceMul, Int.reduceNeg, q_add_e, q_sub_e, q_mul_e, q_neg_e, q_upd_s, q_upd_n, zr_shr0, zr_shr1, zr_shr2, zr_shr3, zr_shr4, zr_and, zr_dyn8, zr_or, zr_shl, q_cpy_n, y_cpy26, c_X6_isStone, mp_isStone, c, c_X6_isSite, mp_isSite, c2, and_self, if_true, c_X6_likesOf]
        refine lk _ _ _ _ (fun v M2 h2 => ?_)
        simp (disch := omega) only [b_X6_love_0, x_loadR_0, x_loadS_0, x_loadI_1, y_if_eq_t, y_if_eq_f, b_X6_love_8, x_loadI_2, y_if_ne_t, y_if_ne_f, b_X6_love_15, x_iconst, x_ret0, b_X6_love_19, x_loadI_3, b_X6_love_23, x_goto, b_X6_love_32, y_ic_ne_t, y_ic_ne_f, b_X6_love_37, b_X6_love_46, b_X6_love_49, q_isL_I, q_isL_R, q_isL_S, true_and, and_true, and_self, List.length_nil, List.length_cons, Nat.zero_add, x_K, x_Kn, Int.reduceToNat, Nat.reduceAdd, Nat.reduceMul, Nat.reduceLeDiff, Nat.reduceLT, Nat.zero_le, Int.reduceAdd, Int.reduceSub, Int.reduceMul, Int.reduceNeg, q_add_e, q_sub_e, q_mul_e, q_neg_e, q_upd_s, q_upd_n, zr_shr0, zr_shr1, zr_shr2, zr_shr3, zr_shr4, zr_and, zr_dyn8, zr_or, zr_shl, q_cpy_n, y_cpy26]
        exact hq _ _ (q_mq_mf h2)
      · by_cases k1 : w = 1
        · simp (disch := omega) only [b_X6_love_0, x_loadR_0, x_loadS_0, x_loadI_1, y_if_eq_t, y_if_eq_f, b_X6_love_8, x_loadI_2, y_if_ne_t, y_if_ne_f, b_X6_love_15, x_iconst, x_ret0, b_X6_love_19, x_loadI_3, b_X6_love_23, x_goto, b_X6_love_32, y_ic_ne_t, y_ic_ne_f, b_X6_love_37, b_X6_love_46, b_X6_love_49, q_isL_I, q_isL_R, q_isL_S, true_and, and_true, and_self, List.length_nil, List.length_cons, Nat.zero_add, x_K, x_Kn, Int.reduceToNat, Nat.reduceAdd, Nat.reduceMul, Nat.reduceLeDiff, Nat.reduceLT, Nat.zero_le, Int.reduceAdd, Int.reduceSub, Int.reduceMul, Int.reduceNeg, q_add_e, q_sub_e, q_mul_e, q_neg_e, q_upd_s, q_upd_n, zr_shr0, zr_shr1, zr_shr2, zr_shr3, zr_shr4, zr_and, zr_dyn8, zr_or, zr_shl, q_cpy_n, y_cpy26, c_X6_isStone, mp_isStone, c, c_X6_isSite, mp_isSite, c2, and_self, if_true, c_X6_wantedOf]
          refine wk _ _ _ _ (fun v M2 h2 => ?_)
          simp (disch := omega) only [b_X6_love_0, x_loadR_0, x_loadS_0, x_loadI_1, y_if_eq_t, y_if_eq_f, b_X6_love_8, x_loadI_2, y_if_ne_t, y_if_ne_f, b_X6_love_15, x_iconst, x_ret0, b_X6_love_19, x_loadI_3, b_X6_love_23, x_goto, b_X6_love_32, y_ic_ne_t, y_ic_ne_f, b_X6_love_37, b_X6_love_46, b_X6_love_49, q_isL_I, q_isL_R, q_isL_S, true_and, and_true, and_self, List.length_nil, List.length_cons, Nat.zero_add, x_K, x_Kn, Int.reduceToNat, Nat.reduceAdd, Nat.reduceMul, Nat.reduceLeDiff, Nat.reduceLT, Nat.zero_le, Int.reduceAdd, Int.reduceSub, Int.reduceMul, Int.reduceNeg, q_add_e, q_sub_e, q_mul_e, q_neg_e, q_upd_s, q_upd_n, zr_shr0, zr_shr1, zr_shr2, zr_shr3, zr_shr4, zr_and, zr_dyn8, zr_or, zr_shl, q_cpy_n, y_cpy26]
          exact hq _ _ (q_mq_mf h2)
        · simp (disch := omega) only [b_X6_love_0, x_loadR_0, x_loadS_0, x_loadI_1, y_if_eq_t, y_if_eq_f, b_X6_love_8, x_loadI_2, y_if_ne_t, y_if_ne_f, b_X6_love_15, x_iconst, x_ret0, b_X6_love_19, x_loadI_3, b_X6_love_23, x_goto, b_X6_love_32, y_ic_ne_t, y_ic_ne_f, b_X6_love_37, b_X6_love_46, b_X6_love_49, q_isL_I, q_isL_R, q_isL_S, true_and, and_true, and_self, List.length_nil, List.length_cons, Nat.zero_add, x_K, x_Kn, Int.reduceToNat, Nat.reduceAdd, Nat.reduceMul, Nat.reduceLeDiff, Nat.reduceLT, Nat.zero_le, Int.reduceAdd, Int.reduceSub, Int.reduceMul, Int.reduceNeg, q_add_e, q_sub_e, q_mul_e, q_neg_e, q_upd_s, q_upd_n, zr_shr0, zr_shr1, zr_shr2, zr_shr3, zr_shr4, zr_and, zr_dyn8, zr_or, zr_shl, q_cpy_n, y_cpy26, c_X6_isStone, mp_isStone, c, c_X6_isSite, mp_isSite, c2, and_self, if_true]
          exact hq _ _ q_mq_rf
    · simp (disch := omega) only [b_X6_love_0, x_loadR_0, x_loadS_0, x_loadI_1, y_if_eq_t, y_if_eq_f, b_X6_love_8, x_loadI_2, y_if_ne_t, y_if_ne_f, b_X6_love_15, x_iconst, x_ret0, b_X6_love_19, x_loadI_3, b_X6_love_23, x_goto, b_X6_love_32, y_ic_ne_t, y_ic_ne_f, b_X6_love_37, b_X6_love_46, b_X6_love_49, q_isL_I, q_isL_R, q_isL_S, true_and, and_true, and_self, List.length_nil, List.length_cons, Nat.zero_add, x_K, x_Kn, Int.reduceToNat, Nat.reduceAdd, Nat.reduceMul, Nat.reduceLeDiff, Nat.reduceLT, Nat.zero_le, Int.reduceAdd, Int.reduceSub, Int.reduceMul, Int.reduceNeg, q_add_e, q_sub_e, q_mul_e, q_neg_e, q_upd_s, q_upd_n, zr_shr0, zr_shr1, zr_shr2, zr_shr3, zr_shr4, zr_and, zr_dyn8, zr_or, zr_shl, q_cpy_n, y_cpy26, c_X6_isStone, mp_isStone, c, c_X6_isSite, mp_isSite, c2, and_self, if_true, if_false]
      exact hq _ _ q_mq_rf
  · simp (disch := omega) only [b_X6_love_0, x_loadR_0, x_loadS_0, x_loadI_1, y_if_eq_t, y_if_eq_f, b_X6_love_8, x_loadI_2, y_if_ne_t, y_if_ne_f, b_X6_love_15, x_iconst, x_ret0, b_X6_love_19, x_loadI_3, b_X6_love_23, x_goto, b_X6_love_32, y_ic_ne_t, y_ic_ne_f, b_X6_love_37, b_X6_love_46, b_X6_love_49, q_isL_I, q_isL_R, q_isL_S, true_and, and_true, and_self, List.length_nil, List.length_cons, Nat.zero_add, x_K, x_Kn, Int.reduceToNat, Nat.reduceAdd, Nat.reduceMul, Nat.reduceLeDiff, Nat.reduceLT, Nat.zero_le, Int.reduceAdd, Int.reduceSub, Int.reduceMul, Int.reduceNeg, q_add_e, q_sub_e, q_mul_e, q_neg_e, q_upd_s, q_upd_n, zr_shr0, zr_shr1, zr_shr2, zr_shr3, zr_shr4, zr_and, zr_dyn8, zr_or, zr_shl, q_cpy_n, y_cpy26, c_X6_isStone, mp_isStone, c, if_false]
    exact hq _ _ q_mq_rf
theorem mf_run {Vt : Nat → Nat → (Nat → Int) → Int} {d tm : Nat} {g : q_G} {M : q_M} {n wt : Int} {Q : Option q_V → q_G → q_M → Prop} (hI : q_MI Vt tm M) (hq : ∀ (v : Int) (M2 : q_M), q_mq M M2 → Q (some (qI v)) g M2) : q_S 1 (d + 11) 156 [qR 6 100, qI n, qI wt] g M Q :=
  mp_run (d := d + 3) (q_MI_mi hI) (fun M2 h2 => hq _ _ h2)
theorem mf_when {Vt : Nat → Nat → (Nat → Int) → Int} {d tm : Nat} {g : q_G} {M : q_M} {p wt : Int} {Q : Option q_V → q_G → q_M → Prop} (hI : q_MI Vt tm M) (hq : ∀ (v : Int) (M2 : q_M), q_mq M M2 → Q (some (qI v)) g M2) : q_S 1 (d + 11) 158 [qR 6 100, qI p, qI wt] g M Q :=
  mp_when (d := d + 2) (q_MI_mi hI) (fun M2 h2 => hq _ _ h2)
theorem mf_cart {Vt : Nat → Nat → (Nat → Int) → Int} {d tm : Nat} {g : q_G} {M : q_M} {p wt : Int} {Q : Option q_V → q_G → q_M → Prop} (hI : q_MI Vt tm M) (hq : ∀ (v : Int) (M2 : q_M), q_mq M M2 → Q (some (qI v)) g M2) : q_S 1 (d + 11) 176 [qR 6 100, qI p, qI wt] g M Q :=
  mp_cart (d := d + 2) (q_MI_mi hI) (fun M2 h2 => hq _ _ h2)
theorem mf_judge {Vt : Nat → Nat → (Nat → Int) → Int} {d tm : Nat} {g : q_G} {M : q_M} {s p : Int} {Q : Option q_V → q_G → q_M → Prop} (hI : q_MI Vt tm M) (hq : ∀ (v : Int) (M2 : q_M), q_mq M M2 → Q (some (qI v)) g M2) : q_S 1 (d + 11) 182 [qR 6 100, qI s, qI p] g M Q :=
  mp_judge (d := d + 2) (q_MI_mi hI) (fun M2 h2 => hq _ _ h2)
theorem mf_kinds {Vt : Nat → Nat → (Nat → Int) → Int} {d tm : Nat} {g : q_G} {M : q_M} {s p so : Int} {Q : Option q_V → q_G → q_M → Prop} (hI : q_MI Vt tm M) (hq : ∀ (v : Int) (M2 : q_M), q_mq M M2 → Q (some (qI v)) g M2) : q_S 1 (d + 11) 183 [qR 6 100, qI s, qI p, qI so] g M Q :=
  mp_kinds (d := d + 2) (q_MI_mi hI) (fun M2 h2 => hq _ _ h2)
theorem mf_states {Vt : Nat → Nat → (Nat → Int) → Int} {d tm : Nat} {g : q_G} {M : q_M} {s p so wt : Int} {Q : Option q_V → q_G → q_M → Prop} (hI : q_MI Vt tm M) (hq : ∀ (v : Int) (M2 : q_M), q_mq M M2 → Q (some (qI v)) g M2) : q_S 1 (d + 11) 184 [qR 6 100, qI s, qI p, qI so, qI wt] g M Q :=
  mp_states (d := d + 2) (q_MI_mi hI) (fun M2 h2 => hq _ _ h2)
theorem mf_whose {Vt : Nat → Nat → (Nat → Int) → Int} {d tm : Nat} {g : q_G} {M : q_M} {s : Int} {Q : Option q_V → q_G → q_M → Prop} (hI : q_MI Vt tm M) (hq : ∀ (v : Int) (M2 : q_M), q_mq M M2 → Q (some (qI v)) g M2) : q_S 1 (d + 11) 185 [qR 6 100, qI s] g M Q :=
  mp_whose (d := d + 2) (q_MI_mi hI) (fun M2 h2 => hq _ _ h2)
theorem mf_drawn {Vt : Nat → Nat → (Nat → Int) → Int} {d tm : Nat} {g : q_G} {M : q_M} {seed wt : Int} {Q : Option q_V → q_G → q_M → Prop} (hI : q_MI Vt tm M) (hq : ∀ (v : Int) (M2 : q_M), q_mq M M2 → Q (some (qI v)) g M2) : q_S 1 (d + 11) 189 [qR 6 100, qI seed, qI wt] g M Q :=
  mp_drawn (d := d + 2) (q_MI_mi hI) (fun M2 h2 => hq _ _ h2)
theorem mf_odds {Vt : Nat → Nat → (Nat → Int) → Int} {d tm : Nat} {g : q_G} {M : q_M} {seed seeds most part : Int} {Q : Option q_V → q_G → q_M → Prop} (hI : q_MI Vt tm M) (hq : ∀ (v : Int) (M2 : q_M), q_mq M M2 → Q (some (qL v)) g M2) : q_S 1 (d + 11) 190 [qR 6 100, qI seed, qI seeds, qI most, qI part] g M Q :=
  mp_odds (d := d + 2) (q_MI_mi hI) (fun M2 h2 => hq _ _ h2)
theorem mf_laws {Vt : Nat → Nat → (Nat → Int) → Int} {d tm : Nat} {g : q_G} {M : q_M} {s p : Int} {Q : Option q_V → q_G → q_M → Prop} (hI : q_MI Vt tm M) (hq : ∀ (v : Int) (M2 : q_M), q_mq M M2 → Q (some (qI v)) g M2) : q_S 1 (d + 11) 186 [qR 6 100, qI s, qI p] g M Q :=
  mp_laws (d := d + 2) (q_MI_mi hI) hI.2.2.2.2.1 (fun M2 h2 => hq _ _ h2)
theorem mf_share {Vt : Nat → Nat → (Nat → Int) → Int} {d tm : Nat} {g : q_G} {M : q_M} {part : Int} {Q : Option q_V → q_G → q_M → Prop} (hI : q_MI Vt tm M) (hq : ∀ (v : Int) (M2 : q_M), q_mq M M2 → Q (some (qL v)) g M2) : q_S 1 (d + 11) 178 [qR 6 100, qI part] g M Q :=
  mp_share (d := d + 10) hI.1 (hq _ _ q_mq_rf)
theorem mf_all {Vt : Nat → Nat → (Nat → Int) → Int} {d tm : Nat} {g : q_G} {M : q_M} {wt : Int} {Q : Option q_V → q_G → q_M → Prop} (hI : q_MI Vt tm M) (hq : ∀ (v : Int) (M2 : q_M), q_mq M M2 → Q (some (qI v)) g M2) : q_S 1 (d + 11) 174 [qR 6 100, qI wt] g M Q :=
  mp_allW (d := d + 5) (q_MI_mi hI).1 (fun v M2 h2 => hq _ _ h2)
theorem mf_annex {Vt : Nat → Nat → (Nat → Int) → Int} {d tm : Nat} {g : q_G} {M : q_M} {wt : Int} {Q : Option q_V → q_G → q_M → Prop} (hI : q_MI Vt tm M) (hq : ∀ (v : Int) (M2 : q_M), q_mq M M2 → Q (some (qI v)) g M2) : q_S 1 (d + 11) 175 [qR 6 100, qI wt] g M Q :=
  mp_annexW (d := d + 5) (q_MI_mi hI).1 hI.2.2.1 (fun v M2 h2 => hq _ _ h2)
set_option maxHeartbeats 4000000 in
theorem mf_peace {Vt : Nat → Nat → (Nat → Int) → Int} {d tm : Nat} {g : q_G} {M : q_M} {wt : Int} {Q : Option q_V → q_G → q_M → Prop} (hI : q_MI Vt tm M) (hq : ∀ (v : Int) (M2 : q_M), q_mq M M2 → Q (some (qI v)) g M2) : q_S 1 (d + 11) 167 [qR 6 100, qI wt] g M Q :=
  by
  by_cases c : 0 ≤ wt ∧ wt ≤ 2
  · exact mp_peace (d := d + 6) (q_MI_mi hI).1 c (fun M2 h2 => hq _ _ h2.1)
  · rw [s_X6_peace]
    simp (disch := omega) only [b_X6_peace_0, x_loadI_1, x_iconst, y_if_ne_t, y_if_ne_f, b_X6_peace_9, x_ret0, b_X6_peace_12, x_loadR_0, x_loadS_0, b_X6_peace_20, x_goto, b_X6_peace_27, b_X6_peace_32, q_isL_I, q_isL_R, q_isL_S, true_and, and_true, and_self, List.length_nil, List.length_cons, Nat.zero_add, x_K, x_Kn, Int.reduceToNat, Nat.reduceAdd, Nat.reduceMul, Nat.reduceLeDiff, Nat.reduceLT, Nat.zero_le, Int.reduceAdd, Int.reduceSub, Int.reduceMul, Int.reduceNeg, q_add_e, q_sub_e, q_mul_e, q_neg_e, q_upd_s, q_upd_n, zr_shr0, zr_shr1, zr_shr2, zr_shr3, zr_shr4, zr_and, zr_dyn8, zr_or, zr_shl, q_cpy_n, y_cpy26, c_X6_in, mp_in, c, if_false]
    exact hq _ _ q_mq_rf
set_option maxHeartbeats 4000000 in
theorem mf_court {Vt : Nat → Nat → (Nat → Int) → Int} {d tm : Nat} {g : q_G} {M : q_M} {wt : Int} {Q : Option q_V → q_G → q_M → Prop} (hI : q_MI Vt tm M) (hq : ∀ (v : Int) (M2 : q_M), q_mq M M2 → Q (some (qI v)) g M2) : q_S 1 (d + 11) 171 [qR 6 100, qI wt] g M Q :=
  by
  by_cases c : 0 ≤ wt ∧ wt ≤ 2
  · exact mp_court (d := d + 5) (q_MI_mi hI).1 c (fun M2 M3 h2 h3 => hq _ _ h3)
  · rw [s_X6_court]
    simp (disch := omega) only [b_X6_court_0, x_loadI_1, x_iconst, y_if_ne_t, y_if_ne_f, b_X6_court_9, x_ret0, b_X6_court_12, x_loadR_0, x_loadS_0, b_X6_court_20, x_goto, b_X6_court_27, b_X6_court_32, q_isL_I, q_isL_R, q_isL_S, true_and, and_true, and_self, List.length_nil, List.length_cons, Nat.zero_add, x_K, x_Kn, Int.reduceToNat, Nat.reduceAdd, Nat.reduceMul, Nat.reduceLeDiff, Nat.reduceLT, Nat.zero_le, Int.reduceAdd, Int.reduceSub, Int.reduceMul, Int.reduceNeg, q_add_e, q_sub_e, q_mul_e, q_neg_e, q_upd_s, q_upd_n, zr_shr0, zr_shr1, zr_shr2, zr_shr3, zr_shr4, zr_and, zr_dyn8, zr_or, zr_shl, q_cpy_n, y_cpy26, c_X6_in, mp_in, c, if_false]
    exact hq _ _ q_mq_rf
set_option maxHeartbeats 4000000 in
theorem mf_taken {Vt : Nat → Nat → (Nat → Int) → Int} {d tm : Nat} {g : q_G} {M : q_M} {i k : Int} {Q : Option q_V → q_G → q_M → Prop} (hI : q_MI Vt tm M) (hq : ∀ (v : Int) (M2 : q_M), q_mq M M2 → Q (some (qI v)) g M2) : q_S 1 (d + 11) 198 [qR 6 100, qI i, qI k] g M Q := by
  have n0 := hI.1.1
  rw [s_X6_taken]
  by_cases c1 : 0 ≤ k ∧ k ≤ 6
  · by_cases c2 : 0 ≤ i ∧ i ≤ 9
    · obtain ⟨I, rfl⟩ : ∃ I : Nat, i = I := ⟨i.toNat, by omega⟩
      by_cases c3 : 5 ≤ I
      · by_cases c4 : k = 6
        · simp (disch := omega) only [b_X6_taken_0, x_loadI_2, x_iconst, y_if_ne_t, y_if_ne_f, b_X6_taken_10, x_ret0, b_X6_taken_13, x_loadI_1, b_X6_taken_23, b_X6_taken_26, y_ic_lt_t, y_ic_lt_f, b_X6_taken_31, y_ic_ne_t, y_ic_ne_f, b_X6_taken_37, x_loadR_0, x_loadS_0, f_6_3, x_isub, x_imul, x_iadd, y_iald_25, y_iald_40, x_goto, b_X6_taken_52, b_X6_taken_54, b_X6_taken_55, f_6_0, b_X6_taken_63, b_X6_taken_68, y_ic_ge_t, y_ic_ge_f, b_X6_taken_74, f_6_1, y_if_eq_t, y_if_eq_f, b_X6_taken_87, b_X6_taken_91, b_X6_taken_93, q_isL_I, q_isL_R, q_isL_S, true_and, and_true, and_self, List.length_nil, List.length_cons, Nat.zero_add, x_K, x_Kn, Int.reduceToNat, Nat.reduceAdd, Nat.reduceMul, Nat.reduceLeDiff, Nat.reduceLT, Nat.zero_le, Int.reduceAdd, Int.reduceSub, Int.reduceMul, Int.reduceNeg, q_add_e, q_sub_e, q_mul_e, q_neg_e, q_upd_s, q_upd_n, zr_shr0, zr_shr1, zr_shr2, zr_shr3, zr_shr4, zr_and, zr_dyn8, zr_or, zr_shl, q_cpy_n, y_cpy26, c_X6_in, mp_in, c1, c2, and_self, if_true]
          exact hq _ _ q_mq_rf
        · simp (disch := omega) only [b_X6_taken_0, x_loadI_2, x_iconst, y_if_ne_t, y_if_ne_f, b_X6_taken_10, x_ret0, b_X6_taken_13, x_loadI_1, b_X6_taken_23, b_X6_taken_26, y_ic_lt_t, y_ic_lt_f, b_X6_taken_31, y_ic_ne_t, y_ic_ne_f, b_X6_taken_37, x_loadR_0, x_loadS_0, f_6_3, x_isub, x_imul, x_iadd, y_iald_25, y_iald_40, x_goto, b_X6_taken_52, b_X6_taken_54, b_X6_taken_55, f_6_0, b_X6_taken_63, b_X6_taken_68, y_ic_ge_t, y_ic_ge_f, b_X6_taken_74, f_6_1, y_if_eq_t, y_if_eq_f, b_X6_taken_87, b_X6_taken_91, b_X6_taken_93, q_isL_I, q_isL_R, q_isL_S, true_and, and_true, and_self, List.length_nil, List.length_cons, Nat.zero_add, x_K, x_Kn, Int.reduceToNat, Nat.reduceAdd, Nat.reduceMul, Nat.reduceLeDiff, Nat.reduceLT, Nat.zero_le, Int.reduceAdd, Int.reduceSub, Int.reduceMul, Int.reduceNeg, q_add_e, q_sub_e, q_mul_e, q_neg_e, q_upd_s, q_upd_n, zr_shr0, zr_shr1, zr_shr2, zr_shr3, zr_shr4, zr_and, zr_dyn8, zr_or, zr_shl, q_cpy_n, y_cpy26, c_X6_in, mp_in, c1, c2, and_self, if_true]
          exact hq _ _ q_mq_rf
      · by_cases c4 : (I : Int) < M 100 0
        · by_cases c5 : k < 6
          · by_cases c6 : F_und (M 101 I) k = true
            · simp (disch := omega) only [b_X6_taken_0, x_loadI_2, x_iconst, y_if_ne_t, y_if_ne_f, b_X6_taken_10, x_ret0, b_X6_taken_13, x_loadI_1, b_X6_taken_23, b_X6_taken_26, y_ic_lt_t, y_ic_lt_f, b_X6_taken_31, y_ic_ne_t, y_ic_ne_f, b_X6_taken_37, x_loadR_0, x_loadS_0, f_6_3, x_isub, x_imul, x_iadd, y_iald_25, y_iald_40, x_goto, b_X6_taken_52, b_X6_taken_54, b_X6_taken_55, f_6_0, b_X6_taken_63, b_X6_taken_68, y_ic_ge_t, y_ic_ge_f, b_X6_taken_74, f_6_1, y_if_eq_t, y_if_eq_f, b_X6_taken_87, b_X6_taken_91, b_X6_taken_93, q_isL_I, q_isL_R, q_isL_S, true_and, and_true, and_self, List.length_nil, List.length_cons, Nat.zero_add, x_K, x_Kn, Int.reduceToNat, Nat.reduceAdd, Nat.reduceMul, Nat.reduceLeDiff, Nat.reduceLT, Nat.zero_le, Int.reduceAdd, Int.reduceSub, Int.reduceMul, Int.reduceNeg, q_add_e, q_sub_e, q_mul_e, q_neg_e, q_upd_s, q_upd_n, zr_shr0, zr_shr1, zr_shr2, zr_shr3, zr_shr4, zr_and, zr_dyn8, zr_or, zr_shl, q_cpy_n, y_cpy26, c_X6_in, mp_in, c1, c2, and_self, if_true, Int.toNat_natCast, c_X6_isUnder, mp_isUnder, c6]
              exact hq _ _ q_mq_rf
            · simp (disch := omega) only [b_X6_taken_0, x_loadI_2, x_iconst, y_if_ne_t, y_if_ne_f, b_X6_taken_10, x_ret0, b_X6_taken_13, x_loadI_1, b_X6_taken_23, b_X6_taken_26, y_ic_lt_t, y_ic_lt_f, b_X6_taken_31, y_ic_ne_t, y_ic_ne_f, b_X6_taken_37, x_loadR_0, x_loadS_0, f_6_3, x_isub, x_imul, x_iadd, y_iald_25, y_iald_40, x_goto, b_X6_taken_52, b_X6_taken_54, b_X6_taken_55, f_6_0, b_X6_taken_63, b_X6_taken_68, y_ic_ge_t, y_ic_ge_f, b_X6_taken_74, f_6_1, y_if_eq_t, y_if_eq_f, b_X6_taken_87, b_X6_taken_91, b_X6_taken_93, q_isL_I, q_isL_R, q_isL_S, true_and, and_true, and_self, List.length_nil, List.length_cons, Nat.zero_add, x_K, x_Kn, Int.reduceToNat, Nat.reduceAdd, Nat.reduceMul, Nat.reduceLeDiff, Nat.reduceLT, Nat.zero_le, Int.reduceAdd, Int.reduceSub, Int.reduceMul, Int.reduceNeg, q_add_e, q_sub_e, q_mul_e, q_neg_e, q_upd_s, q_upd_n, zr_shr0, zr_shr1, zr_shr2, zr_shr3, zr_shr4, zr_and, zr_dyn8, zr_or, zr_shl, q_cpy_n, y_cpy26, c_X6_in, mp_in, c1, c2, and_self, if_true, Int.toNat_natCast, c_X6_isUnder, mp_isUnder, c6, Bool.false_eq_true, if_false]
              exact hq _ _ q_mq_rf
          · simp (disch := omega) only [b_X6_taken_0, x_loadI_2, x_iconst, y_if_ne_t, y_if_ne_f, b_X6_taken_10, x_ret0, b_X6_taken_13, x_loadI_1, b_X6_taken_23, b_X6_taken_26, y_ic_lt_t, y_ic_lt_f, b_X6_taken_31, y_ic_ne_t, y_ic_ne_f, b_X6_taken_37, x_loadR_0, x_loadS_0, f_6_3, x_isub, x_imul, x_iadd, y_iald_25, y_iald_40, x_goto, b_X6_taken_52, b_X6_taken_54, b_X6_taken_55, f_6_0, b_X6_taken_63, b_X6_taken_68, y_ic_ge_t, y_ic_ge_f, b_X6_taken_74, f_6_1, y_if_eq_t, y_if_eq_f, b_X6_taken_87, b_X6_taken_91, b_X6_taken_93, q_isL_I, q_isL_R, q_isL_S, true_and, and_true, and_self, List.length_nil, List.length_cons, Nat.zero_add, x_K, x_Kn, Int.reduceToNat, Nat.reduceAdd, Nat.reduceMul, Nat.reduceLeDiff, Nat.reduceLT, Nat.zero_le, Int.reduceAdd, Int.reduceSub, Int.reduceMul, Int.reduceNeg, q_add_e, q_sub_e, q_mul_e, q_neg_e, q_upd_s, q_upd_n, zr_shr0, zr_shr1, zr_shr2, zr_shr3, zr_shr4, zr_and, zr_dyn8, zr_or, zr_shl, q_cpy_n, y_cpy26, c_X6_in, mp_in, c1, c2, and_self, if_true]
            exact hq _ _ q_mq_rf
        · simp (disch := omega) only [b_X6_taken_0, x_loadI_2, x_iconst, y_if_ne_t, y_if_ne_f, b_X6_taken_10, x_ret0, b_X6_taken_13, x_loadI_1, b_X6_taken_23, b_X6_taken_26, y_ic_lt_t, y_ic_lt_f, b_X6_taken_31, y_ic_ne_t, y_ic_ne_f, b_X6_taken_37, x_loadR_0, x_loadS_0, f_6_3, x_isub, x_imul, x_iadd, y_iald_25, y_iald_40, x_goto, b_X6_taken_52, b_X6_taken_54, b_X6_taken_55, f_6_0, b_X6_taken_63, b_X6_taken_68, y_ic_ge_t, y_ic_ge_f, b_X6_taken_74, f_6_1, y_if_eq_t, y_if_eq_f, b_X6_taken_87, b_X6_taken_91, b_X6_taken_93, q_isL_I, q_isL_R, q_isL_S, true_and, and_true, and_self, List.length_nil, List.length_cons, Nat.zero_add, x_K, x_Kn, Int.reduceToNat, Nat.reduceAdd, Nat.reduceMul, Nat.reduceLeDiff, Nat.reduceLT, Nat.zero_le, Int.reduceAdd, Int.reduceSub, Int.reduceMul, Int.reduceNeg, q_add_e, q_sub_e, q_mul_e, q_neg_e, q_upd_s, q_upd_n, zr_shr0, zr_shr1, zr_shr2, zr_shr3, zr_shr4, zr_and, zr_dyn8, zr_or, zr_shl, q_cpy_n, y_cpy26, c_X6_in, mp_in, c1, c2, and_self, if_true]
          exact hq _ _ q_mq_rf
    · simp (disch := omega) only [b_X6_taken_0, x_loadI_2, x_iconst, y_if_ne_t, y_if_ne_f, b_X6_taken_10, x_ret0, b_X6_taken_13, x_loadI_1, b_X6_taken_23, b_X6_taken_26, y_ic_lt_t, y_ic_lt_f, b_X6_taken_31, y_ic_ne_t, y_ic_ne_f, b_X6_taken_37, x_loadR_0, x_loadS_0, f_6_3, x_isub, x_imul, x_iadd, y_iald_25, y_iald_40, x_goto, b_X6_taken_52, b_X6_taken_54, b_X6_taken_55, f_6_0, b_X6_taken_63, b_X6_taken_68, y_ic_ge_t, y_ic_ge_f, b_X6_taken_74, f_6_1, y_if_eq_t, y_if_eq_f, b_X6_taken_87, b_X6_taken_91, b_X6_taken_93, q_isL_I, q_isL_R, q_isL_S, true_and, and_true, and_self, List.length_nil, List.length_cons, Nat.zero_add, x_K, x_Kn, Int.reduceToNat, Nat.reduceAdd, Nat.reduceMul, Nat.reduceLeDiff, Nat.reduceLT, Nat.zero_le, Int.reduceAdd, Int.reduceSub, Int.reduceMul, Int.reduceNeg, q_add_e, q_sub_e, q_mul_e, q_neg_e, q_upd_s, q_upd_n, zr_shr0, zr_shr1, zr_shr2, zr_shr3, zr_shr4, zr_and, zr_dyn8, zr_or, zr_shl, q_cpy_n, y_cpy26, c_X6_in, mp_in, c1, c2, and_self, if_true, if_false]
      exact hq _ _ q_mq_rf
  · simp (disch := omega) only [b_X6_taken_0, x_loadI_2, x_iconst, y_if_ne_t, y_if_ne_f, b_X6_taken_10, x_ret0, b_X6_taken_13, x_loadI_1, b_X6_taken_23, b_X6_taken_26, y_ic_lt_t, y_ic_lt_f, b_X6_taken_31, y_ic_ne_t, y_ic_ne_f, b_X6_taken_37, x_loadR_0, x_loadS_0, f_6_3, x_isub, x_imul, x_iadd, y_iald_25, y_iald_40, x_goto, b_X6_taken_52, b_X6_taken_54, b_X6_taken_55, f_6_0, b_X6_taken_63, b_X6_taken_68, y_ic_ge_t, y_ic_ge_f, b_X6_taken_74, f_6_1, y_if_eq_t, y_if_eq_f, b_X6_taken_87, b_X6_taken_91, b_X6_taken_93, q_isL_I, q_isL_R, q_isL_S, true_and, and_true, and_self, List.length_nil, List.length_cons, Nat.zero_add, x_K, x_Kn, Int.reduceToNat, Nat.reduceAdd, Nat.reduceMul, Nat.reduceLeDiff, Nat.reduceLT, Nat.zero_le, Int.reduceAdd, Int.reduceSub, Int.reduceMul, Int.reduceNeg, q_add_e, q_sub_e, q_mul_e, q_neg_e, q_upd_s, q_upd_n, zr_shr0, zr_shr1, zr_shr2, zr_shr3, zr_shr4, zr_and, zr_dyn8, zr_or, zr_shl, q_cpy_n, y_cpy26, c_X6_in, mp_in, c1, if_false]
    exact hq _ _ q_mq_rf
