/-! A FRESH OBJECT: years, weather -/
theorem q_lcmp_gt {x y : Int} (h : y < x) : q_lcmp x y = 1 := by
  unfold q_lcmp
  rw [if_neg (by omega), if_neg (by omega)]
theorem q_lcmp_eq {x y : Int} (h : x = y) : q_lcmp x y = 0 := by
  unfold q_lcmp
  rw [if_neg (by omega), if_pos h]
theorem q_i2l_e {x : Int} (h1 : -2147483648 ≤ x) (h2 : x ≤ 2147483647) : q_i2l x = x := by
  unfold q_i2l
  rw [Int32.toInt_toInt64, q_of h1 h2]
theorem q_norm64 (x : Int) : (Int64.ofInt x).toInt = x.bmod 18446744073709551616 := by
  first
    | exact Int64.toInt_ofInt ..
    | simp [Int64.toInt_ofInt]
theorem q_bmod64 {x : Int} (h1 : -9223372036854775808 ≤ x) (h2 : x ≤ 9223372036854775807) : x.bmod 18446744073709551616 = x := by
  rw [Int.bmod_def]
  split <;> omega
theorem q_ofL {x : Int} (h1 : -9223372036854775808 ≤ x) (h2 : x ≤ 9223372036854775807) : (Int64.ofInt x).toInt = x := by rw [q_norm64, q_bmod64 h1 h2]
theorem q_ladd_e {x y : Int} (h1 : -9223372036854775808 ≤ x + y) (h2 : x + y ≤ 9223372036854775807) : q_ladd x y = x + y := by
  rw [q_ladd, Int64.toInt_add, q_norm64, q_norm64]
  simp only [Int.bmod_add_bmod, Int.add_bmod_bmod]
  exact q_bmod64 h1 h2
theorem q_lmul_e {x y : Int} (h1 : -9223372036854775808 ≤ x * y) (h2 : x * y ≤ 9223372036854775807) : q_lmul x y = x * y := by
  rw [q_lmul, Int64.toInt_mul, q_norm64, q_norm64]
  simp only [Int.bmod_mul_bmod, Int.mul_bmod_bmod]
  exact q_bmod64 h1 h2
theorem q_ldiv_e {x y : Int} (h0 : 0 ≤ x) (h1 : x ≤ 9223372036854775807) (h2 : 0 < y) (h3 : y ≤ 9223372036854775807) : q_ldiv x y = x / y := by
  rw [q_ldiv, Int64.toInt_div, q_ofL (by omega) h1, q_ofL (by omega) h3, Int.tdiv_eq_ediv_of_nonneg h0]
  have a1 : 0 ≤ x / y := Int.ediv_nonneg h0 (by omega)
  have a2 : x / y ≤ x := Int.ediv_le_self _ h0
  exact q_bmod64 (by omega) (by omega)
theorem q_lrem_e {x y : Int} (h0 : 0 ≤ x) (h1 : x ≤ 9223372036854775807) (h2 : 0 < y) (h3 : y ≤ 9223372036854775807) : q_lrem x y = x % y := by
  have e := q_ldiv_e h0 h1 h2 h3
  unfold q_ldiv at e
  have a1 : 0 ≤ x % y := Int.emod_nonneg _ (by omega)
  have a2 : x % y < y := Int.emod_lt_of_pos _ h2
  have a3 : y * (x / y) + x % y = x := Int.mul_ediv_add_emod x y
  have a4 : x / y * y = y * (x / y) := Int.mul_comm _ _
  have a5 : 0 ≤ x / y := Int.ediv_nonneg h0 (by omega)
  have a6 : 0 ≤ y * (x / y) := Int.mul_nonneg (by omega) a5
  rw [q_lrem, Int64.toInt_sub, Int64.toInt_mul, e, q_ofL (by omega) h1, q_ofL (by omega) h3, q_bmod64 (x := x / y * y) (by omega) (by omega)]
  rw [q_bmod64 (by omega) (by omega)]
  omega
theorem q_l2i_e {x : Int} (h1 : -2147483648 ≤ x) (h2 : x ≤ 2147483647) : q_l2i x = x := by
  unfold q_l2i
  rw [Int64.toInt_toInt32, q_ofL (by omega) (by omega), q_bmod h1 h2]
theorem q_div_e {x y : Int} (h0 : 0 ≤ x) (h1 : x ≤ 2147483647) (h2 : 0 < y) (h3 : y ≤ 2147483647) : q_div x y = x / y := by
  rw [q_div, Int32.toInt_div, q_of (by omega) h1, q_of (by omega) h3, Int.tdiv_eq_ediv_of_nonneg h0]
  have a1 : 0 ≤ x / y := Int.ediv_nonneg h0 (by omega)
  have a2 : x / y ≤ x := Int.ediv_le_self _ h0
  exact q_bmod (by omega) (by omega)
theorem q_rem_e {x y : Int} (h0 : 0 ≤ x) (h1 : x ≤ 2147483647) (h2 : 0 < y) (h3 : y ≤ 2147483647) : q_rem x y = x % y := by
  have e := q_div_e h0 h1 h2 h3
  unfold q_div at e
  have a1 : 0 ≤ x % y := Int.emod_nonneg _ (by omega)
  have a2 : x % y < y := Int.emod_lt_of_pos _ h2
  have a3 : y * (x / y) + x % y = x := Int.mul_ediv_add_emod x y
  have a4 : x / y * y = y * (x / y) := Int.mul_comm _ _
  have a5 : 0 ≤ x / y := Int.ediv_nonneg h0 (by omega)
  have a6 : 0 ≤ y * (x / y) := Int.mul_nonneg (by omega) a5
  rw [q_rem, Int32.toInt_sub, Int32.toInt_mul, e, q_of (by omega) h1, q_of (by omega) h3, q_bmod (x := x / y * y) (by omega) (by omega)]
  rw [q_bmod (by omega) (by omega)]
  omega
theorem sp_pY0 {d : Nat} {g : q_G} {M : q_M} {Q : Option q_V → q_G → q_M → Prop} (h : M 39 5 = 0) : q_S 1 d 59 [qR 4 38] g M Q = Q (some (qI 0)) g (q_upd M 38 9 (q_add (M 38 9) 1)) := by
  rw [s_X4_passYear]
  simp (disch := omega) only [b_X4_passYear_0, x_iconst, x_storeI_1, x_storeI_2, b_X4_passYear_4, x_loadI_2, x_loadR_0, x_loadS_0, f_4_0, f_0_5, y_ic_ge_t, y_ic_ge_f, b_X4_passYear_15, f_0_1, y_iald_26, y_ic_ne_t, y_ic_ne_f, b_X4_passYear_28, x_goto, b_X4_passYear_36, b_X4_passYear_37, x_storeI_3, x_loadI_3, y_ic_eq_t, y_ic_eq_f, b_X4_passYear_43, y_if_eq_t, y_if_eq_f, b_X4_passYear_52, x_loadI_1, x_ishl, x_ior, b_X4_passYear_58, x_iinc_2, b_X4_passYear_64, x_dupI, x_dupR, f_4_9, x_iadd, p_4_9, x_ret0, q_isL_I, q_isL_R, q_isL_S, true_and, and_true, and_self, List.length_nil, List.length_cons, Nat.zero_add, x_K, x_Kn, Int.reduceToNat, Nat.reduceAdd, Nat.reduceMul, Nat.reduceLeDiff, Nat.reduceLT, Nat.zero_le, Int.reduceAdd, Int.reduceSub, Int.reduceMul, Int.reduceNeg, q_add_e, q_sub_e, q_mul_e, q_neg_e, q_upd_s, q_upd_n, zr_shr0, zr_shr1, zr_shr2, zr_shr3, zr_shr4, zr_and, zr_dyn8, zr_or, zr_shl, q_cpy_n, y_cpy26, h]
theorem sp_yO0 {d : Nat} {g : q_G} {M : q_M} {Q : Option q_V → q_G → q_M → Prop} (h : M 100 0 = 0) : q_S 1 d 151 [qR 6 100] g M Q = Q (some (qI 0)) g (q_upd M 100 5 (q_add (M 100 5) 1)) := by
  rw [s_X6_yearOf]
  simp (disch := omega) only [b_X6_yearOf_0, x_iconst, x_storeI_1, x_storeI_2, b_X6_yearOf_4, x_loadI_2, x_loadR_0, x_loadS_0, f_6_0, y_ic_ge_t, y_ic_ge_f, b_X6_yearOf_12, f_6_4, x_imul, x_iadd, y_iald_35, y_ic_ne_t, y_ic_ne_f, b_X6_yearOf_26, x_loadI_1, y_if_eq_t, y_if_eq_f, b_X6_yearOf_35, x_ishl, x_goto, b_X6_yearOf_41, b_X6_yearOf_42, x_ior, b_X6_yearOf_44, x_iinc_2, b_X6_yearOf_50, x_dupI, x_dupR, f_6_5, p_6_5, x_ret0, q_isL_I, q_isL_R, q_isL_S, true_and, and_true, and_self, List.length_nil, List.length_cons, Nat.zero_add, x_K, x_Kn, Int.reduceToNat, Nat.reduceAdd, Nat.reduceMul, Nat.reduceLeDiff, Nat.reduceLT, Nat.zero_le, Int.reduceAdd, Int.reduceSub, Int.reduceMul, Int.reduceNeg, q_add_e, q_sub_e, q_mul_e, q_neg_e, q_upd_s, q_upd_n, zr_shr0, zr_shr1, zr_shr2, zr_shr3, zr_shr4, zr_and, zr_dyn8, zr_or, zr_shl, q_cpy_n, y_cpy26, h]
/-! a thought that begins as things are -/
set_option maxRecDepth 100000 in
set_option maxHeartbeats 4000000 in
theorem sp_cF {B : q_M} {d : Nat} {g : q_G} {M : q_M} {Q : Option q_V → q_G → q_M → Prop} (h0 : M 12 5 = 0) (hq : ∀ M2 : q_M, M2 39 5 = 0 → (∀ a i, a < 38 ∨ 65 ≤ a → M2 a i = M a i) → Q none g M2) (h8 : M 11 10 = 8) : q_S 1 (d + 1) 49 [qR 4 38, qR 4 11] g M Q := by
  rw [s_X4_copyFrom]
  simp (disch := omega) only [b_X4_copyFrom_0, x_loadR_0, x_loadS_0, f_4_0, x_loadR_1, x_loadS_1, c_X0_copyFrom, s_X0_copyFrom, f_4_1, x_iconst, y_cpy26, f_4_2, f_4_3, f_4_4, f_4_5, f_4_6, b_X4_copyFrom_90, f_4_7, f_4_9, p_4_9, f_4_10, p_4_10, x_vret, b_X0_copyFrom_0, f_0_0, f_0_1, f_0_5, p_0_5, q_isL_I, q_isL_R, q_isL_S, true_and, and_true, and_self, List.length_nil, List.length_cons, Nat.zero_add, x_K, x_Kn, Int.reduceToNat, Nat.reduceAdd, Nat.reduceMul, Nat.reduceLeDiff, Nat.reduceLT, Nat.zero_le, Int.reduceAdd, Int.reduceSub, Int.reduceMul, Int.reduceNeg, q_add_e, q_sub_e, q_mul_e, q_neg_e, q_upd_s, q_upd_n, zr_shr0, zr_shr1, zr_shr2, zr_shr3, zr_shr4, zr_and, zr_dyn8, zr_or, zr_shl, q_cpy_n, y_cpy26, h0, h8]
  refine hq _ ?_ ?_
  · simp (disch := omega) only [q_upd_s, q_upd_n, q_cpy_n, h0]
  · intro a i ha
    simp (disch := omega) only [q_upd_n, q_cpy_n]
set_option maxRecDepth 100000 in
set_option maxHeartbeats 4000000 in
theorem sp_keeps {d : Nat} {g : q_G} {M : q_M} {Q : Option q_V → q_G → q_M → Prop} (hq : ∀ M2 : q_M, (∀ a i, a ≠ 118 → M2 a i = M a i) → Q none g M2) : q_S 1 d 154 [qR 6 100] g M Q := by
  rw [s_X6_keeps]
  simp (disch := omega) only [b_X6_keeps_0, x_iconst, x_storeI_1, b_X6_keeps_2, x_loadI_1, y_ic_ge_t, y_ic_ge_f, b_X6_keeps_8, x_loadR_0, x_loadS_0, f_6_30, f_6_4, y_iald_35, y_iald_40, y_iald_56, y_iast_35, y_iast_40, y_iast_56, x_iinc_1, x_goto, b_X6_keeps_26, b_X6_keeps_28, b_X6_keeps_34, x_iadd, f_6_3, b_X6_keeps_55, f_6_5, x_vret, q_isL_I, q_isL_R, q_isL_S, true_and, and_true, and_self, List.length_nil, List.length_cons, Nat.zero_add, x_K, x_Kn, Int.reduceToNat, Nat.reduceAdd, Nat.reduceMul, Nat.reduceLeDiff, Nat.reduceLT, Nat.zero_le, Int.reduceAdd, Int.reduceSub, Int.reduceMul, Int.reduceNeg, q_add_e, q_sub_e, q_mul_e, q_neg_e, q_upd_s, q_upd_n, zr_shr0, zr_shr1, zr_shr2, zr_shr3, zr_shr4, zr_and, zr_dyn8, zr_or, zr_shl, q_cpy_n, y_cpy26]
  refine hq _ ?_
  intro a i ha
  simp (disch := omega) only [q_upd_n]
set_option maxRecDepth 100000 in
set_option maxHeartbeats 4000000 in
theorem sp_lays {d : Nat} {g : q_G} {M : q_M} {Q : Option q_V → q_G → q_M → Prop} (hq : ∀ M2 : q_M, (∀ a i, a ≠ 103 → a ≠ 104 → ¬ (a = 100 ∧ i = 5) → M2 a i = M a i) → Q none g M2) : q_S 1 d 155 [qR 6 100] g M Q := by
  rw [s_X6_lays]
  simp (disch := omega) only [b_X6_lays_0, x_iconst, x_storeI_1, b_X6_lays_2, x_loadI_1, y_ic_ge_t, y_ic_ge_f, b_X6_lays_8, x_loadR_0, x_loadS_0, f_6_4, f_6_30, y_iald_35, y_iald_40, y_iald_56, y_iast_35, y_iast_40, y_iast_56, x_iinc_1, x_goto, b_X6_lays_26, b_X6_lays_28, b_X6_lays_34, f_6_3, x_iadd, b_X6_lays_55, p_6_5, x_vret, q_isL_I, q_isL_R, q_isL_S, true_and, and_true, and_self, List.length_nil, List.length_cons, Nat.zero_add, x_K, x_Kn, Int.reduceToNat, Nat.reduceAdd, Nat.reduceMul, Nat.reduceLeDiff, Nat.reduceLT, Nat.zero_le, Int.reduceAdd, Int.reduceSub, Int.reduceMul, Int.reduceNeg, q_add_e, q_sub_e, q_mul_e, q_neg_e, q_upd_s, q_upd_n, zr_shr0, zr_shr1, zr_shr2, zr_shr3, zr_shr4, zr_and, zr_dyn8, zr_or, zr_shl, q_cpy_n, y_cpy26]
  refine hq _ ?_
  intro a i ha hb hc
  have hd : a ≠ 100 ∨ i ≠ 5 := by omega
  simp (disch := omega) only [q_upd_n]
