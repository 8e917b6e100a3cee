/-! THE CLASS'S ENTRIES: a sheet's numbers against the years of a thought -/
theorem sp_isMissing {d : Nat} {g : q_G} {M : q_M} {a : Nat} (Q : Option q_V → q_G → q_M → Prop) : q_S 1 d 43 [qR 2 a] g M Q = Q (some (qI (if M a 1 = -1 then 1 else 0))) g M := by
  rw [s_X2_isMissing]
  by_cases h : M a 1 = -1
  · rw [if_pos h]
    simp (disch := omega) only [b_X2_isMissing_0, x_loadR_0, x_loadS_0, f_2_1, x_iconst, y_ic_ne_t, y_ic_ne_f, b_X2_isMissing_8, x_goto, b_X2_isMissing_12, b_X2_isMissing_13, x_ret1_0, x_ret1_1, q_isL_I, q_isL_R, q_isL_S, true_and, and_true, and_self, List.length_nil, List.length_cons, Nat.zero_add, x_K, x_Kn, Int.reduceToNat, Nat.reduceAdd, Nat.reduceMul, Nat.reduceLeDiff, Nat.reduceLT, Nat.zero_le, Int.reduceAdd, Int.reduceSub, Int.reduceMul, Int.reduceNeg, q_add_e, q_sub_e, q_mul_e, q_neg_e, q_upd_s, q_upd_n, zr_shr0, zr_shr1, zr_shr2, zr_shr3, zr_shr4, zr_and, zr_dyn8, zr_or, zr_shl, q_cpy_n, y_cpy26]
  · rw [if_neg h]
    simp (disch := omega) only [b_X2_isMissing_0, x_loadR_0, x_loadS_0, f_2_1, x_iconst, y_ic_ne_t, y_ic_ne_f, b_X2_isMissing_8, x_goto, b_X2_isMissing_12, b_X2_isMissing_13, x_ret1_0, x_ret1_1, q_isL_I, q_isL_R, q_isL_S, true_and, and_true, and_self, List.length_nil, List.length_cons, Nat.zero_add, x_K, x_Kn, Int.reduceToNat, Nat.reduceAdd, Nat.reduceMul, Nat.reduceLeDiff, Nat.reduceLT, Nat.zero_le, Int.reduceAdd, Int.reduceSub, Int.reduceMul, Int.reduceNeg, q_add_e, q_sub_e, q_mul_e, q_neg_e, q_upd_s, q_upd_n, zr_shr0, zr_shr1, zr_shr2, zr_shr3, zr_shr4, zr_and, zr_dyn8, zr_or, zr_shl, q_cpy_n, y_cpy26]
def q_rfA (M : q_M) (s : Int) : Int := if ¬(0 ≤ s ∧ s < 4) then -2 else if M (6 + (86 + 2 * s.toNat)) 1 = -1 then -11 else if 20 < M (6 + (86 + 2 * s.toNat)) 2 then -2 else 0
theorem sp_refusal {d : Nat} {g : q_G} {M : q_M} {s : Int} (Q : Option q_V → q_G → q_M → Prop) : q_S 1 (d + 1) 104 [qR 5 0, qI s] g M Q = Q (some (qI (q_rfA M s))) g M := by
  rw [s_X5_refusalOfTold]
  unfold q_rfA
  by_cases h1 : 0 ≤ s ∧ s < 4
  · rw [if_neg (fun z => z h1)]
    by_cases h2 : M (6 + (86 + 2 * s.toNat)) 1 = -1
    · rw [if_pos h2]
      simp (disch := omega) only [b_X5_refusalOfTold_0, x_loadI_1, y_if_ne_t, y_if_ne_f, b_X5_refusalOfTold_7, x_iconst, x_ret0, b_X5_refusalOfTold_10, x_loadR_0, x_loadS_0, f_5_7, y_aald9, y_if_eq_t, y_if_eq_f, b_X5_refusalOfTold_22, b_X5_refusalOfTold_25, f_2_2, y_ic_le_t, y_ic_le_f, b_X5_refusalOfTold_39, x_goto, b_X5_refusalOfTold_44, b_X5_refusalOfTold_45, q_isL_I, q_isL_R, q_isL_S, true_and, and_true, and_self, List.length_nil, List.length_cons, Nat.zero_add, x_K, x_Kn, Int.reduceToNat, Nat.reduceAdd, Nat.reduceMul, Nat.reduceLeDiff, Nat.reduceLT, Nat.zero_le, Int.reduceAdd, Int.reduceSub, Int.reduceMul, Int.reduceNeg, q_add_e, q_sub_e, q_mul_e, q_neg_e, q_upd_s, q_upd_n, zr_shr0, zr_shr1, zr_shr2, zr_shr3, zr_shr4, zr_and, zr_dyn8, zr_or, zr_shl, q_cpy_n, y_cpy26, c_X5_isSheet, sp_isSheet, h1, and_self, if_true, c_X2_isMissing, sp_isMissing, h2]
    · rw [if_neg h2]
      by_cases h3 : 20 < M (6 + (86 + 2 * s.toNat)) 2
      · rw [if_pos h3]
        simp (disch := omega) only [b_X5_refusalOfTold_0, x_loadI_1, y_if_ne_t, y_if_ne_f, b_X5_refusalOfTold_7, x_iconst, x_ret0, b_X5_refusalOfTold_10, x_loadR_0, x_loadS_0, f_5_7, y_aald9, y_if_eq_t, y_if_eq_f, b_X5_refusalOfTold_22, b_X5_refusalOfTold_25, f_2_2, y_ic_le_t, y_ic_le_f, b_X5_refusalOfTold_39, x_goto, b_X5_refusalOfTold_44, b_X5_refusalOfTold_45, q_isL_I, q_isL_R, q_isL_S, true_and, and_true, and_self, List.length_nil, List.length_cons, Nat.zero_add, x_K, x_Kn, Int.reduceToNat, Nat.reduceAdd, Nat.reduceMul, Nat.reduceLeDiff, Nat.reduceLT, Nat.zero_le, Int.reduceAdd, Int.reduceSub, Int.reduceMul, Int.reduceNeg, q_add_e, q_sub_e, q_mul_e, q_neg_e, q_upd_s, q_upd_n, zr_shr0, zr_shr1, zr_shr2, zr_shr3, zr_shr4, zr_and, zr_dyn8, zr_or, zr_shl, q_cpy_n, y_cpy26, c_X5_isSheet, sp_isSheet, h1, and_self, if_true, c_X2_isMissing, sp_isMissing, h2, if_false]
      · rw [if_neg h3]
        simp (disch := omega) only [b_X5_refusalOfTold_0, x_loadI_1, y_if_ne_t, y_if_ne_f, b_X5_refusalOfTold_7, x_iconst, x_ret0, b_X5_refusalOfTold_10, x_loadR_0, x_loadS_0, f_5_7, y_aald9, y_if_eq_t, y_if_eq_f, b_X5_refusalOfTold_22, b_X5_refusalOfTold_25, f_2_2, y_ic_le_t, y_ic_le_f, b_X5_refusalOfTold_39, x_goto, b_X5_refusalOfTold_44, b_X5_refusalOfTold_45, q_isL_I, q_isL_R, q_isL_S, true_and, and_true, and_self, List.length_nil, List.length_cons, Nat.zero_add, x_K, x_Kn, Int.reduceToNat, Nat.reduceAdd, Nat.reduceMul, Nat.reduceLeDiff, Nat.reduceLT, Nat.zero_le, Int.reduceAdd, Int.reduceSub, Int.reduceMul, Int.reduceNeg, q_add_e, q_sub_e, q_mul_e, q_neg_e, q_upd_s, q_upd_n, zr_shr0, zr_shr1, zr_shr2, zr_shr3, zr_shr4, zr_and, zr_dyn8, zr_or, zr_shl, q_cpy_n, y_cpy26, c_X5_isSheet, sp_isSheet, h1, and_self, if_true, c_X2_isMissing, sp_isMissing, h2, if_false]
  · rw [if_pos h1]
    simp (disch := omega) only [b_X5_refusalOfTold_0, x_loadI_1, y_if_ne_t, y_if_ne_f, b_X5_refusalOfTold_7, x_iconst, x_ret0, b_X5_refusalOfTold_10, x_loadR_0, x_loadS_0, f_5_7, y_aald9, y_if_eq_t, y_if_eq_f, b_X5_refusalOfTold_22, b_X5_refusalOfTold_25, f_2_2, y_ic_le_t, y_ic_le_f, b_X5_refusalOfTold_39, x_goto, b_X5_refusalOfTold_44, b_X5_refusalOfTold_45, q_isL_I, q_isL_R, q_isL_S, true_and, and_true, and_self, List.length_nil, List.length_cons, Nat.zero_add, x_K, x_Kn, Int.reduceToNat, Nat.reduceAdd, Nat.reduceMul, Nat.reduceLeDiff, Nat.reduceLT, Nat.zero_le, Int.reduceAdd, Int.reduceSub, Int.reduceMul, Int.reduceNeg, q_add_e, q_sub_e, q_mul_e, q_neg_e, q_upd_s, q_upd_n, zr_shr0, zr_shr1, zr_shr2, zr_shr3, zr_shr4, zr_and, zr_dyn8, zr_or, zr_shl, q_cpy_n, y_cpy26, c_X5_isSheet, sp_isSheet, h1, if_false]
/-- the first of the numbers C that is otherwise than where stone p lies behind the years -/
def F_fo (V : Nat → (Nat → Int) → Int) (S : q_M) (p : Nat) (C : Nat → Int) : Nat → Nat → Int
  | 0, _ => -1
  | j + 1, i => if F_ys V S (i + 1) 2 p = C i then F_fo V S p C j (i + 1) else i
set_option maxHeartbeats 4000000 in
theorem sp_fo {V : Nat → (Nat → Int) → Int} {d : Nat} {g : q_G} {M : q_M} {ta s p n : Nat} {Q : Option q_V → q_G → q_M → Prop} (ht : ta = 8 ∨ 125 ≤ ta) (hs : s < 4) (hn : n ≤ 1000) (hsz : M (6 + (86 + 2 * s)) 2 = n) (hn40 : n ≤ 40) (hp6 : p < 6) (hp : p < (M (38 + 1) 5).toNat) (hw : q_wl V M 38 ta) (hz : ∀ p, p < 5 → M (38 + 1 + 3 + (1 + p)) 5 = 0) (hyr : M 38 9 + n ≤ 2000) (hq : ∀ M2 : q_M, q_th ta M M2 → Q (some (qI (F_fo V (cW M 38) p (M (6 + (86 + 2 * s) + 1)) n 0))) g M2) : q_S 1 (d + 5) 105 [qR 5 0, qI s, qI p] g M Q := by
  generalize hS : cW M 38 = S at hq
  have loop : ∀ j i : Nat, i + j = n → ∀ M1 : q_M, p < (M1 (38 + 1) 5).toNat → q_wl V M1 38 ta → cW M1 38 = F_ys V S i → (∀ p, p < 5 → M1 (38 + 1 + 3 + (1 + p)) 5 = 0) → M1 38 9 + j ≤ 2000 → q_th ta M M1 → (∀ M2 : q_M, q_th ta M M2 → Q (some (qI (F_fo V S p (M (6 + (86 + 2 * s) + 1)) j i))) g M2) → q_T 1 (d + 5) qP_X5_firstOtherwise 10 [] [qR 5 0, qI s, qI p, qR 2 (6 + (86 + 2 * s)), qI i] [] g M1 Q := by
    intro j
    induction j with
    | zero =>
      intro i hi M1 hp hw hc hz hyr hf hq
      have z1 : M1 (6 + (86 + 2 * s)) 2 = n := (hf _ 2 (by omega) (by omega)).trans hsz
      rw [F_fo] at hq
      rw [b_X5_firstOtherwise_10]
      simp (disch := omega) only [b_X5_firstOtherwise_0, x_loadR_0, x_loadS_0, f_5_7, x_loadI_1, y_aald9, x_storeR_3, x_iconst, x_storeI_4, x_loadI_4, x_loadR_3, x_loadS_3, f_2_2, y_ic_ge_t, y_ic_ge_f, b_X5_firstOtherwise_19, f_5_4, x_popI, x_popR, f_4_6, x_loadI_2, y_iald_26, y_iald_60, f_2_0, y_ic_eq_t, y_ic_eq_f, b_X5_firstOtherwise_46, x_ret0, b_X5_firstOtherwise_49, x_iinc_4, x_goto, b_X5_firstOtherwise_55, q_isL_I, q_isL_R, q_isL_S, true_and, and_true, and_self, List.length_nil, List.length_cons, Nat.zero_add, x_K, x_Kn, Int.reduceToNat, Nat.reduceAdd, Nat.reduceMul, Nat.reduceLeDiff, Nat.reduceLT, Nat.zero_le, Int.reduceAdd, Int.reduceSub, Int.reduceMul, Int.reduceNeg, q_add_e, q_sub_e, q_mul_e, q_neg_e, q_upd_s, q_upd_n, zr_shr0, zr_shr1, zr_shr2, zr_shr3, zr_shr4, zr_and, zr_dyn8, zr_or, zr_shl, q_cpy_n, y_cpy26]
      exact hq M1 hf
    | succ j ih =>
      intro i hi M1 hp hw hc hz hyr hf hq
      have z1 : M1 (6 + (86 + 2 * s)) 2 = n := (hf _ 2 (by omega) (by omega)).trans hsz
      have hds := hw.2.2.2.2.2
      rw [b_X5_firstOtherwise_10]
      simp (disch := omega) only [b_X5_firstOtherwise_0, x_loadR_0, x_loadS_0, f_5_7, x_loadI_1, y_aald9, x_storeR_3, x_iconst, x_storeI_4, x_loadI_4, x_loadR_3, x_loadS_3, f_2_2, y_ic_ge_t, y_ic_ge_f, b_X5_firstOtherwise_19, f_5_4, x_popI, x_popR, f_4_6, x_loadI_2, y_iald_26, y_iald_60, f_2_0, y_ic_eq_t, y_ic_eq_f, b_X5_firstOtherwise_46, x_ret0, b_X5_firstOtherwise_49, x_iinc_4, x_goto, b_X5_firstOtherwise_55, q_isL_I, q_isL_R, q_isL_S, true_and, and_true, and_self, List.length_nil, List.length_cons, Nat.zero_add, x_K, x_Kn, Int.reduceToNat, Nat.reduceAdd, Nat.reduceMul, Nat.reduceLeDiff, Nat.reduceLT, Nat.zero_le, Int.reduceAdd, Int.reduceSub, Int.reduceMul, Int.reduceNeg, q_add_e, q_sub_e, q_mul_e, q_neg_e, q_upd_s, q_upd_n, zr_shr0, zr_shr1, zr_shr2, zr_shr3, zr_shr4, zr_and, zr_dyn8, zr_or, zr_shl, q_cpy_n, y_cpy26, c_X4_passYear]
      refine sp_passYear hw hz (by omega) (fun M2 h1 h2 h3 => ?_)
      have hy2 := F_year_y h2
      have h4 := q_th_tr hf (q_th_yn h3)
      have e5 : M2 (38 + 1) 5 = M1 (38 + 1) 5 := h3 _ 5 (by omega) (by omega) (by omega) (by omega)
      have hc2 : cW M2 38 = F_ys V S (i + 1) := by rw [h2, hc]; rfl
      have ea : F_ys V S (i + 1) 2 p = M2 62 p := by rw [← hc2]; exact cW_2 (by rw [e5]; exact hp)
      have ec : M2 (6 + (86 + 2 * s) + 1) i = M (6 + (86 + 2 * s) + 1) i := h4 _ i (by omega) (by omega)
      rw [F_fo, ea, ← ec] at hq
      by_cases c : M2 62 p = M2 (6 + (86 + 2 * s) + 1) i
      · rw [if_pos c] at hq
        simp (disch := omega) only [b_X5_firstOtherwise_0, x_loadR_0, x_loadS_0, f_5_7, x_loadI_1, y_aald9, x_storeR_3, x_iconst, x_storeI_4, x_loadI_4, x_loadR_3, x_loadS_3, f_2_2, y_ic_ge_t, y_ic_ge_f, b_X5_firstOtherwise_19, f_5_4, x_popI, x_popR, f_4_6, x_loadI_2, y_iald_26, y_iald_60, f_2_0, y_ic_eq_t, y_ic_eq_f, b_X5_firstOtherwise_46, x_ret0, b_X5_firstOtherwise_49, x_iinc_4, x_goto, b_X5_firstOtherwise_55, q_isL_I, q_isL_R, q_isL_S, true_and, and_true, and_self, List.length_nil, List.length_cons, Nat.zero_add, x_K, x_Kn, Int.reduceToNat, Nat.reduceAdd, Nat.reduceMul, Nat.reduceLeDiff, Nat.reduceLT, Nat.zero_le, Int.reduceAdd, Int.reduceSub, Int.reduceMul, Int.reduceNeg, q_add_e, q_sub_e, q_mul_e, q_neg_e, q_upd_s, q_upd_n, zr_shr0, zr_shr1, zr_shr2, zr_shr3, zr_shr4, zr_and, zr_dyn8, zr_or, zr_shl, q_cpy_n, y_cpy26, Int.toNat_natCast]
        exact ih (i + 1) (by omega) M2 (by rw [e5]; exact hp) h1 hc2 (fun p hp => (h3 _ 5 (by omega) (by omega) (by omega) (by omega)).trans (hz p hp)) (by omega) h4 hq
      · rw [if_neg c] at hq
        simp (disch := omega) only [b_X5_firstOtherwise_0, x_loadR_0, x_loadS_0, f_5_7, x_loadI_1, y_aald9, x_storeR_3, x_iconst, x_storeI_4, x_loadI_4, x_loadR_3, x_loadS_3, f_2_2, y_ic_ge_t, y_ic_ge_f, b_X5_firstOtherwise_19, f_5_4, x_popI, x_popR, f_4_6, x_loadI_2, y_iald_26, y_iald_60, f_2_0, y_ic_eq_t, y_ic_eq_f, b_X5_firstOtherwise_46, x_ret0, b_X5_firstOtherwise_49, x_iinc_4, x_goto, b_X5_firstOtherwise_55, q_isL_I, q_isL_R, q_isL_S, true_and, and_true, and_self, List.length_nil, List.length_cons, Nat.zero_add, x_K, x_Kn, Int.reduceToNat, Nat.reduceAdd, Nat.reduceMul, Nat.reduceLeDiff, Nat.reduceLT, Nat.zero_le, Int.reduceAdd, Int.reduceSub, Int.reduceMul, Int.reduceNeg, q_add_e, q_sub_e, q_mul_e, q_neg_e, q_upd_s, q_upd_n, zr_shr0, zr_shr1, zr_shr2, zr_shr3, zr_shr4, zr_and, zr_dyn8, zr_or, zr_shl, q_cpy_n, y_cpy26, Int.toNat_natCast]
        exact hq M2 h4
  rw [s_X5_firstOtherwise]
  simp (disch := omega) only [b_X5_firstOtherwise_0, x_loadR_0, x_loadS_0, f_5_7, x_loadI_1, y_aald9, x_storeR_3, x_iconst, x_storeI_4, x_loadI_4, x_loadR_3, x_loadS_3, f_2_2, y_ic_ge_t, y_ic_ge_f, b_X5_firstOtherwise_19, f_5_4, x_popI, x_popR, f_4_6, x_loadI_2, y_iald_26, y_iald_60, f_2_0, y_ic_eq_t, y_ic_eq_f, b_X5_firstOtherwise_46, x_ret0, b_X5_firstOtherwise_49, x_iinc_4, x_goto, b_X5_firstOtherwise_55, q_isL_I, q_isL_R, q_isL_S, true_and, and_true, and_self, List.length_nil, List.length_cons, Nat.zero_add, x_K, x_Kn, Int.reduceToNat, Nat.reduceAdd, Nat.reduceMul, Nat.reduceLeDiff, Nat.reduceLT, Nat.zero_le, Int.reduceAdd, Int.reduceSub, Int.reduceMul, Int.reduceNeg, q_add_e, q_sub_e, q_mul_e, q_neg_e, q_upd_s, q_upd_n, zr_shr0, zr_shr1, zr_shr2, zr_shr3, zr_shr4, zr_and, zr_dyn8, zr_or, zr_shl, q_cpy_n, y_cpy26, Int.toNat_natCast]
  exact loop n 0 (by omega) M hp hw hS hz hyr q_th_rf hq
