/-! THE CLASS'S ENTRIES: lowest terms, share, weather -/
/-- the greatest below k + 2 that divides both; at least 1 -/
def F_com (a b : Int) : Nat → Int
  | 0 => 1
  | k + 1 => if a % (k + 2) = 0 ∧ b % (k + 2) = 0 then k + 2 else F_com a b k
theorem F_com_le (a b : Int) : ∀ k : Nat, 1 ≤ F_com a b k ∧ F_com a b k ≤ k + 1
  | 0 => by rw [F_com]; omega
  | k + 1 => by
    have h := F_com_le a b k
    rw [F_com]
    split <;> omega
def F_low (a b : Int) (part : Int) : Int := if b = 0 then -4611686018427387904 else (if part = 0 then a else b) / F_com a b (b - 1).toNat
set_option maxHeartbeats 4000000 in
theorem sp_low {d : Nat} {g : q_G} {M : q_M} {a b part : Int} {Q : Option q_V → q_G → q_M → Prop} (ha0 : 0 ≤ a) (ha : a ≤ 100000) (hb0 : 0 ≤ b) (hb : b ≤ 100000) (hq : Q (some (qL (F_low a b part))) g M) : q_S 1 d 108 [qI a, qI b, qI part] g M Q := by
  rw [s_X5_inLowestTerms]
  unfold F_low at hq
  by_cases c0 : b = 0
  · rw [if_pos c0] at hq
    simp (disch := omega) only [b_X5_inLowestTerms_0, x_loadI_1, y_if_ne_t, y_if_ne_f, b_X5_inLowestTerms_4, x_lconst, x_lret, b_X5_inLowestTerms_8, x_iconst, x_storeI_3, x_storeI_4, x_loadI_4, y_ic_gt_t, y_ic_gt_f, b_X5_inLowestTerms_19, x_loadI_0, y_irem, b_X5_inLowestTerms_26, b_X5_inLowestTerms_33, b_X5_inLowestTerms_36, x_iinc_4, x_goto, b_X5_inLowestTerms_42, x_loadI_2, b_X5_inLowestTerms_46, b_X5_inLowestTerms_50, b_X5_inLowestTerms_51, x_loadI_3, y_idiv, x_i2l, q_isL_I, q_isL_R, q_isL_S, true_and, and_true, and_self, List.length_nil, List.length_cons, Nat.zero_add, x_K, x_Kn, Int.reduceToNat, Nat.reduceAdd, Nat.reduceMul, Nat.reduceLeDiff, Nat.reduceLT, Nat.zero_le, Int.reduceAdd, Int.reduceSub, Int.reduceMul, Int.reduceNeg, q_add_e, q_sub_e, q_mul_e, q_neg_e, q_upd_s, q_upd_n, zr_shr0, zr_shr1, zr_shr2, zr_shr3, zr_shr4, zr_and, zr_dyn8, zr_or, zr_shl, q_cpy_n, y_cpy26]
    exact hq
  · rw [if_neg c0] at hq
    have loop : ∀ j k : Nat, (k : Int) + j = b - 1 → q_T 1 d qP_X5_inLowestTerms 13 [] [qI a, qI b, qI part, qI (F_com a b k), qI ((k : Int) + 2)] [] g M Q := by
      intro j
      induction j with
      | zero =>
        intro k hk
        have hc := F_com_le a b k
        have e : (b - 1).toNat = k := by omega
        rw [e] at hq
        rw [b_X5_inLowestTerms_13]
        by_cases c1 : part = 0
        · rw [if_pos c1] at hq
          have a1 : 0 ≤ a / F_com a b k := Int.ediv_nonneg ha0 (by omega)
          have a2 : a / F_com a b k ≤ a := Int.ediv_le_self _ ha0
          simp (disch := omega) only [b_X5_inLowestTerms_0, x_loadI_1, y_if_ne_t, y_if_ne_f, b_X5_inLowestTerms_4, x_lconst, x_lret, b_X5_inLowestTerms_8, x_iconst, x_storeI_3, x_storeI_4, x_loadI_4, y_ic_gt_t, y_ic_gt_f, b_X5_inLowestTerms_19, x_loadI_0, y_irem, b_X5_inLowestTerms_26, b_X5_inLowestTerms_33, b_X5_inLowestTerms_36, x_iinc_4, x_goto, b_X5_inLowestTerms_42, x_loadI_2, b_X5_inLowestTerms_46, b_X5_inLowestTerms_50, b_X5_inLowestTerms_51, x_loadI_3, y_idiv, x_i2l, q_isL_I, q_isL_R, q_isL_S, true_and, and_true, and_self, List.length_nil, List.length_cons, Nat.zero_add, x_K, x_Kn, Int.reduceToNat, Nat.reduceAdd, Nat.reduceMul, Nat.reduceLeDiff, Nat.reduceLT, Nat.zero_le, Int.reduceAdd, Int.reduceSub, Int.reduceMul, Int.reduceNeg, q_add_e, q_sub_e, q_mul_e, q_neg_e, q_upd_s, q_upd_n, zr_shr0, zr_shr1, zr_shr2, zr_shr3, zr_shr4, zr_and, zr_dyn8, zr_or, zr_shl, q_cpy_n, y_cpy26, q_div_e, q_i2l_e]
          exact hq
        · rw [if_neg c1] at hq
          have a1 : 0 ≤ b / F_com a b k := Int.ediv_nonneg hb0 (by omega)
          have a2 : b / F_com a b k ≤ b := Int.ediv_le_self _ hb0
          simp (disch := omega) only [b_X5_inLowestTerms_0, x_loadI_1, y_if_ne_t, y_if_ne_f, b_X5_inLowestTerms_4, x_lconst, x_lret, b_X5_inLowestTerms_8, x_iconst, x_storeI_3, x_storeI_4, x_loadI_4, y_ic_gt_t, y_ic_gt_f, b_X5_inLowestTerms_19, x_loadI_0, y_irem, b_X5_inLowestTerms_26, b_X5_inLowestTerms_33, b_X5_inLowestTerms_36, x_iinc_4, x_goto, b_X5_inLowestTerms_42, x_loadI_2, b_X5_inLowestTerms_46, b_X5_inLowestTerms_50, b_X5_inLowestTerms_51, x_loadI_3, y_idiv, x_i2l, q_isL_I, q_isL_R, q_isL_S, true_and, and_true, and_self, List.length_nil, List.length_cons, Nat.zero_add, x_K, x_Kn, Int.reduceToNat, Nat.reduceAdd, Nat.reduceMul, Nat.reduceLeDiff, Nat.reduceLT, Nat.zero_le, Int.reduceAdd, Int.reduceSub, Int.reduceMul, Int.reduceNeg, q_add_e, q_sub_e, q_mul_e, q_neg_e, q_upd_s, q_upd_n, zr_shr0, zr_shr1, zr_shr2, zr_shr3, zr_shr4, zr_and, zr_dyn8, zr_or, zr_shl, q_cpy_n, y_cpy26, q_div_e, q_i2l_e]
          exact hq
      | succ j ih =>
        intro k hk
        have ih2 := ih (k + 1) (by omega)
        have e3 : ((k + 1 : Nat) : Int) + 2 = (k : Int) + 2 + 1 := by omega
        rw [F_com, e3] at ih2
        have ra := q_rem_e (x := a) (y := (k : Int) + 2) ha0 (by omega) (by omega) (by omega)
        have rb := q_rem_e (x := b) (y := (k : Int) + 2) hb0 (by omega) (by omega) (by omega)
        rw [b_X5_inLowestTerms_13]
        by_cases c1 : a % ((k : Int) + 2) = 0
        · by_cases c2 : b % ((k : Int) + 2) = 0
          · rw [if_pos ⟨c1, c2⟩] at ih2
            simp (disch := omega) only [b_X5_inLowestTerms_0, x_loadI_1, y_if_ne_t, y_if_ne_f, b_X5_inLowestTerms_4, x_lconst, x_lret, b_X5_inLowestTerms_8, x_iconst, x_storeI_3, x_storeI_4, x_loadI_4, y_ic_gt_t, y_ic_gt_f, b_X5_inLowestTerms_19, x_loadI_0, y_irem, b_X5_inLowestTerms_26, b_X5_inLowestTerms_33, b_X5_inLowestTerms_36, x_iinc_4, x_goto, b_X5_inLowestTerms_42, x_loadI_2, b_X5_inLowestTerms_46, b_X5_inLowestTerms_50, b_X5_inLowestTerms_51, x_loadI_3, y_idiv, x_i2l, q_isL_I, q_isL_R, q_isL_S, true_and, and_true, and_self, List.length_nil, List.length_cons, Nat.zero_add, x_K, x_Kn, Int.reduceToNat, Nat.reduceAdd, Nat.reduceMul, Nat.reduceLeDiff, Nat.reduceLT, Nat.zero_le, Int.reduceAdd, Int.reduceSub, Int.reduceMul, Int.reduceNeg, q_add_e, q_sub_e, q_mul_e, q_neg_e, q_upd_s, q_upd_n, zr_shr0, zr_shr1, zr_shr2, zr_shr3, zr_shr4, zr_and, zr_dyn8, zr_or, zr_shl, q_cpy_n, y_cpy26, ra, rb, c1, c2]
            exact ih2
          · rw [if_neg (fun z => c2 z.2)] at ih2
            generalize b % ((k : Int) + 2) = B at rb c2
            simp (disch := omega) only [b_X5_inLowestTerms_0, x_loadI_1, y_if_ne_t, y_if_ne_f, b_X5_inLowestTerms_4, x_lconst, x_lret, b_X5_inLowestTerms_8, x_iconst, x_storeI_3, x_storeI_4, x_loadI_4, y_ic_gt_t, y_ic_gt_f, b_X5_inLowestTerms_19, x_loadI_0, y_irem, b_X5_inLowestTerms_26, b_X5_inLowestTerms_33, b_X5_inLowestTerms_36, x_iinc_4, x_goto, b_X5_inLowestTerms_42, x_loadI_2, b_X5_inLowestTerms_46, b_X5_inLowestTerms_50, b_X5_inLowestTerms_51, x_loadI_3, y_idiv, x_i2l, q_isL_I, q_isL_R, q_isL_S, true_and, and_true, and_self, List.length_nil, List.length_cons, Nat.zero_add, x_K, x_Kn, Int.reduceToNat, Nat.reduceAdd, Nat.reduceMul, Nat.reduceLeDiff, Nat.reduceLT, Nat.zero_le, Int.reduceAdd, Int.reduceSub, Int.reduceMul, Int.reduceNeg, q_add_e, q_sub_e, q_mul_e, q_neg_e, q_upd_s, q_upd_n, zr_shr0, zr_shr1, zr_shr2, zr_shr3, zr_shr4, zr_and, zr_dyn8, zr_or, zr_shl, q_cpy_n, y_cpy26, ra, rb, c1]
            exact ih2
        · rw [if_neg (fun z => c1 z.1)] at ih2
          generalize a % ((k : Int) + 2) = A at ra c1
          simp (disch := omega) only [b_X5_inLowestTerms_0, x_loadI_1, y_if_ne_t, y_if_ne_f, b_X5_inLowestTerms_4, x_lconst, x_lret, b_X5_inLowestTerms_8, x_iconst, x_storeI_3, x_storeI_4, x_loadI_4, y_ic_gt_t, y_ic_gt_f, b_X5_inLowestTerms_19, x_loadI_0, y_irem, b_X5_inLowestTerms_26, b_X5_inLowestTerms_33, b_X5_inLowestTerms_36, x_iinc_4, x_goto, b_X5_inLowestTerms_42, x_loadI_2, b_X5_inLowestTerms_46, b_X5_inLowestTerms_50, b_X5_inLowestTerms_51, x_loadI_3, y_idiv, x_i2l, q_isL_I, q_isL_R, q_isL_S, true_and, and_true, and_self, List.length_nil, List.length_cons, Nat.zero_add, x_K, x_Kn, Int.reduceToNat, Nat.reduceAdd, Nat.reduceMul, Nat.reduceLeDiff, Nat.reduceLT, Nat.zero_le, Int.reduceAdd, Int.reduceSub, Int.reduceMul, Int.reduceNeg, q_add_e, q_sub_e, q_mul_e, q_neg_e, q_upd_s, q_upd_n, zr_shr0, zr_shr1, zr_shr2, zr_shr3, zr_shr4, zr_and, zr_dyn8, zr_or, zr_shl, q_cpy_n, y_cpy26, ra]
          exact ih2
    simp (disch := omega) only [b_X5_inLowestTerms_0, x_loadI_1, y_if_ne_t, y_if_ne_f, b_X5_inLowestTerms_4, x_lconst, x_lret, b_X5_inLowestTerms_8, x_iconst, x_storeI_3, x_storeI_4, x_loadI_4, y_ic_gt_t, y_ic_gt_f, b_X5_inLowestTerms_19, x_loadI_0, y_irem, b_X5_inLowestTerms_26, b_X5_inLowestTerms_33, b_X5_inLowestTerms_36, x_iinc_4, x_goto, b_X5_inLowestTerms_42, x_loadI_2, b_X5_inLowestTerms_46, b_X5_inLowestTerms_50, b_X5_inLowestTerms_51, x_loadI_3, y_idiv, x_i2l, q_isL_I, q_isL_R, q_isL_S, true_and, and_true, and_self, List.length_nil, List.length_cons, Nat.zero_add, x_K, x_Kn, Int.reduceToNat, Nat.reduceAdd, Nat.reduceMul, Nat.reduceLeDiff, Nat.reduceLT, Nat.zero_le, Int.reduceAdd, Int.reduceSub, Int.reduceMul, Int.reduceNeg, q_add_e, q_sub_e, q_mul_e, q_neg_e, q_upd_s, q_upd_n, zr_shr0, zr_shr1, zr_shr2, zr_shr3, zr_shr4, zr_and, zr_dyn8, zr_or, zr_shl, q_cpy_n, y_cpy26]
    exact loop (b - 1).toNat 0 (by omega)
/-- the weights of stones, of those in buildings -/
def F_wt (W f : Nat → Int) : Nat → Int × Int
  | 0 => (0, 0)
  | n + 1 => ((F_wt W f n).1 + (if f n = 5 then 0 else W n), (F_wt W f n).2 + W n)
theorem F_wt_le {W f : Nat → Int} (h : ∀ i, 0 ≤ W i ∧ W i ≤ 99) : ∀ n : Nat, 0 ≤ (F_wt W f n).1 ∧ (F_wt W f n).1 ≤ 99 * n ∧ 0 ≤ (F_wt W f n).2 ∧ (F_wt W f n).2 ≤ 99 * n
  | 0 => by rw [F_wt]; omega
  | n + 1 => by
    have h1 := F_wt_le (f := f) h n
    have h2 := h n
    rw [F_wt]
    refine ⟨?_, ?_, ?_, ?_⟩ <;> (try split) <;> omega
def A_share (M : q_M) (part : Int) : Int := if part < 0 ∨ 1 < part then -4611686018427387904 else F_low (F_wt (M 36) (M 14) (M 12 5).toNat).1 (F_wt (M 36) (M 14) (M 12 5).toNat).2 part
set_option maxHeartbeats 4000000 in
theorem sp_share {V : Nat → (Nat → Int) → Int} {d : Nat} {g : q_G} {M : q_M} {ta : Nat} {part : Int} {Q : Option q_V → q_G → q_M → Prop} (hw : q_wl V M 11 ta) (hq : Q (some (qL (A_share M part))) g M) : q_S 1 (d + 1) 82 [qR 5 0, qI part] g M Q := by
  have n0 : 0 ≤ M 12 5 := hw.1.1.1
  have n5 : M 12 5 ≤ 5 := hw.1.1.2
  have hW : ∀ i, 0 ≤ M 36 i ∧ M 36 i ≤ 99 := hw.1.2.2.2.2.2.1
  rw [s_X5_share]
  unfold A_share at hq
  by_cases c1 : part < 0 ∨ 1 < part
  · rw [if_pos c1] at hq
    rcases c1 with e | e
    · simp (disch := omega) only [b_X5_share_0, x_loadI_1, y_if_lt_t, y_if_lt_f, b_X5_share_4, x_iconst, y_ic_le_t, y_ic_le_f, b_X5_share_9, x_lconst, x_lret, b_X5_share_13, x_storeI_2, x_storeI_3, x_storeI_4, x_loadI_4, x_loadR_0, x_loadS_0, f_5_3, f_4_0, f_0_5, y_ic_ge_t, y_ic_ge_f, b_X5_share_35, x_loadI_3, f_4_7, y_iald_26, x_iadd, x_loadI_2, f_0_1, y_ic_ne_t, y_ic_ne_f, b_X5_share_66, x_goto, b_X5_share_70, b_X5_share_80, x_iinc_4, b_X5_share_88, q_isL_I, q_isL_R, q_isL_S, true_and, and_true, and_self, List.length_nil, List.length_cons, Nat.zero_add, x_K, x_Kn, Int.reduceToNat, Nat.reduceAdd, Nat.reduceMul, Nat.reduceLeDiff, Nat.reduceLT, Nat.zero_le, Int.reduceAdd, Int.reduceSub, Int.reduceMul, Int.reduceNeg, q_add_e, q_sub_e, q_mul_e, q_neg_e, q_upd_s, q_upd_n, zr_shr0, zr_shr1, zr_shr2, zr_shr3, zr_shr4, zr_and, zr_dyn8, zr_or, zr_shl, q_cpy_n, y_cpy26]
      exact hq
    · simp (disch := omega) only [b_X5_share_0, x_loadI_1, y_if_lt_t, y_if_lt_f, b_X5_share_4, x_iconst, y_ic_le_t, y_ic_le_f, b_X5_share_9, x_lconst, x_lret, b_X5_share_13, x_storeI_2, x_storeI_3, x_storeI_4, x_loadI_4, x_loadR_0, x_loadS_0, f_5_3, f_4_0, f_0_5, y_ic_ge_t, y_ic_ge_f, b_X5_share_35, x_loadI_3, f_4_7, y_iald_26, x_iadd, x_loadI_2, f_0_1, y_ic_ne_t, y_ic_ne_f, b_X5_share_66, x_goto, b_X5_share_70, b_X5_share_80, x_iinc_4, b_X5_share_88, q_isL_I, q_isL_R, q_isL_S, true_and, and_true, and_self, List.length_nil, List.length_cons, Nat.zero_add, x_K, x_Kn, Int.reduceToNat, Nat.reduceAdd, Nat.reduceMul, Nat.reduceLeDiff, Nat.reduceLT, Nat.zero_le, Int.reduceAdd, Int.reduceSub, Int.reduceMul, Int.reduceNeg, q_add_e, q_sub_e, q_mul_e, q_neg_e, q_upd_s, q_upd_n, zr_shr0, zr_shr1, zr_shr2, zr_shr3, zr_shr4, zr_and, zr_dyn8, zr_or, zr_shl, q_cpy_n, y_cpy26]
      exact hq
  · rw [if_neg c1] at hq
    have loop : ∀ j k : Nat, k + j = (M 12 5).toNat → q_T 1 (d + 1) qP_X5_share 20 [] [qR 5 0, qI part, qI (F_wt (M 36) (M 14) k).1, qI (F_wt (M 36) (M 14) k).2, qI k] [] g M Q := by
      intro j
      induction j with
      | zero =>
        intro k hk
        have hb := F_wt_le (f := M 14) hW k
        have e : k = (M 12 5).toNat := by omega
        rw [← e] at hq
        rw [b_X5_share_20]
        have low : ∀ (nx : Nat) (ops : List Instr) (ls st : List q_V), q_T 1 (d + 1) qP_X5_share nx ops ls (qL (F_low (F_wt (M 36) (M 14) k).1 (F_wt (M 36) (M 14) k).2 part) :: st) g M Q → q_S 1 d 108 [qI (F_wt (M 36) (M 14) k).1, qI (F_wt (M 36) (M 14) k).2, qI part] g M (q_K 1 (d + 1) qP_X5_share nx ops ls st Q) := fun nx ops ls st h => sp_low (by omega) (by omega) (by omega) (by omega) h
        simp (disch := omega) only [b_X5_share_0, x_loadI_1, y_if_lt_t, y_if_lt_f, b_X5_share_4, x_iconst, y_ic_le_t, y_ic_le_f, b_X5_share_9, x_lconst, x_lret, b_X5_share_13, x_storeI_2, x_storeI_3, x_storeI_4, x_loadI_4, x_loadR_0, x_loadS_0, f_5_3, f_4_0, f_0_5, y_ic_ge_t, y_ic_ge_f, b_X5_share_35, x_loadI_3, f_4_7, y_iald_26, x_iadd, x_loadI_2, f_0_1, y_ic_ne_t, y_ic_ne_f, b_X5_share_66, x_goto, b_X5_share_70, b_X5_share_80, x_iinc_4, b_X5_share_88, q_isL_I, q_isL_R, q_isL_S, true_and, and_true, and_self, List.length_nil, List.length_cons, Nat.zero_add, x_K, x_Kn, Int.reduceToNat, Nat.reduceAdd, Nat.reduceMul, Nat.reduceLeDiff, Nat.reduceLT, Nat.zero_le, Int.reduceAdd, Int.reduceSub, Int.reduceMul, Int.reduceNeg, q_add_e, q_sub_e, q_mul_e, q_neg_e, q_upd_s, q_upd_n, zr_shr0, zr_shr1, zr_shr2, zr_shr3, zr_shr4, zr_and, zr_dyn8, zr_or, zr_shl, q_cpy_n, y_cpy26, c_X5_inLowestTerms]
        refine low _ _ _ _ ?_
        simp (disch := omega) only [b_X5_share_0, x_loadI_1, y_if_lt_t, y_if_lt_f, b_X5_share_4, x_iconst, y_ic_le_t, y_ic_le_f, b_X5_share_9, x_lconst, x_lret, b_X5_share_13, x_storeI_2, x_storeI_3, x_storeI_4, x_loadI_4, x_loadR_0, x_loadS_0, f_5_3, f_4_0, f_0_5, y_ic_ge_t, y_ic_ge_f, b_X5_share_35, x_loadI_3, f_4_7, y_iald_26, x_iadd, x_loadI_2, f_0_1, y_ic_ne_t, y_ic_ne_f, b_X5_share_66, x_goto, b_X5_share_70, b_X5_share_80, x_iinc_4, b_X5_share_88, q_isL_I, q_isL_R, q_isL_S, true_and, and_true, and_self, List.length_nil, List.length_cons, Nat.zero_add, x_K, x_Kn, Int.reduceToNat, Nat.reduceAdd, Nat.reduceMul, Nat.reduceLeDiff, Nat.reduceLT, Nat.zero_le, Int.reduceAdd, Int.reduceSub, Int.reduceMul, Int.reduceNeg, q_add_e, q_sub_e, q_mul_e, q_neg_e, q_upd_s, q_upd_n, zr_shr0, zr_shr1, zr_shr2, zr_shr3, zr_shr4, zr_and, zr_dyn8, zr_or, zr_shl, q_cpy_n, y_cpy26]
        exact hq
      | succ j ih =>
        intro k hk
        have hb := F_wt_le (f := M 14) hW k
        have hWk := hW k
        have ih2 := ih (k + 1) (by omega)
        rw [F_wt] at ih2
        rw [b_X5_share_20]
        by_cases c2 : M 14 k = 5
        · rw [if_pos c2] at ih2
          simp (disch := omega) only [b_X5_share_0, x_loadI_1, y_if_lt_t, y_if_lt_f, b_X5_share_4, x_iconst, y_ic_le_t, y_ic_le_f, b_X5_share_9, x_lconst, x_lret, b_X5_share_13, x_storeI_2, x_storeI_3, x_storeI_4, x_loadI_4, x_loadR_0, x_loadS_0, f_5_3, f_4_0, f_0_5, y_ic_ge_t, y_ic_ge_f, b_X5_share_35, x_loadI_3, f_4_7, y_iald_26, x_iadd, x_loadI_2, f_0_1, y_ic_ne_t, y_ic_ne_f, b_X5_share_66, x_goto, b_X5_share_70, b_X5_share_80, x_iinc_4, b_X5_share_88, q_isL_I, q_isL_R, q_isL_S, true_and, and_true, and_self, List.length_nil, List.length_cons, Nat.zero_add, x_K, x_Kn, Int.reduceToNat, Nat.reduceAdd, Nat.reduceMul, Nat.reduceLeDiff, Nat.reduceLT, Nat.zero_le, Int.reduceAdd, Int.reduceSub, Int.reduceMul, Int.reduceNeg, q_add_e, q_sub_e, q_mul_e, q_neg_e, q_upd_s, q_upd_n, zr_shr0, zr_shr1, zr_shr2, zr_shr3, zr_shr4, zr_and, zr_dyn8, zr_or, zr_shl, q_cpy_n, y_cpy26, Int.toNat_natCast, c2]
          exact ih2
        · rw [if_neg c2] at ih2
          simp (disch := omega) only [b_X5_share_0, x_loadI_1, y_if_lt_t, y_if_lt_f, b_X5_share_4, x_iconst, y_ic_le_t, y_ic_le_f, b_X5_share_9, x_lconst, x_lret, b_X5_share_13, x_storeI_2, x_storeI_3, x_storeI_4, x_loadI_4, x_loadR_0, x_loadS_0, f_5_3, f_4_0, f_0_5, y_ic_ge_t, y_ic_ge_f, b_X5_share_35, x_loadI_3, f_4_7, y_iald_26, x_iadd, x_loadI_2, f_0_1, y_ic_ne_t, y_ic_ne_f, b_X5_share_66, x_goto, b_X5_share_70, b_X5_share_80, x_iinc_4, b_X5_share_88, q_isL_I, q_isL_R, q_isL_S, true_and, and_true, and_self, List.length_nil, List.length_cons, Nat.zero_add, x_K, x_Kn, Int.reduceToNat, Nat.reduceAdd, Nat.reduceMul, Nat.reduceLeDiff, Nat.reduceLT, Nat.zero_le, Int.reduceAdd, Int.reduceSub, Int.reduceMul, Int.reduceNeg, q_add_e, q_sub_e, q_mul_e, q_neg_e, q_upd_s, q_upd_n, zr_shr0, zr_shr1, zr_shr2, zr_shr3, zr_shr4, zr_and, zr_dyn8, zr_or, zr_shl, q_cpy_n, y_cpy26, Int.toNat_natCast]
          exact ih2
    simp (disch := omega) only [b_X5_share_0, x_loadI_1, y_if_lt_t, y_if_lt_f, b_X5_share_4, x_iconst, y_ic_le_t, y_ic_le_f, b_X5_share_9, x_lconst, x_lret, b_X5_share_13, x_storeI_2, x_storeI_3, x_storeI_4, x_loadI_4, x_loadR_0, x_loadS_0, f_5_3, f_4_0, f_0_5, y_ic_ge_t, y_ic_ge_f, b_X5_share_35, x_loadI_3, f_4_7, y_iald_26, x_iadd, x_loadI_2, f_0_1, y_ic_ne_t, y_ic_ne_f, b_X5_share_66, x_goto, b_X5_share_70, b_X5_share_80, x_iinc_4, b_X5_share_88, q_isL_I, q_isL_R, q_isL_S, true_and, and_true, and_self, List.length_nil, List.length_cons, Nat.zero_add, x_K, x_Kn, Int.reduceToNat, Nat.reduceAdd, Nat.reduceMul, Nat.reduceLeDiff, Nat.reduceLT, Nat.zero_le, Int.reduceAdd, Int.reduceSub, Int.reduceMul, Int.reduceNeg, q_add_e, q_sub_e, q_mul_e, q_neg_e, q_upd_s, q_upd_n, zr_shr0, zr_shr1, zr_shr2, zr_shr3, zr_shr4, zr_and, zr_dyn8, zr_or, zr_shl, q_cpy_n, y_cpy26]
    exact loop (M 12 5).toNat 0 (by omega)
