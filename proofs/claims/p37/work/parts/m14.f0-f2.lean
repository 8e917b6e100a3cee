section
/-! THE MODEL'S READER: words, tokens -/
/-- what reading one token changes -/
def q_nxf (M M2 : q_M) : Prop := ∀ a i, (a = 100 → i ≠ 19 ∧ i ≠ 20 ∧ i ≠ 21 ∧ i ≠ 22) → M2 a i = M a i
theorem q_nxf_up {M M2 : q_M} {i : Nat} {v : Int} (h : q_nxf M M2) (hi : i = 19 ∨ i = 20 ∨ i = 21 ∨ i = 22) : q_nxf M (q_upd M2 100 i v) := fun b j hb => (q_upd_n (by omega)).trans (h b j hb)
end
section
/-! THE MODEL'S LAW: says, two -/
def q_bi (v : Int) : Prop := v = 11 ∨ v = 12 ∨ (14 ≤ v ∧ v ≤ 18)
def q_una (v : Int) : Prop := v = 13 ∨ v = 19
def q_pu (v : Int) : Prop := (0 ≤ v ∧ v < 6) ∨ (100000 ≤ v ∧ v ≤ 110000)
def B_two (op x y : Int) : Int := if op = 11 then (if x = 0 ∧ y = 0 then 0 else 1) else if op = 12 then (if x = 0 ∨ y = 0 then 0 else 1) else if op = 14 then (if x < y then 1 else 0) else if op = 15 then (if x = y then 1 else 0) else if op = 16 then q_add x y else if op = 17 then q_sub x y else q_mul x y
set_option maxHeartbeats 4000000 in
theorem mp_two {d : Nat} {g : q_G} {M : q_M} {op x y : Int} {Q : Option q_V → q_G → q_M → Prop} (hop : q_bi op) (hq : Q (some (qI (B_two op x y))) g M) : q_S 1 d 134 [qI op, qI x, qI y] g M Q := by
  rw [s_X6_two]
  unfold B_two at hq
  have hs : op = 11 ∨ op = 12 ∨ op = 14 ∨ op = 15 ∨ op = 16 ∨ op = 17 ∨ op = 18 := by unfold q_bi at hop; omega
  rcases hs with e | e | e | e | e | e | e <;> subst e

  · simp (disch := omega) only [b_X6_two_0, x_loadI_0]
    rw [x_tsw]
    show q_T 1 d qP_X6_two 44 [] _ _ _ _ _
    rw [if_pos rfl] at hq
    by_cases c1 : x = 0
    · by_cases c2 : y = 0
      · rw [if_pos ⟨c1, c2⟩] at hq
        simp (disch := omega) only [b_X6_two_0, x_loadI_0, tw_9_11, tw_9_12, tw_9_13, tw_9_14, tw_9_15, tw_9_16, tw_9_17, tw_9_o, b_X6_two_44, x_loadI_1, y_if_ne_t, y_if_ne_f, b_X6_two_48, x_loadI_2, y_if_eq_t, y_if_eq_f, b_X6_two_52, x_iconst, x_goto, b_X6_two_56, b_X6_two_57, x_ret0, b_X6_two_58, b_X6_two_62, b_X6_two_66, b_X6_two_70, b_X6_two_71, b_X6_two_72, y_ic_ge_t, y_ic_ge_f, b_X6_two_77, b_X6_two_81, b_X6_two_82, b_X6_two_83, y_ic_ne_t, y_ic_ne_f, b_X6_two_88, b_X6_two_92, b_X6_two_93, b_X6_two_94, x_iadd, b_X6_two_98, x_isub, b_X6_two_102, x_imul, q_isL_I, q_isL_R, q_isL_S, true_and, and_true, and_self, List.length_nil, List.length_cons, Nat.zero_add, x_K, x_Kn, Int.reduceToNat, Nat.reduceAdd, Nat.reduceMul, Nat.reduceLeDiff, Nat.reduceLT, Nat.zero_le, Int.reduceAdd, Int.reduceSub, Int.reduceMul, Int.reduceNeg, q_add_e, q_sub_e, q_mul_e, q_neg_e, q_upd_s, q_upd_n, zr_shr0, zr_shr1, zr_shr2, zr_shr3, zr_shr4, zr_and, zr_dyn8, zr_or, zr_shl, q_cpy_n, y_cpy26]
        exact hq
      · rw [if_neg (fun z => c2 z.2)] at hq
        simp (disch := omega) only [b_X6_two_0, x_loadI_0, tw_9_11, tw_9_12, tw_9_13, tw_9_14, tw_9_15, tw_9_16, tw_9_17, tw_9_o, b_X6_two_44, x_loadI_1, y_if_ne_t, y_if_ne_f, b_X6_two_48, x_loadI_2, y_if_eq_t, y_if_eq_f, b_X6_two_52, x_iconst, x_goto, b_X6_two_56, b_X6_two_57, x_ret0, b_X6_two_58, b_X6_two_62, b_X6_two_66, b_X6_two_70, b_X6_two_71, b_X6_two_72, y_ic_ge_t, y_ic_ge_f, b_X6_two_77, b_X6_two_81, b_X6_two_82, b_X6_two_83, y_ic_ne_t, y_ic_ne_f, b_X6_two_88, b_X6_two_92, b_X6_two_93, b_X6_two_94, x_iadd, b_X6_two_98, x_isub, b_X6_two_102, x_imul, q_isL_I, q_isL_R, q_isL_S, true_and, and_true, and_self, List.length_nil, List.length_cons, Nat.zero_add, x_K, x_Kn, Int.reduceToNat, Nat.reduceAdd, Nat.reduceMul, Nat.reduceLeDiff, Nat.reduceLT, Nat.zero_le, Int.reduceAdd, Int.reduceSub, Int.reduceMul, Int.reduceNeg, q_add_e, q_sub_e, q_mul_e, q_neg_e, q_upd_s, q_upd_n, zr_shr0, zr_shr1, zr_shr2, zr_shr3, zr_shr4, zr_and, zr_dyn8, zr_or, zr_shl, q_cpy_n, y_cpy26]
        exact hq
    · rw [if_neg (fun z => c1 z.1)] at hq
      simp (disch := omega) only [b_X6_two_0, x_loadI_0, tw_9_11, tw_9_12, tw_9_13, tw_9_14, tw_9_15, tw_9_16, tw_9_17, tw_9_o, b_X6_two_44, x_loadI_1, y_if_ne_t, y_if_ne_f, b_X6_two_48, x_loadI_2, y_if_eq_t, y_if_eq_f, b_X6_two_52, x_iconst, x_goto, b_X6_two_56, b_X6_two_57, x_ret0, b_X6_two_58, b_X6_two_62, b_X6_two_66, b_X6_two_70, b_X6_two_71, b_X6_two_72, y_ic_ge_t, y_ic_ge_f, b_X6_two_77, b_X6_two_81, b_X6_two_82, b_X6_two_83, y_ic_ne_t, y_ic_ne_f, b_X6_two_88, b_X6_two_92, b_X6_two_93, b_X6_two_94, x_iadd, b_X6_two_98, x_isub, b_X6_two_102, x_imul, q_isL_I, q_isL_R, q_isL_S, true_and, and_true, and_self, List.length_nil, List.length_cons, Nat.zero_add, x_K, x_Kn, Int.reduceToNat, Nat.reduceAdd, Nat.reduceMul, Nat.reduceLeDiff, Nat.reduceLT, Nat.zero_le, Int.reduceAdd, Int.reduceSub, Int.reduceMul, Int.reduceNeg, q_add_e, q_sub_e, q_mul_e, q_neg_e, q_upd_s, q_upd_n, zr_shr0, zr_shr1, zr_shr2, zr_shr3, zr_shr4, zr_and, zr_dyn8, zr_or, zr_shl, q_cpy_n, y_cpy26]
      exact hq
  · simp (disch := omega) only [b_X6_two_0, x_loadI_0]
    rw [x_tsw]
    show q_T 1 d qP_X6_two 58 [] _ _ _ _ _
    rw [if_neg (by omega), if_pos rfl] at hq
    by_cases c1 : x = 0
    · rw [if_pos (Or.inl c1)] at hq
      simp (disch := omega) only [b_X6_two_0, x_loadI_0, tw_9_11, tw_9_12, tw_9_13, tw_9_14, tw_9_15, tw_9_16, tw_9_17, tw_9_o, b_X6_two_44, x_loadI_1, y_if_ne_t, y_if_ne_f, b_X6_two_48, x_loadI_2, y_if_eq_t, y_if_eq_f, b_X6_two_52, x_iconst, x_goto, b_X6_two_56, b_X6_two_57, x_ret0, b_X6_two_58, b_X6_two_62, b_X6_two_66, b_X6_two_70, b_X6_two_71, b_X6_two_72, y_ic_ge_t, y_ic_ge_f, b_X6_two_77, b_X6_two_81, b_X6_two_82, b_X6_two_83, y_ic_ne_t, y_ic_ne_f, b_X6_two_88, b_X6_two_92, b_X6_two_93, b_X6_two_94, x_iadd, b_X6_two_98, x_isub, b_X6_two_102, x_imul, q_isL_I, q_isL_R, q_isL_S, true_and, and_true, and_self, List.length_nil, List.length_cons, Nat.zero_add, x_K, x_Kn, Int.reduceToNat, Nat.reduceAdd, Nat.reduceMul, Nat.reduceLeDiff, Nat.reduceLT, Nat.zero_le, Int.reduceAdd, Int.reduceSub, Int.reduceMul, Int.reduceNeg, q_add_e, q_sub_e, q_mul_e, q_neg_e, q_upd_s, q_upd_n, zr_shr0, zr_shr1, zr_shr2, zr_shr3, zr_shr4, zr_and, zr_dyn8, zr_or, zr_shl, q_cpy_n, y_cpy26]
      exact hq
    · by_cases c2 : y = 0
      · rw [if_pos (Or.inr c2)] at hq
        simp (disch := omega) only [b_X6_two_0, x_loadI_0, tw_9_11, tw_9_12, tw_9_13, tw_9_14, tw_9_15, tw_9_16, tw_9_17, tw_9_o, b_X6_two_44, x_loadI_1, y_if_ne_t, y_if_ne_f, b_X6_two_48, x_loadI_2, y_if_eq_t, y_if_eq_f, b_X6_two_52, x_iconst, x_goto, b_X6_two_56, b_X6_two_57, x_ret0, b_X6_two_58, b_X6_two_62, b_X6_two_66, b_X6_two_70, b_X6_two_71, b_X6_two_72, y_ic_ge_t, y_ic_ge_f, b_X6_two_77, b_X6_two_81, b_X6_two_82, b_X6_two_83, y_ic_ne_t, y_ic_ne_f, b_X6_two_88, b_X6_two_92, b_X6_two_93, b_X6_two_94, x_iadd, b_X6_two_98, x_isub, b_X6_two_102, x_imul, q_isL_I, q_isL_R, q_isL_S, true_and, and_true, and_self, List.length_nil, List.length_cons, Nat.zero_add, x_K, x_Kn, Int.reduceToNat, Nat.reduceAdd, Nat.reduceMul, Nat.reduceLeDiff, Nat.reduceLT, Nat.zero_le, Int.reduceAdd, Int.reduceSub, Int.reduceMul, Int.reduceNeg, q_add_e, q_sub_e, q_mul_e, q_neg_e, q_upd_s, q_upd_n, zr_shr0, zr_shr1, zr_shr2, zr_shr3, zr_shr4, zr_and, zr_dyn8, zr_or, zr_shl, q_cpy_n, y_cpy26]
        exact hq
      · rw [if_neg (by omega)] at hq
        simp (disch := omega) only [b_X6_two_0, x_loadI_0, tw_9_11, tw_9_12, tw_9_13, tw_9_14, tw_9_15, tw_9_16, tw_9_17, tw_9_o, b_X6_two_44, x_loadI_1, y_if_ne_t, y_if_ne_f, b_X6_two_48, x_loadI_2, y_if_eq_t, y_if_eq_f, b_X6_two_52, x_iconst, x_goto, b_X6_two_56, b_X6_two_57, x_ret0, b_X6_two_58, b_X6_two_62, b_X6_two_66, b_X6_two_70, b_X6_two_71, b_X6_two_72, y_ic_ge_t, y_ic_ge_f, b_X6_two_77, b_X6_two_81, b_X6_two_82, b_X6_two_83, y_ic_ne_t, y_ic_ne_f, b_X6_two_88, b_X6_two_92, b_X6_two_93, b_X6_two_94, x_iadd, b_X6_two_98, x_isub, b_X6_two_102, x_imul, q_isL_I, q_isL_R, q_isL_S, true_and, and_true, and_self, List.length_nil, List.length_cons, Nat.zero_add, x_K, x_Kn, Int.reduceToNat, Nat.reduceAdd, Nat.reduceMul, Nat.reduceLeDiff, Nat.reduceLT, Nat.zero_le, Int.reduceAdd, Int.reduceSub, Int.reduceMul, Int.reduceNeg, q_add_e, q_sub_e, q_mul_e, q_neg_e, q_upd_s, q_upd_n, zr_shr0, zr_shr1, zr_shr2, zr_shr3, zr_shr4, zr_and, zr_dyn8, zr_or, zr_shl, q_cpy_n, y_cpy26]
        exact hq
  · simp (disch := omega) only [b_X6_two_0, x_loadI_0]
    rw [x_tsw]
    show q_T 1 d qP_X6_two 72 [] _ _ _ _ _
    rw [if_neg (by omega), if_neg (by omega), if_pos rfl] at hq
    by_cases c1 : x < y
    · rw [if_pos c1] at hq
      simp (disch := omega) only [b_X6_two_0, x_loadI_0, tw_9_11, tw_9_12, tw_9_13, tw_9_14, tw_9_15, tw_9_16, tw_9_17, tw_9_o, b_X6_two_44, x_loadI_1, y_if_ne_t, y_if_ne_f, b_X6_two_48, x_loadI_2, y_if_eq_t, y_if_eq_f, b_X6_two_52, x_iconst, x_goto, b_X6_two_56, b_X6_two_57, x_ret0, b_X6_two_58, b_X6_two_62, b_X6_two_66, b_X6_two_70, b_X6_two_71, b_X6_two_72, y_ic_ge_t, y_ic_ge_f, b_X6_two_77, b_X6_two_81, b_X6_two_82, b_X6_two_83, y_ic_ne_t, y_ic_ne_f, b_X6_two_88, b_X6_two_92, b_X6_two_93, b_X6_two_94, x_iadd, b_X6_two_98, x_isub, b_X6_two_102, x_imul, q_isL_I, q_isL_R, q_isL_S, true_and, and_true, and_self, List.length_nil, List.length_cons, Nat.zero_add, x_K, x_Kn, Int.reduceToNat, Nat.reduceAdd, Nat.reduceMul, Nat.reduceLeDiff, Nat.reduceLT, Nat.zero_le, Int.reduceAdd, Int.reduceSub, Int.reduceMul, Int.reduceNeg, q_add_e, q_sub_e, q_mul_e, q_neg_e, q_upd_s, q_upd_n, zr_shr0, zr_shr1, zr_shr2, zr_shr3, zr_shr4, zr_and, zr_dyn8, zr_or, zr_shl, q_cpy_n, y_cpy26]
      exact hq
    · rw [if_neg c1] at hq
      simp (disch := omega) only [b_X6_two_0, x_loadI_0, tw_9_11, tw_9_12, tw_9_13, tw_9_14, tw_9_15, tw_9_16, tw_9_17, tw_9_o, b_X6_two_44, x_loadI_1, y_if_ne_t, y_if_ne_f, b_X6_two_48, x_loadI_2, y_if_eq_t, y_if_eq_f, b_X6_two_52, x_iconst, x_goto, b_X6_two_56, b_X6_two_57, x_ret0, b_X6_two_58, b_X6_two_62, b_X6_two_66, b_X6_two_70, b_X6_two_71, b_X6_two_72, y_ic_ge_t, y_ic_ge_f, b_X6_two_77, b_X6_two_81, b_X6_two_82, b_X6_two_83, y_ic_ne_t, y_ic_ne_f, b_X6_two_88, b_X6_two_92, b_X6_two_93, b_X6_two_94, x_iadd, b_X6_two_98, x_isub, b_X6_two_102, x_imul, q_isL_I, q_isL_R, q_isL_S, true_and, and_true, and_self, List.length_nil, List.length_cons, Nat.zero_add, x_K, x_Kn, Int.reduceToNat, Nat.reduceAdd, Nat.reduceMul, Nat.reduceLeDiff, Nat.reduceLT, Nat.zero_le, Int.reduceAdd, Int.reduceSub, Int.reduceMul, Int.reduceNeg, q_add_e, q_sub_e, q_mul_e, q_neg_e, q_upd_s, q_upd_n, zr_shr0, zr_shr1, zr_shr2, zr_shr3, zr_shr4, zr_and, zr_dyn8, zr_or, zr_shl, q_cpy_n, y_cpy26]
      exact hq
  · simp (disch := omega) only [b_X6_two_0, x_loadI_0]
    rw [x_tsw]
    show q_T 1 d qP_X6_two 83 [] _ _ _ _ _
    rw [if_neg (by omega), if_neg (by omega), if_neg (by omega), if_pos rfl] at hq
    by_cases c1 : x = y
    · rw [if_pos c1] at hq
      simp (disch := omega) only [b_X6_two_0, x_loadI_0, tw_9_11, tw_9_12, tw_9_13, tw_9_14, tw_9_15, tw_9_16, tw_9_17, tw_9_o, b_X6_two_44, x_loadI_1, y_if_ne_t, y_if_ne_f, b_X6_two_48, x_loadI_2, y_if_eq_t, y_if_eq_f, b_X6_two_52, x_iconst, x_goto, b_X6_two_56, b_X6_two_57, x_ret0, b_X6_two_58, b_X6_two_62, b_X6_two_66, b_X6_two_70, b_X6_two_71, b_X6_two_72, y_ic_ge_t, y_ic_ge_f, b_X6_two_77, b_X6_two_81, b_X6_two_82, b_X6_two_83, y_ic_ne_t, y_ic_ne_f, b_X6_two_88, b_X6_two_92, b_X6_two_93, b_X6_two_94, x_iadd, b_X6_two_98, x_isub, b_X6_two_102, x_imul, q_isL_I, q_isL_R, q_isL_S, true_and, and_true, and_self, List.length_nil, List.length_cons, Nat.zero_add, x_K, x_Kn, Int.reduceToNat, Nat.reduceAdd, Nat.reduceMul, Nat.reduceLeDiff, Nat.reduceLT, Nat.zero_le, Int.reduceAdd, Int.reduceSub, Int.reduceMul, Int.reduceNeg, q_add_e, q_sub_e, q_mul_e, q_neg_e, q_upd_s, q_upd_n, zr_shr0, zr_shr1, zr_shr2, zr_shr3, zr_shr4, zr_and, zr_dyn8, zr_or, zr_shl, q_cpy_n, y_cpy26]
      exact hq
    · rw [if_neg c1] at hq
      simp (disch := omega) only [b_X6_two_0, x_loadI_0, tw_9_11, tw_9_12, tw_9_13, tw_9_14, tw_9_15, tw_9_16, tw_9_17, tw_9_o, b_X6_two_44, x_loadI_1, y_if_ne_t, y_if_ne_f, b_X6_two_48, x_loadI_2, y_if_eq_t, y_if_eq_f, b_X6_two_52, x_iconst, x_goto, b_X6_two_56, b_X6_two_57, x_ret0, b_X6_two_58, b_X6_two_62, b_X6_two_66, b_X6_two_70, b_X6_two_71, b_X6_two_72, y_ic_ge_t, y_ic_ge_f, b_X6_two_77, b_X6_two_81, b_X6_two_82, b_X6_two_83, y_ic_ne_t, y_ic_ne_f, b_X6_two_88, b_X6_two_92, b_X6_two_93, b_X6_two_94, x_iadd, b_X6_two_98, x_isub, b_X6_two_102, x_imul, q_isL_I, q_isL_R, q_isL_S, true_and, and_true, and_self, List.length_nil, List.length_cons, Nat.zero_add, x_K, x_Kn, Int.reduceToNat, Nat.reduceAdd, Nat.reduceMul, Nat.reduceLeDiff, Nat.reduceLT, Nat.zero_le, Int.reduceAdd, Int.reduceSub, Int.reduceMul, Int.reduceNeg, q_add_e, q_sub_e, q_mul_e, q_neg_e, q_upd_s, q_upd_n, zr_shr0, zr_shr1, zr_shr2, zr_shr3, zr_shr4, zr_and, zr_dyn8, zr_or, zr_shl, q_cpy_n, y_cpy26]
      exact hq
  · simp (disch := omega) only [b_X6_two_0, x_loadI_0]
    rw [x_tsw]
    show q_T 1 d qP_X6_two 94 [] _ _ _ _ _
    rw [if_neg (by omega), if_neg (by omega), if_neg (by omega), if_neg (by omega), if_pos rfl] at hq
    rw [b_X6_two_94, x_loadI_1, x_loadI_2, x_iadd, x_ret0]
    exact hq
  · simp (disch := omega) only [b_X6_two_0, x_loadI_0]
    rw [x_tsw]
    show q_T 1 d qP_X6_two 98 [] _ _ _ _ _
    rw [if_neg (by omega), if_neg (by omega), if_neg (by omega), if_neg (by omega), if_neg (by omega), if_pos rfl] at hq
    rw [b_X6_two_98, x_loadI_1, x_loadI_2, x_isub, x_ret0]
    exact hq
  · simp (disch := omega) only [b_X6_two_0, x_loadI_0]
    rw [x_tsw]
    show q_T 1 d qP_X6_two 102 [] _ _ _ _ _
    rw [if_neg (by omega), if_neg (by omega), if_neg (by omega), if_neg (by omega), if_neg (by omega), if_neg (by omega)] at hq
    rw [b_X6_two_102, x_loadI_1, x_loadI_2, x_imul, x_ret0]
    exact hq
/-- what a code says, read from its i-th sign on with k numbers held in st -/
def B_say (C N : Nat → Int) : Nat → Nat → Nat → (Nat → Int) → Int
  | 0, _, _, st => st 0
  | j + 1, i, k, st =>
    if C i < 11 then B_say C N j (i + 1) (k + 1) (F_u st k (if (C i).toNat < 6 then N (C i).toNat else 0))
    else if 100000 ≤ C i then B_say C N j (i + 1) (k + 1) (F_u st k (C i - 100000))
    else if C i = 13 then B_say C N j (i + 1) k (F_u st (k - 1) (if st (k - 1) = 0 then 1 else 0))
    else if C i = 19 then B_say C N j (i + 1) k (F_u st (k - 1) (q_neg (st (k - 1))))
    else B_say C N j (i + 1) (k - 1) (F_u st (k - 2) (B_two (C i) (st (k - 2)) (st (k - 1))))
theorem B_say_N {C f f' : Nat → Int} (h : ∀ i, i < 6 → f i = f' i) : ∀ j i k st, B_say C f j i k st = B_say C f' j i k st := by
  intro j
  induction j with
  | zero => intro i k st; rfl
  | succ j ih =>
    intro i k st
    unfold B_say
    by_cases c : (C i).toNat < 6
    · rw [h _ c]
      simp only [ih]
    · rw [if_neg c, if_neg c]
      simp only [ih]
/-- a code from s to o is well formed: D numbers are held at each place -/
def q_wfP (C : Nat → Int) (s o : Nat) (D : Nat → Nat) : Prop := D s = 0 ∧ ∀ i, s ≤ i → i < o → (q_pu (C i) ∧ D (i + 1) = D i + 1) ∨ (q_una (C i) ∧ 1 ≤ D i ∧ D (i + 1) = D i) ∨ (q_bi (C i) ∧ 2 ≤ D i ∧ D (i + 1) + 1 = D i)
def q_V1 (C s : Nat → Int) : Nat → (Nat → Int) → Int := fun part N => B_say C N (s (part + 1) - s part).toNat (s part).toNat 0 (fun _ => 0)
theorem q_lawV_1 {C s : Nat → Int} : q_lawV (q_V1 C s) := fun part f f' h => B_say_N h _ _ _ _
/-- a text's codes and starts -/
def q_wfT (C s : Nat → Int) : Prop := ∀ p, p < 3 → ∃ (a b : Nat) (D : Nat → Nat), s p = a ∧ s (p + 1) = b ∧ a < b ∧ b ≤ 160 ∧ q_wfP C a b D ∧ D b = 1
set_option maxHeartbeats 8000000 in
theorem q_lawT_of {r : Nat} {M : q_M} (hr : r < 6) (hw : q_wfT (fun i => M 106 (200 * r + i)) (fun i => M 107 (4 * r + i))) : q_lawT (q_V1 (fun i => M 106 (200 * r + i)) (fun i => M 107 (4 * r + i))) r M := by
  intro M' hM h11 d g Q part hp hq
  obtain ⟨a, b, D, ha, hb, hab, hb2, hD, hDb⟩ := hw part hp
  generalize hC : (fun i => M 106 (200 * r + i)) = C at hq hD
  unfold q_V1 at hq
  rw [ha, hb, show ((b : Int) - (a : Int)).toNat = b - a by omega, Int.toNat_natCast] at hq
  have eC : ∀ i, i < 200 → M' 106 (200 * r + i) = C i := fun i hi => by rw [← hC]; exact hM 106 _ (by omega)
  have ea : M' 107 (4 * r + part) = a := (hM 107 _ (by omega)).trans ha
  have eb : M' 107 (4 * r + part + 1) = b := (hM 107 _ (by omega)).trans hb
  have t1 : (4 * (r : Int) + (part : Int)).toNat = 4 * r + part := by omega
  have t2 : (4 * (r : Int) + (part : Int) + 1).toNat = 4 * r + part + 1 := by omega
  rw [s_X6_says]
  have loop : ∀ j i k : Nat, i + j = b → a ≤ i → D i = k → k + a ≤ i → ∀ (M1 : q_M) (st : Nat → Int) (l4 : q_V), q_isL l4 = false → (∀ x i, x ≠ 116 → M1 x i = M' x i) → (∀ x, x < k → M1 116 x = st x) → (∀ M2 : q_M, (∀ x i, x ≠ 116 → M2 x i = M' x i) → Q (some (qI (B_say C (M' 117) j i k st))) g M2) → q_T 1 (d + 1) qP_X6_says 16 [] [qR 6 100, qI part, qI k, qI i, l4] [] g M1 Q := by
    intro j
    induction j with
    | zero =>
      intro i k hi hai hDk hk M1 st l4 hl4 hf hst hq2
      have e : i = b := by omega
      subst e
      have e2 : k = 1 := hDk.symm.trans hDb
      have f11 : M1 100 11 = r := (hf 100 11 (by omega)).trans h11
      have fb : M1 107 (4 * r + part + 1) = i := (hf 107 _ (by omega)).trans eb
      have f0 : M1 116 0 = st 0 := hst 0 (by omega)
      have hz := hq2 M1 hf
      unfold B_say at hz
      rw [b_X6_says_16]
      simp (disch := omega) only [b_X6_says_0, x_iconst, x_storeI_2, x_loadR_0, x_loadS_0, f_6_9, f_6_11, x_imul, x_loadI_1, x_iadd, y_iald_26, y_iald_44, y_iald_220, y_iald_1220, x_storeI_3, x_loadI_3, y_ic_ge_t, y_ic_ge_f, b_X6_says_35, f_6_8, x_storeI_4, x_loadI_4, b_X6_says_59, b_X6_says_66, f_6_28, x_loadI_2, b_X6_says_78, f_6_29, x_goto, b_X6_says_88, x_isub, b_X6_says_93, y_iast_26, y_iast_44, y_iast_220, y_iast_1220, x_iinc_2, b_X6_says_100, y_ic_ne_t, y_ic_ne_f, b_X6_says_107, y_if_ne_t, y_if_ne_f, b_X6_says_125, b_X6_says_129, b_X6_says_130, b_X6_says_134, b_X6_says_141, x_ineg, b_X6_says_161, b_X6_says_191, x_iinc_3, b_X6_says_197, x_ret0, q_isL_I, q_isL_R, q_isL_S, true_and, and_true, and_self, List.length_nil, List.length_cons, Nat.zero_add, x_K, x_Kn, Int.reduceToNat, Nat.reduceAdd, Nat.reduceMul, Nat.reduceLeDiff, Nat.reduceLT, Nat.zero_le, Int.reduceAdd, Int.reduceSub, Int.reduceMul, Int.reduceNeg, q_add_e, q_sub_e, q_mul_e, q_neg_e, q_upd_s, q_upd_n, zr_shr0, zr_shr1, zr_shr2, zr_shr3, zr_shr4, zr_and, zr_dyn8, zr_or, zr_shl, q_cpy_n, y_cpy26, f11, t1, t2, fb, f0]
      exact hz
    | succ j ih =>
      intro i k hi hai hDk hk M1 st l4 hl4 hf hst hq2
      have f11 : M1 100 11 = r := (hf 100 11 (by omega)).trans h11
      have fb : M1 107 (4 * r + part + 1) = b := (hf 107 _ (by omega)).trans eb
      have fc : M1 106 (200 * r + i) = C i := (hf 106 _ (by omega)).trans (eC i (by omega))
      have t3 : (200 * (r : Int) + (i : Int)).toNat = 200 * r + i := by omega
      have hs := hD.2 i hai (by omega)
      rw [hDk] at hs
      rw [b_X6_says_16]
      unfold B_say at hq2
      have up : ∀ (x : Nat) (v : Int) (M3 : q_M), (∀ y i, y ≠ 116 → M3 y i = M' y i) → (∀ y i, y ≠ 116 → q_upd M3 116 x v y i = M' y i) := fun x v M3 h y i hy => (q_upd_n (by omega)).trans (h y i hy)
      rcases hs with ⟨hc, h1⟩ | ⟨hc, h0, h1⟩ | ⟨hc, h0, h1⟩
      · unfold q_pu at hc
        rcases hc with hc | hc
        · have cn : (C i).toNat < 6 := by omega
          have fn : M1 117 (C i).toNat = M' 117 (C i).toNat := hf 117 _ (by omega)
          rw [if_pos (by omega), if_pos cn] at hq2
          simp (disch := omega) only [b_X6_says_0, x_iconst, x_storeI_2, x_loadR_0, x_loadS_0, f_6_9, f_6_11, x_imul, x_loadI_1, x_iadd, y_iald_26, y_iald_44, y_iald_220, y_iald_1220, x_storeI_3, x_loadI_3, y_ic_ge_t, y_ic_ge_f, b_X6_says_35, f_6_8, x_storeI_4, x_loadI_4, b_X6_says_59, b_X6_says_66, f_6_28, x_loadI_2, b_X6_says_78, f_6_29, x_goto, b_X6_says_88, x_isub, b_X6_says_93, y_iast_26, y_iast_44, y_iast_220, y_iast_1220, x_iinc_2, b_X6_says_100, y_ic_ne_t, y_ic_ne_f, b_X6_says_107, y_if_ne_t, y_if_ne_f, b_X6_says_125, b_X6_says_129, b_X6_says_130, b_X6_says_134, b_X6_says_141, x_ineg, b_X6_says_161, b_X6_says_191, x_iinc_3, b_X6_says_197, x_ret0, q_isL_I, q_isL_R, q_isL_S, true_and, and_true, and_self, List.length_nil, List.length_cons, Nat.zero_add, x_K, x_Kn, Int.reduceToNat, Nat.reduceAdd, Nat.reduceMul, Nat.reduceLeDiff, Nat.reduceLT, Nat.zero_le, Int.reduceAdd, Int.reduceSub, Int.reduceMul, Int.reduceNeg, q_add_e, q_sub_e, q_mul_e, q_neg_e, q_upd_s, q_upd_n, zr_shr0, zr_shr1, zr_shr2, zr_shr3, zr_shr4, zr_and, zr_dyn8, zr_or, zr_shl, q_cpy_n, y_cpy26, f11, t1, t2, t3, fb, fc, fn, hl4, Int.toNat_natCast]
          refine ih (i + 1) (k + 1) (by omega) (by omega) (by omega) (by omega) _ _ _ rfl (up _ _ _ hf) (fun x hx => ?_) hq2
          by_cases e : x = k
          · subst e
            rw [q_upd_s, F_u_s]
          · rw [q_upd_n (by omega), F_u_n e]
            exact hst x (by omega)
        · rw [if_neg (by omega), if_pos (by omega)] at hq2
          simp (disch := omega) only [b_X6_says_0, x_iconst, x_storeI_2, x_loadR_0, x_loadS_0, f_6_9, f_6_11, x_imul, x_loadI_1, x_iadd, y_iald_26, y_iald_44, y_iald_220, y_iald_1220, x_storeI_3, x_loadI_3, y_ic_ge_t, y_ic_ge_f, b_X6_says_35, f_6_8, x_storeI_4, x_loadI_4, b_X6_says_59, b_X6_says_66, f_6_28, x_loadI_2, b_X6_says_78, f_6_29, x_goto, b_X6_says_88, x_isub, b_X6_says_93, y_iast_26, y_iast_44, y_iast_220, y_iast_1220, x_iinc_2, b_X6_says_100, y_ic_ne_t, y_ic_ne_f, b_X6_says_107, y_if_ne_t, y_if_ne_f, b_X6_says_125, b_X6_says_129, b_X6_says_130, b_X6_says_134, b_X6_says_141, x_ineg, b_X6_says_161, b_X6_says_191, x_iinc_3, b_X6_says_197, x_ret0, q_isL_I, q_isL_R, q_isL_S, true_and, and_true, and_self, List.length_nil, List.length_cons, Nat.zero_add, x_K, x_Kn, Int.reduceToNat, Nat.reduceAdd, Nat.reduceMul, Nat.reduceLeDiff, Nat.reduceLT, Nat.zero_le, Int.reduceAdd, Int.reduceSub, Int.reduceMul, Int.reduceNeg, q_add_e, q_sub_e, q_mul_e, q_neg_e, q_upd_s, q_upd_n, zr_shr0, zr_shr1, zr_shr2, zr_shr3, zr_shr4, zr_and, zr_dyn8, zr_or, zr_shl, q_cpy_n, y_cpy26, f11, t1, t2, t3, fb, fc, hl4, Int.toNat_natCast]
          refine ih (i + 1) (k + 1) (by omega) (by omega) (by omega) (by omega) _ _ _ rfl (up _ _ _ hf) (fun x hx => ?_) hq2
          by_cases e : x = k
          · subst e
            rw [q_upd_s, F_u_s]
          · rw [q_upd_n (by omega), F_u_n e]
            exact hst x (by omega)
      · have t4 : ((k : Int) - 1).toNat = k - 1 := by omega
        have fk : M1 116 (k - 1) = st (k - 1) := hst _ (by omega)
        unfold q_una at hc
        rcases hc with hc | hc
        · rw [if_neg (by omega), if_neg (by omega), if_pos hc] at hq2
          by_cases c : st (k - 1) = 0
          · rw [if_pos c] at hq2
            simp (disch := omega) only [b_X6_says_0, x_iconst, x_storeI_2, x_loadR_0, x_loadS_0, f_6_9, f_6_11, x_imul, x_loadI_1, x_iadd, y_iald_26, y_iald_44, y_iald_220, y_iald_1220, x_storeI_3, x_loadI_3, y_ic_ge_t, y_ic_ge_f, b_X6_says_35, f_6_8, x_storeI_4, x_loadI_4, b_X6_says_59, b_X6_says_66, f_6_28, x_loadI_2, b_X6_says_78, f_6_29, x_goto, b_X6_says_88, x_isub, b_X6_says_93, y_iast_26, y_iast_44, y_iast_220, y_iast_1220, x_iinc_2, b_X6_says_100, y_ic_ne_t, y_ic_ne_f, b_X6_says_107, y_if_ne_t, y_if_ne_f, b_X6_says_125, b_X6_says_129, b_X6_says_130, b_X6_says_134, b_X6_says_141, x_ineg, b_X6_says_161, b_X6_says_191, x_iinc_3, b_X6_says_197, x_ret0, q_isL_I, q_isL_R, q_isL_S, true_and, and_true, and_self, List.length_nil, List.length_cons, Nat.zero_add, x_K, x_Kn, Int.reduceToNat, Nat.reduceAdd, Nat.reduceMul, Nat.reduceLeDiff, Nat.reduceLT, Nat.zero_le, Int.reduceAdd, Int.reduceSub, Int.reduceMul, Int.reduceNeg, q_add_e, q_sub_e, q_mul_e, q_neg_e, q_upd_s, q_upd_n, zr_shr0, zr_shr1, zr_shr2, zr_shr3, zr_shr4, zr_and, zr_dyn8, zr_or, zr_shl, q_cpy_n, y_cpy26, f11, t1, t2, t3, t4, fb, fc, fk, hl4, Int.toNat_natCast]
            refine ih (i + 1) k (by omega) (by omega) (by omega) (by omega) _ _ _ rfl (up _ _ _ hf) (fun x hx => ?_) hq2
            by_cases e : x = k - 1
            · subst e
              rw [q_upd_s, F_u_s]
            · rw [q_upd_n (by omega), F_u_n e]
              exact hst x (by omega)
          · rw [if_neg c] at hq2
            simp (disch := omega) only [b_X6_says_0, x_iconst, x_storeI_2, x_loadR_0, x_loadS_0, f_6_9, f_6_11, x_imul, x_loadI_1, x_iadd, y_iald_26, y_iald_44, y_iald_220, y_iald_1220, x_storeI_3, x_loadI_3, y_ic_ge_t, y_ic_ge_f, b_X6_says_35, f_6_8, x_storeI_4, x_loadI_4, b_X6_says_59, b_X6_says_66, f_6_28, x_loadI_2, b_X6_says_78, f_6_29, x_goto, b_X6_says_88, x_isub, b_X6_says_93, y_iast_26, y_iast_44, y_iast_220, y_iast_1220, x_iinc_2, b_X6_says_100, y_ic_ne_t, y_ic_ne_f, b_X6_says_107, y_if_ne_t, y_if_ne_f, b_X6_says_125, b_X6_says_129, b_X6_says_130, b_X6_says_134, b_X6_says_141, x_ineg, b_X6_says_161, b_X6_says_191, x_iinc_3, b_X6_says_197, x_ret0, q_isL_I, q_isL_R, q_isL_S, true_and, and_true, and_self, List.length_nil, List.length_cons, Nat.zero_add, x_K, x_Kn, Int.reduceToNat, Nat.reduceAdd, Nat.reduceMul, Nat.reduceLeDiff, Nat.reduceLT, Nat.zero_le, Int.reduceAdd, Int.reduceSub, Int.reduceMul, Int.reduceNeg, q_add_e, q_sub_e, q_mul_e, q_neg_e, q_upd_s, q_upd_n, zr_shr0, zr_shr1, zr_shr2, zr_shr3, zr_shr4, zr_and, zr_dyn8, zr_or, zr_shl, q_cpy_n, y_cpy26, f11, t1, t2, t3, t4, fb, fc, fk, hl4, Int.toNat_natCast]
            refine ih (i + 1) k (by omega) (by omega) (by omega) (by omega) _ _ _ rfl (up _ _ _ hf) (fun x hx => ?_) hq2
            by_cases e : x = k - 1
            · subst e
              rw [q_upd_s, F_u_s]
            · rw [q_upd_n (by omega), F_u_n e]
              exact hst x (by omega)
        · rw [if_neg (by omega), if_neg (by omega), if_neg (by omega), if_pos hc] at hq2
          simp (disch := omega) only [b_X6_says_0, x_iconst, x_storeI_2, x_loadR_0, x_loadS_0, f_6_9, f_6_11, x_imul, x_loadI_1, x_iadd, y_iald_26, y_iald_44, y_iald_220, y_iald_1220, x_storeI_3, x_loadI_3, y_ic_ge_t, y_ic_ge_f, b_X6_says_35, f_6_8, x_storeI_4, x_loadI_4, b_X6_says_59, b_X6_says_66, f_6_28, x_loadI_2, b_X6_says_78, f_6_29, x_goto, b_X6_says_88, x_isub, b_X6_says_93, y_iast_26, y_iast_44, y_iast_220, y_iast_1220, x_iinc_2, b_X6_says_100, y_ic_ne_t, y_ic_ne_f, b_X6_says_107, y_if_ne_t, y_if_ne_f, b_X6_says_125, b_X6_says_129, b_X6_says_130, b_X6_says_134, b_X6_says_141, x_ineg, b_X6_says_161, b_X6_says_191, x_iinc_3, b_X6_says_197, x_ret0, q_isL_I, q_isL_R, q_isL_S, true_and, and_true, and_self, List.length_nil, List.length_cons, Nat.zero_add, x_K, x_Kn, Int.reduceToNat, Nat.reduceAdd, Nat.reduceMul, Nat.reduceLeDiff, Nat.reduceLT, Nat.zero_le, Int.reduceAdd, Int.reduceSub, Int.reduceMul, Int.reduceNeg, q_add_e, q_sub_e, q_mul_e, q_upd_s, q_upd_n, zr_shr0, zr_shr1, zr_shr2, zr_shr3, zr_shr4, zr_and, zr_dyn8, zr_or, zr_shl, q_cpy_n, y_cpy26, f11, t1, t2, t3, t4, fb, fc, fk, hl4, Int.toNat_natCast]
          refine ih (i + 1) k (by omega) (by omega) (by omega) (by omega) _ _ _ rfl (up _ _ _ hf) (fun x hx => ?_) hq2
          by_cases e : x = k - 1
          · subst e
            rw [q_upd_s, F_u_s]
          · rw [q_upd_n (by omega), F_u_n e]
            exact hst x (by omega)
      · have t4 : ((k : Int) + -1 - 1).toNat = k - 2 := by omega
        have t5 : ((k : Int) + -1).toNat = k - 1 := by omega
        have fk : M1 116 (k - 1) = st (k - 1) := hst _ (by omega)
        have fk2 : M1 116 (k - 2) = st (k - 2) := hst _ (by omega)
        have hcc := hc
        unfold q_bi at hcc
        rw [if_neg (by omega), if_neg (by omega), if_neg (by omega), if_neg (by omega)] at hq2
        have eD : ((k : Int) + -1) = ((k - 1 : Nat) : Int) := by omega
        simp (disch := omega) only [b_X6_says_0, x_iconst, x_storeI_2, x_loadR_0, x_loadS_0, f_6_9, f_6_11, x_imul, x_loadI_1, x_iadd, y_iald_26, y_iald_44, y_iald_220, y_iald_1220, x_storeI_3, x_loadI_3, y_ic_ge_t, y_ic_ge_f, b_X6_says_35, f_6_8, x_storeI_4, x_loadI_4, b_X6_says_59, b_X6_says_66, f_6_28, x_loadI_2, b_X6_says_78, f_6_29, x_goto, b_X6_says_88, x_isub, b_X6_says_93, y_iast_26, y_iast_44, y_iast_220, y_iast_1220, x_iinc_2, b_X6_says_100, y_ic_ne_t, y_ic_ne_f, b_X6_says_107, y_if_ne_t, y_if_ne_f, b_X6_says_125, b_X6_says_129, b_X6_says_130, b_X6_says_134, b_X6_says_141, x_ineg, b_X6_says_161, b_X6_says_191, x_iinc_3, b_X6_says_197, x_ret0, q_isL_I, q_isL_R, q_isL_S, true_and, and_true, and_self, List.length_nil, List.length_cons, Nat.zero_add, x_K, x_Kn, Int.reduceToNat, Nat.reduceAdd, Nat.reduceMul, Nat.reduceLeDiff, Nat.reduceLT, Nat.zero_le, Int.reduceAdd, Int.reduceSub, Int.reduceMul, Int.reduceNeg, q_add_e, q_sub_e, q_mul_e, q_neg_e, q_upd_s, q_upd_n, zr_shr0, zr_shr1, zr_shr2, zr_shr3, zr_shr4, zr_and, zr_dyn8, zr_or, zr_shl, q_cpy_n, y_cpy26, f11, t1, t2, t3, t4, t5, fb, fc, fk, fk2, hl4, Int.toNat_natCast, c_X6_two]
        refine mp_two hc ?_
        simp (disch := omega) only [b_X6_says_0, x_iconst, x_storeI_2, x_loadR_0, x_loadS_0, f_6_9, f_6_11, x_imul, x_loadI_1, x_iadd, y_iald_26, y_iald_44, y_iald_220, y_iald_1220, x_storeI_3, x_loadI_3, y_ic_ge_t, y_ic_ge_f, b_X6_says_35, f_6_8, x_storeI_4, x_loadI_4, b_X6_says_59, b_X6_says_66, f_6_28, x_loadI_2, b_X6_says_78, f_6_29, x_goto, b_X6_says_88, x_isub, b_X6_says_93, y_iast_26, y_iast_44, y_iast_220, y_iast_1220, x_iinc_2, b_X6_says_100, y_ic_ne_t, y_ic_ne_f, b_X6_says_107, y_if_ne_t, y_if_ne_f, b_X6_says_125, b_X6_says_129, b_X6_says_130, b_X6_says_134, b_X6_says_141, x_ineg, b_X6_says_161, b_X6_says_191, x_iinc_3, b_X6_says_197, x_ret0, q_isL_I, q_isL_R, q_isL_S, true_and, and_true, and_self, List.length_nil, List.length_cons, Nat.zero_add, x_K, x_Kn, Int.reduceToNat, Nat.reduceAdd, Nat.reduceMul, Nat.reduceLeDiff, Nat.reduceLT, Nat.zero_le, Int.reduceAdd, Int.reduceSub, Int.reduceMul, Int.reduceNeg, q_add_e, q_sub_e, q_mul_e, q_neg_e, q_upd_s, q_upd_n, zr_shr0, zr_shr1, zr_shr2, zr_shr3, zr_shr4, zr_and, zr_dyn8, zr_or, zr_shl, q_cpy_n, y_cpy26, t4]
        rw [eD]
        refine ih (i + 1) (k - 1) (by omega) (by omega) (by omega) (by omega) _ _ _ rfl (up _ _ _ hf) (fun x hx => ?_) hq2
        by_cases e : x = k - 2
        · subst e
          rw [q_upd_s, F_u_s]
        · rw [q_upd_n (by omega), F_u_n e]
          exact hst x (by omega)
  simp (disch := omega) only [b_X6_says_0, x_iconst, x_storeI_2, x_loadR_0, x_loadS_0, f_6_9, f_6_11, x_imul, x_loadI_1, x_iadd, y_iald_26, y_iald_44, y_iald_220, y_iald_1220, x_storeI_3, x_loadI_3, y_ic_ge_t, y_ic_ge_f, b_X6_says_35, f_6_8, x_storeI_4, x_loadI_4, b_X6_says_59, b_X6_says_66, f_6_28, x_loadI_2, b_X6_says_78, f_6_29, x_goto, b_X6_says_88, x_isub, b_X6_says_93, y_iast_26, y_iast_44, y_iast_220, y_iast_1220, x_iinc_2, b_X6_says_100, y_ic_ne_t, y_ic_ne_f, b_X6_says_107, y_if_ne_t, y_if_ne_f, b_X6_says_125, b_X6_says_129, b_X6_says_130, b_X6_says_134, b_X6_says_141, x_ineg, b_X6_says_161, b_X6_says_191, x_iinc_3, b_X6_says_197, x_ret0, q_isL_I, q_isL_R, q_isL_S, true_and, and_true, and_self, List.length_nil, List.length_cons, Nat.zero_add, x_K, x_Kn, Int.reduceToNat, Nat.reduceAdd, Nat.reduceMul, Nat.reduceLeDiff, Nat.reduceLT, Nat.zero_le, Int.reduceAdd, Int.reduceSub, Int.reduceMul, Int.reduceNeg, q_add_e, q_sub_e, q_mul_e, q_neg_e, q_upd_s, q_upd_n, zr_shr0, zr_shr1, zr_shr2, zr_shr3, zr_shr4, zr_and, zr_dyn8, zr_or, zr_shl, q_cpy_n, y_cpy26, h11, t1, ea]
  exact loop (b - a) a 0 (by omega) (by omega) hD.1 (by omega) M' (fun _ => 0) _ rfl (fun _ _ _ => rfl) (fun x hx => absurd hx (by omega)) (fun M2 h2 => hq M2 (fun x i hx => h2 x i hx))
end
section
/-! THE MODEL'S READER: what is held -/
def F_rank (c : Int) : Int := if c = 0 then 0 else if c = 11 then 1 else if c = 12 then 2 else if c = 13 then 3 else if c ≤ 15 then 4 else if c ≤ 17 then 5 else if c = 18 then 6 else 7
set_option maxHeartbeats 4000000 in
theorem mp_rank {d : Nat} {g : q_G} {M : q_M} {c : Int} {Q : Option q_V → q_G → q_M → Prop} (hq : Q (some (qI (F_rank c))) g M) : q_S 1 d 125 [qI c] g M Q := by
  rw [s_X6_rank]
  unfold F_rank at hq
  by_cases c0 : c = 0
  · rw [if_pos c0] at hq
    simp (disch := omega) only [b_X6_rank_0, x_loadI_0, y_if_ne_t, y_if_ne_f, b_X6_rank_4, x_iconst, x_goto, b_X6_rank_8, y_ic_ne_t, y_ic_ne_f, b_X6_rank_14, b_X6_rank_18, b_X6_rank_24, b_X6_rank_28, b_X6_rank_34, b_X6_rank_38, y_ic_gt_t, y_ic_gt_f, b_X6_rank_44, b_X6_rank_48, b_X6_rank_54, b_X6_rank_58, b_X6_rank_64, b_X6_rank_69, b_X6_rank_71, x_ret0, q_isL_I, q_isL_R, q_isL_S, true_and, and_true, and_self, List.length_nil, List.length_cons, Nat.zero_add, x_K, x_Kn, Int.reduceToNat, Nat.reduceAdd, Nat.reduceMul, Nat.reduceLeDiff, Nat.reduceLT, Nat.zero_le, Int.reduceAdd, Int.reduceSub, Int.reduceMul, Int.reduceNeg, q_add_e, q_sub_e, q_mul_e, q_neg_e, q_upd_s, q_upd_n, zr_shr0, zr_shr1, zr_shr2, zr_shr3, zr_shr4, zr_and, zr_dyn8, zr_or, zr_shl, q_cpy_n, y_cpy26]
    exact hq
  rw [if_neg c0] at hq
  by_cases c1 : c = 11
  · rw [if_pos c1] at hq
    simp (disch := omega) only [b_X6_rank_0, x_loadI_0, y_if_ne_t, y_if_ne_f, b_X6_rank_4, x_iconst, x_goto, b_X6_rank_8, y_ic_ne_t, y_ic_ne_f, b_X6_rank_14, b_X6_rank_18, b_X6_rank_24, b_X6_rank_28, b_X6_rank_34, b_X6_rank_38, y_ic_gt_t, y_ic_gt_f, b_X6_rank_44, b_X6_rank_48, b_X6_rank_54, b_X6_rank_58, b_X6_rank_64, b_X6_rank_69, b_X6_rank_71, x_ret0, q_isL_I, q_isL_R, q_isL_S, true_and, and_true, and_self, List.length_nil, List.length_cons, Nat.zero_add, x_K, x_Kn, Int.reduceToNat, Nat.reduceAdd, Nat.reduceMul, Nat.reduceLeDiff, Nat.reduceLT, Nat.zero_le, Int.reduceAdd, Int.reduceSub, Int.reduceMul, Int.reduceNeg, q_add_e, q_sub_e, q_mul_e, q_neg_e, q_upd_s, q_upd_n, zr_shr0, zr_shr1, zr_shr2, zr_shr3, zr_shr4, zr_and, zr_dyn8, zr_or, zr_shl, q_cpy_n, y_cpy26]
    exact hq
  rw [if_neg c1] at hq
  by_cases c2 : c = 12
  · rw [if_pos c2] at hq
    simp (disch := omega) only [b_X6_rank_0, x_loadI_0, y_if_ne_t, y_if_ne_f, b_X6_rank_4, x_iconst, x_goto, b_X6_rank_8, y_ic_ne_t, y_ic_ne_f, b_X6_rank_14, b_X6_rank_18, b_X6_rank_24, b_X6_rank_28, b_X6_rank_34, b_X6_rank_38, y_ic_gt_t, y_ic_gt_f, b_X6_rank_44, b_X6_rank_48, b_X6_rank_54, b_X6_rank_58, b_X6_rank_64, b_X6_rank_69, b_X6_rank_71, x_ret0, q_isL_I, q_isL_R, q_isL_S, true_and, and_true, and_self, List.length_nil, List.length_cons, Nat.zero_add, x_K, x_Kn, Int.reduceToNat, Nat.reduceAdd, Nat.reduceMul, Nat.reduceLeDiff, Nat.reduceLT, Nat.zero_le, Int.reduceAdd, Int.reduceSub, Int.reduceMul, Int.reduceNeg, q_add_e, q_sub_e, q_mul_e, q_neg_e, q_upd_s, q_upd_n, zr_shr0, zr_shr1, zr_shr2, zr_shr3, zr_shr4, zr_and, zr_dyn8, zr_or, zr_shl, q_cpy_n, y_cpy26]
    exact hq
  rw [if_neg c2] at hq
  by_cases c3 : c = 13
  · rw [if_pos c3] at hq
    simp (disch := omega) only [b_X6_rank_0, x_loadI_0, y_if_ne_t, y_if_ne_f, b_X6_rank_4, x_iconst, x_goto, b_X6_rank_8, y_ic_ne_t, y_ic_ne_f, b_X6_rank_14, b_X6_rank_18, b_X6_rank_24, b_X6_rank_28, b_X6_rank_34, b_X6_rank_38, y_ic_gt_t, y_ic_gt_f, b_X6_rank_44, b_X6_rank_48, b_X6_rank_54, b_X6_rank_58, b_X6_rank_64, b_X6_rank_69, b_X6_rank_71, x_ret0, q_isL_I, q_isL_R, q_isL_S, true_and, and_true, and_self, List.length_nil, List.length_cons, Nat.zero_add, x_K, x_Kn, Int.reduceToNat, Nat.reduceAdd, Nat.reduceMul, Nat.reduceLeDiff, Nat.reduceLT, Nat.zero_le, Int.reduceAdd, Int.reduceSub, Int.reduceMul, Int.reduceNeg, q_add_e, q_sub_e, q_mul_e, q_neg_e, q_upd_s, q_upd_n, zr_shr0, zr_shr1, zr_shr2, zr_shr3, zr_shr4, zr_and, zr_dyn8, zr_or, zr_shl, q_cpy_n, y_cpy26]
    exact hq
  rw [if_neg c3] at hq
  by_cases c4 : c ≤ 15
  · rw [if_pos c4] at hq
    simp (disch := omega) only [b_X6_rank_0, x_loadI_0, y_if_ne_t, y_if_ne_f, b_X6_rank_4, x_iconst, x_goto, b_X6_rank_8, y_ic_ne_t, y_ic_ne_f, b_X6_rank_14, b_X6_rank_18, b_X6_rank_24, b_X6_rank_28, b_X6_rank_34, b_X6_rank_38, y_ic_gt_t, y_ic_gt_f, b_X6_rank_44, b_X6_rank_48, b_X6_rank_54, b_X6_rank_58, b_X6_rank_64, b_X6_rank_69, b_X6_rank_71, x_ret0, q_isL_I, q_isL_R, q_isL_S, true_and, and_true, and_self, List.length_nil, List.length_cons, Nat.zero_add, x_K, x_Kn, Int.reduceToNat, Nat.reduceAdd, Nat.reduceMul, Nat.reduceLeDiff, Nat.reduceLT, Nat.zero_le, Int.reduceAdd, Int.reduceSub, Int.reduceMul, Int.reduceNeg, q_add_e, q_sub_e, q_mul_e, q_neg_e, q_upd_s, q_upd_n, zr_shr0, zr_shr1, zr_shr2, zr_shr3, zr_shr4, zr_and, zr_dyn8, zr_or, zr_shl, q_cpy_n, y_cpy26]
    exact hq
  rw [if_neg c4] at hq
  by_cases c5 : c ≤ 17
  · rw [if_pos c5] at hq
    simp (disch := omega) only [b_X6_rank_0, x_loadI_0, y_if_ne_t, y_if_ne_f, b_X6_rank_4, x_iconst, x_goto, b_X6_rank_8, y_ic_ne_t, y_ic_ne_f, b_X6_rank_14, b_X6_rank_18, b_X6_rank_24, b_X6_rank_28, b_X6_rank_34, b_X6_rank_38, y_ic_gt_t, y_ic_gt_f, b_X6_rank_44, b_X6_rank_48, b_X6_rank_54, b_X6_rank_58, b_X6_rank_64, b_X6_rank_69, b_X6_rank_71, x_ret0, q_isL_I, q_isL_R, q_isL_S, true_and, and_true, and_self, List.length_nil, List.length_cons, Nat.zero_add, x_K, x_Kn, Int.reduceToNat, Nat.reduceAdd, Nat.reduceMul, Nat.reduceLeDiff, Nat.reduceLT, Nat.zero_le, Int.reduceAdd, Int.reduceSub, Int.reduceMul, Int.reduceNeg, q_add_e, q_sub_e, q_mul_e, q_neg_e, q_upd_s, q_upd_n, zr_shr0, zr_shr1, zr_shr2, zr_shr3, zr_shr4, zr_and, zr_dyn8, zr_or, zr_shl, q_cpy_n, y_cpy26]
    exact hq
  rw [if_neg c5] at hq
  by_cases c6 : c = 18
  · rw [if_pos c6] at hq
    simp (disch := omega) only [b_X6_rank_0, x_loadI_0, y_if_ne_t, y_if_ne_f, b_X6_rank_4, x_iconst, x_goto, b_X6_rank_8, y_ic_ne_t, y_ic_ne_f, b_X6_rank_14, b_X6_rank_18, b_X6_rank_24, b_X6_rank_28, b_X6_rank_34, b_X6_rank_38, y_ic_gt_t, y_ic_gt_f, b_X6_rank_44, b_X6_rank_48, b_X6_rank_54, b_X6_rank_58, b_X6_rank_64, b_X6_rank_69, b_X6_rank_71, x_ret0, q_isL_I, q_isL_R, q_isL_S, true_and, and_true, and_self, List.length_nil, List.length_cons, Nat.zero_add, x_K, x_Kn, Int.reduceToNat, Nat.reduceAdd, Nat.reduceMul, Nat.reduceLeDiff, Nat.reduceLT, Nat.zero_le, Int.reduceAdd, Int.reduceSub, Int.reduceMul, Int.reduceNeg, q_add_e, q_sub_e, q_mul_e, q_neg_e, q_upd_s, q_upd_n, zr_shr0, zr_shr1, zr_shr2, zr_shr3, zr_shr4, zr_and, zr_dyn8, zr_or, zr_shl, q_cpy_n, y_cpy26]
    exact hq
  · rw [if_neg c6] at hq
    simp (disch := omega) only [b_X6_rank_0, x_loadI_0, y_if_ne_t, y_if_ne_f, b_X6_rank_4, x_iconst, x_goto, b_X6_rank_8, y_ic_ne_t, y_ic_ne_f, b_X6_rank_14, b_X6_rank_18, b_X6_rank_24, b_X6_rank_28, b_X6_rank_34, b_X6_rank_38, y_ic_gt_t, y_ic_gt_f, b_X6_rank_44, b_X6_rank_48, b_X6_rank_54, b_X6_rank_58, b_X6_rank_64, b_X6_rank_69, b_X6_rank_71, x_ret0, q_isL_I, q_isL_R, q_isL_S, true_and, and_true, and_self, List.length_nil, List.length_cons, Nat.zero_add, x_K, x_Kn, Int.reduceToNat, Nat.reduceAdd, Nat.reduceMul, Nat.reduceLeDiff, Nat.reduceLT, Nat.zero_le, Int.reduceAdd, Int.reduceSub, Int.reduceMul, Int.reduceNeg, q_add_e, q_sub_e, q_mul_e, q_neg_e, q_upd_s, q_upd_n, zr_shr0, zr_shr1, zr_shr2, zr_shr3, zr_shr4, zr_and, zr_dyn8, zr_or, zr_shl, q_cpy_n, y_cpy26]
    exact hq
theorem mp_puts {d tm o : Nat} {g : q_G} {M : q_M} {c : Int} {Q : Option q_V → q_G → q_M → Prop} (ht : M 100 10 = tm) (ht6 : tm < 6) (ho : M 100 27 = o) (ho2 : o < 200) (hq : Q none g (q_upd (q_upd M 106 (200 * tm + o) c) 100 27 ((o : Int) + 1))) : q_S 1 d 126 [qR 6 100, qI c] g M Q := by
  have t1 : (200 * (tm : Int) + (o : Int)).toNat = 200 * tm + o := by omega
  rw [s_X6_puts]
  simp (disch := omega) only [b_X6_puts_0, x_loadR_0, x_loadS_0, f_6_8, x_iconst, f_6_10, x_imul, f_6_27, x_iadd, x_loadI_1, y_iast_1220, x_dupI, x_dupR, p_6_27, x_vret, q_isL_I, q_isL_R, q_isL_S, true_and, and_true, and_self, List.length_nil, List.length_cons, Nat.zero_add, x_K, x_Kn, Int.reduceToNat, Nat.reduceAdd, Nat.reduceMul, Nat.reduceLeDiff, Nat.reduceLT, Nat.zero_le, Int.reduceAdd, Int.reduceSub, Int.reduceMul, Int.reduceNeg, q_add_e, q_sub_e, q_mul_e, q_neg_e, q_upd_s, q_upd_n, zr_shr0, zr_shr1, zr_shr2, zr_shr3, zr_shr4, zr_and, zr_dyn8, zr_or, zr_shl, q_cpy_n, y_cpy26, ht, ho, t1]
  exact hq
theorem mp_holds {d h : Nat} {g : q_G} {M : q_M} {c : Int} {Q : Option q_V → q_G → q_M → Prop} (hh : M 100 25 = h) (hh2 : h < 200) (hq : Q none g (q_upd (q_upd M 115 h c) 100 25 ((h : Int) + 1))) : q_S 1 d 128 [qR 6 100, qI c] g M Q := by
  rw [s_X6_holds]
  simp (disch := omega) only [b_X6_holds_0, x_loadR_0, x_loadS_0, f_6_24, f_6_25, x_loadI_1, y_iast_220, x_dupI, x_dupR, x_iconst, x_iadd, p_6_25, x_vret, q_isL_I, q_isL_R, q_isL_S, true_and, and_true, and_self, List.length_nil, List.length_cons, Nat.zero_add, x_K, x_Kn, Int.reduceToNat, Nat.reduceAdd, Nat.reduceMul, Nat.reduceLeDiff, Nat.reduceLT, Nat.zero_le, Int.reduceAdd, Int.reduceSub, Int.reduceMul, Int.reduceNeg, q_add_e, q_sub_e, q_mul_e, q_neg_e, q_upd_s, q_upd_n, zr_shr0, zr_shr1, zr_shr2, zr_shr3, zr_shr4, zr_and, zr_dyn8, zr_or, zr_shl, q_cpy_n, y_cpy26, hh, Int.toNat_natCast]
  exact hq
/-- what the held and the code's end change -/
def q_ufr (tm s : Nat) (M M2 : q_M) : Prop := ∀ a i, (a = 106 → i < 200 * tm + s ∨ 200 * tm + 200 ≤ i) → (a = 100 → i ≠ 25 ∧ i ≠ 26 ∧ i ≠ 27) → a ≠ 115 → M2 a i = M a i
theorem q_ufr_rf {tm s : Nat} {M : q_M} : q_ufr tm s M M := fun _ _ _ _ _ => rfl
theorem q_ufr_tr {tm s : Nat} {M M2 M3 : q_M} (h : q_ufr tm s M M2) (h2 : q_ufr tm s M2 M3) : q_ufr tm s M M3 := fun a i q1 q2 q3 => (h2 a i q1 q2 q3).trans (h a i q1 q2 q3)
theorem q_ufr_up {tm s a i : Nat} {v : Int} {M M2 : q_M} (h : q_ufr tm s M M2) (hi : (a = 106 ∧ 200 * tm + s ≤ i ∧ i < 200 * tm + 200) ∨ (a = 100 ∧ (i = 25 ∨ i = 26 ∨ i = 27)) ∨ a = 115) : q_ufr tm s M (q_upd M2 a i v) := fun b j q1 q2 q3 => (q_upd_n (by
  by_cases e : b = a
  · exact Or.inr (fun e2 => by subst e; subst e2; omega)
  · exact Or.inl e)).trans (h b j q1 q2 q3)
def F_un (D : Nat → Nat) (p n : Nat) : Nat → Nat := fun i => if i = p then n else D i
theorem q_wfP_ext {C C' : Nat → Int} {s o n : Nat} {D : Nat → Nat} (hw : q_wfP C s o D) (hs : s ≤ o) (hc : ∀ i, s ≤ i → i < o → C' i = C i) (hst : (q_pu (C' o) ∧ n = D o + 1) ∨ (q_una (C' o) ∧ 1 ≤ D o ∧ n = D o) ∨ (q_bi (C' o) ∧ 2 ≤ D o ∧ n + 1 = D o)) : q_wfP C' s (o + 1) (F_un D (o + 1) n) := by
  have f1 : F_un D (o + 1) n (o + 1) = n := if_pos rfl
  have f2 : ∀ i, i ≤ o → F_un D (o + 1) n i = D i := fun i hi => if_neg (by omega)
  refine ⟨(f2 s hs).trans hw.1, fun i hi hio => ?_⟩
  by_cases e : i = o
  · subst e
    rw [f1, f2 i (by omega)]
    exact hst
  · rw [f2 (i + 1) (by omega), f2 i (by omega), hc i hi (by omega)]
    exact hw.2 i hi (by omega)
theorem F_un_s {D : Nat → Nat} {p n : Nat} : F_un D p n p = n := if_pos rfl
end
