/-! THE MODEL: goes, wishes, who is in what, who is last, whom a building takes -/
set_option maxHeartbeats 4000000 in
theorem mp_goes {V : Nat → (Nat → Int) → Int} {d : Nat} {g : q_G} {M : q_M} {p : Nat} {Q : Option q_V → q_G → q_M → Prop} (hm : q_ml V M) (hp : p < (M 100 0).toNat) (hq : ∀ M2 : q_M, q_mf M M2 → Q (some (qI (F_goes V (mW M) p))) g M2) : q_S 1 (d + 3) 143 [qR 6 100, qI p] g M Q := by
  have hm2 := hm
  obtain ⟨⟨r0, r1, r2, r3, r4, r5, r6, r7, r8, r9, ra⟩, hV, hl⟩ := hm2
  have hp5 : p < 5 := by omega
  have hk := r2 p hp5
  have hmo := r3 p hp5
  have asks : ∀ (nx : Nat) (ops : List Instr) (ls st : List q_V), (∀ M2 : q_M, q_mf M M2 → q_T 1 (d + 3) qP_X6_goesOf nx ops ls (qI (F_says V (mW M) 2 p 5) :: st) g M2 Q) → q_S 1 (d + 2) 137 [qR 6 100, qI 2, qI p, qI (-1)] g M (q_K 1 (d + 3) qP_X6_goesOf nx ops ls st Q) := fun nx ops ls st h => mp_asks (part := 2) hm (by omega) hp (Or.inl rfl) (by rw [if_pos rfl]; exact h)
  rw [s_X6_goesOf]
  simp (disch := omega) only [b_X6_goesOf_0, x_loadR_0, x_loadS_0, x_iconst, x_loadI_1, x_storeI_2, f_6_5, y_ic_ge_t, y_ic_ge_f, b_X6_goesOf_17, x_goto, b_X6_goesOf_21, x_loadI_2, b_X6_goesOf_22, x_storeI_3, f_6_1, y_iald_25, tw_12_1, tw_12_2, tw_12_3, tw_12_4, tw_12_5, tw_12_o, b_X6_goesOf_64, x_loadI_3, x_ret0, b_X6_goesOf_66, y_idiv, b_X6_goesOf_70, f_6_2, x_iadd, b_X6_goesOf_79, b_X6_goesOf_81, q_isL_I, q_isL_R, q_isL_S, true_and, and_true, and_self, List.length_nil, List.length_cons, Nat.zero_add, x_K, x_Kn, Int.reduceToNat, Nat.reduceAdd, Nat.reduceMul, Nat.reduceLeDiff, Nat.reduceLT, Nat.zero_le, Int.reduceAdd, Int.reduceSub, Int.reduceMul, Int.reduceNeg, q_add_e, q_sub_e, q_mul_e, q_neg_e, q_upd_s, q_upd_n, zr_shr0, zr_shr1, zr_shr2, zr_shr3, zr_shr4, zr_and, zr_dyn8, zr_or, zr_shl, q_cpy_n, y_cpy26, c_X6_asksOf]
  refine asks _ _ _ _ (fun M2 hf => ?_)
  have e1 : M2 101 p = M 101 p := hf _ _ (by omega) (by omega)
  have e2 : M2 102 p = M 102 p := hf _ _ (by omega) (by omega)
  have e5 : M2 100 5 = M 100 5 := hf _ _ (by omega) (by omega)
  have h9 := hq M2 hf
  have sl := F_says_le (V := V) (S := mW M) (part := 2) (p := p) (b := 5)
  have hh := q_half (x := F_says V (mW M) 2 p 5) (by omega) (by omega)
  have sl2 := sl.2.2 rfl
  unfold F_goes at h9
  rw [mW_0 hp, mW_1 hp, mW_91] at h9
  rcases (show M 101 p = 0 ∨ M 101 p = 1 ∨ M 101 p = 2 ∨ M 101 p = 3 ∨ M 101 p = 4 ∨ M 101 p = 5 by omega) with k | k | k | k | k | k
  · rw [k, if_neg (by omega), if_neg (by omega), if_neg (by omega), if_neg (by omega)] at h9
    by_cases c : M 100 5 < 10
    · simp (disch := omega) only [b_X6_goesOf_0, x_loadR_0, x_loadS_0, x_iconst, x_loadI_1, x_storeI_2, f_6_5, y_ic_ge_t, y_ic_ge_f, b_X6_goesOf_17, x_goto, b_X6_goesOf_21, x_loadI_2, b_X6_goesOf_22, x_storeI_3, f_6_1, y_iald_25, tw_12_1, tw_12_2, tw_12_3, tw_12_4, tw_12_5, tw_12_o, b_X6_goesOf_64, x_loadI_3, x_ret0, b_X6_goesOf_66, y_idiv, b_X6_goesOf_70, f_6_2, x_iadd, b_X6_goesOf_79, b_X6_goesOf_81, q_isL_I, q_isL_R, q_isL_S, true_and, and_true, and_self, List.length_nil, List.length_cons, Nat.zero_add, x_K, x_Kn, Int.reduceToNat, Nat.reduceAdd, Nat.reduceMul, Nat.reduceLeDiff, Nat.reduceLT, Nat.zero_le, Int.reduceAdd, Int.reduceSub, Int.reduceMul, Int.reduceNeg, q_add_e, q_sub_e, q_mul_e, q_neg_e, q_upd_s, q_upd_n, zr_shr0, zr_shr1, zr_shr2, zr_shr3, zr_shr4, zr_and, zr_dyn8, zr_or, zr_shl, q_cpy_n, y_cpy26, Int.toNat_natCast, e1, e5, k]
      exact h9
    · simp (disch := omega) only [b_X6_goesOf_0, x_loadR_0, x_loadS_0, x_iconst, x_loadI_1, x_storeI_2, f_6_5, y_ic_ge_t, y_ic_ge_f, b_X6_goesOf_17, x_goto, b_X6_goesOf_21, x_loadI_2, b_X6_goesOf_22, x_storeI_3, f_6_1, y_iald_25, tw_12_1, tw_12_2, tw_12_3, tw_12_4, tw_12_5, tw_12_o, b_X6_goesOf_64, x_loadI_3, x_ret0, b_X6_goesOf_66, y_idiv, b_X6_goesOf_70, f_6_2, x_iadd, b_X6_goesOf_79, b_X6_goesOf_81, q_isL_I, q_isL_R, q_isL_S, true_and, and_true, and_self, List.length_nil, List.length_cons, Nat.zero_add, x_K, x_Kn, Int.reduceToNat, Nat.reduceAdd, Nat.reduceMul, Nat.reduceLeDiff, Nat.reduceLT, Nat.zero_le, Int.reduceAdd, Int.reduceSub, Int.reduceMul, Int.reduceNeg, q_add_e, q_sub_e, q_mul_e, q_neg_e, q_upd_s, q_upd_n, zr_shr0, zr_shr1, zr_shr2, zr_shr3, zr_shr4, zr_and, zr_dyn8, zr_or, zr_shl, q_cpy_n, y_cpy26, Int.toNat_natCast, e1, e5, k]
      exact h9
  · rw [k, if_neg (by omega), if_pos (by omega)] at h9
    by_cases c : M 100 5 < 10
    · rw [if_pos c] at h9
      simp (disch := omega) only [b_X6_goesOf_0, x_loadR_0, x_loadS_0, x_iconst, x_loadI_1, x_storeI_2, f_6_5, y_ic_ge_t, y_ic_ge_f, b_X6_goesOf_17, x_goto, b_X6_goesOf_21, x_loadI_2, b_X6_goesOf_22, x_storeI_3, f_6_1, y_iald_25, tw_12_1, tw_12_2, tw_12_3, tw_12_4, tw_12_5, tw_12_o, b_X6_goesOf_64, x_loadI_3, x_ret0, b_X6_goesOf_66, y_idiv, b_X6_goesOf_70, f_6_2, x_iadd, b_X6_goesOf_79, b_X6_goesOf_81, q_isL_I, q_isL_R, q_isL_S, true_and, and_true, and_self, List.length_nil, List.length_cons, Nat.zero_add, x_K, x_Kn, Int.reduceToNat, Nat.reduceAdd, Nat.reduceMul, Nat.reduceLeDiff, Nat.reduceLT, Nat.zero_le, Int.reduceAdd, Int.reduceSub, Int.reduceMul, Int.reduceNeg, q_add_e, q_sub_e, q_mul_e, q_neg_e, q_upd_s, q_upd_n, zr_shr0, zr_shr1, zr_shr2, zr_shr3, zr_shr4, zr_and, zr_dyn8, zr_or, zr_shl, q_cpy_n, y_cpy26, Int.toNat_natCast, e1, e5, k]
      exact h9
    · rw [if_neg c] at h9
      simp (disch := omega) only [b_X6_goesOf_0, x_loadR_0, x_loadS_0, x_iconst, x_loadI_1, x_storeI_2, f_6_5, y_ic_ge_t, y_ic_ge_f, b_X6_goesOf_17, x_goto, b_X6_goesOf_21, x_loadI_2, b_X6_goesOf_22, x_storeI_3, f_6_1, y_iald_25, tw_12_1, tw_12_2, tw_12_3, tw_12_4, tw_12_5, tw_12_o, b_X6_goesOf_64, x_loadI_3, x_ret0, b_X6_goesOf_66, y_idiv, b_X6_goesOf_70, f_6_2, x_iadd, b_X6_goesOf_79, b_X6_goesOf_81, q_isL_I, q_isL_R, q_isL_S, true_and, and_true, and_self, List.length_nil, List.length_cons, Nat.zero_add, x_K, x_Kn, Int.reduceToNat, Nat.reduceAdd, Nat.reduceMul, Nat.reduceLeDiff, Nat.reduceLT, Nat.zero_le, Int.reduceAdd, Int.reduceSub, Int.reduceMul, Int.reduceNeg, q_add_e, q_sub_e, q_mul_e, q_neg_e, q_upd_s, q_upd_n, zr_shr0, zr_shr1, zr_shr2, zr_shr3, zr_shr4, zr_and, zr_dyn8, zr_or, zr_shl, q_cpy_n, y_cpy26, Int.toNat_natCast, e1, e5, k]
      exact h9
  · rw [k, if_neg (by omega), if_neg (by omega), if_neg (by omega), if_pos (by omega)] at h9
    by_cases c : M 100 5 < 10
    · simp (disch := omega) only [b_X6_goesOf_0, x_loadR_0, x_loadS_0, x_iconst, x_loadI_1, x_storeI_2, f_6_5, y_ic_ge_t, y_ic_ge_f, b_X6_goesOf_17, x_goto, b_X6_goesOf_21, x_loadI_2, b_X6_goesOf_22, x_storeI_3, f_6_1, y_iald_25, tw_12_1, tw_12_2, tw_12_3, tw_12_4, tw_12_5, tw_12_o, b_X6_goesOf_64, x_loadI_3, x_ret0, b_X6_goesOf_66, y_idiv, b_X6_goesOf_70, f_6_2, x_iadd, b_X6_goesOf_79, b_X6_goesOf_81, q_isL_I, q_isL_R, q_isL_S, true_and, and_true, and_self, List.length_nil, List.length_cons, Nat.zero_add, x_K, x_Kn, Int.reduceToNat, Nat.reduceAdd, Nat.reduceMul, Nat.reduceLeDiff, Nat.reduceLT, Nat.zero_le, Int.reduceAdd, Int.reduceSub, Int.reduceMul, Int.reduceNeg, q_add_e, q_sub_e, q_mul_e, q_neg_e, q_upd_s, q_upd_n, zr_shr0, zr_shr1, zr_shr2, zr_shr3, zr_shr4, zr_and, zr_dyn8, zr_or, zr_shl, q_cpy_n, y_cpy26, Int.toNat_natCast, e1, e5, k, hh]
      exact h9
    · simp (disch := omega) only [b_X6_goesOf_0, x_loadR_0, x_loadS_0, x_iconst, x_loadI_1, x_storeI_2, f_6_5, y_ic_ge_t, y_ic_ge_f, b_X6_goesOf_17, x_goto, b_X6_goesOf_21, x_loadI_2, b_X6_goesOf_22, x_storeI_3, f_6_1, y_iald_25, tw_12_1, tw_12_2, tw_12_3, tw_12_4, tw_12_5, tw_12_o, b_X6_goesOf_64, x_loadI_3, x_ret0, b_X6_goesOf_66, y_idiv, b_X6_goesOf_70, f_6_2, x_iadd, b_X6_goesOf_79, b_X6_goesOf_81, q_isL_I, q_isL_R, q_isL_S, true_and, and_true, and_self, List.length_nil, List.length_cons, Nat.zero_add, x_K, x_Kn, Int.reduceToNat, Nat.reduceAdd, Nat.reduceMul, Nat.reduceLeDiff, Nat.reduceLT, Nat.zero_le, Int.reduceAdd, Int.reduceSub, Int.reduceMul, Int.reduceNeg, q_add_e, q_sub_e, q_mul_e, q_neg_e, q_upd_s, q_upd_n, zr_shr0, zr_shr1, zr_shr2, zr_shr3, zr_shr4, zr_and, zr_dyn8, zr_or, zr_shl, q_cpy_n, y_cpy26, Int.toNat_natCast, e1, e5, k, hh]
      exact h9
  · rw [k, if_neg (by omega), if_neg (by omega), if_pos (by omega)] at h9
    by_cases c : M 100 5 < 10
    · rw [if_pos c] at h9
      simp (disch := omega) only [b_X6_goesOf_0, x_loadR_0, x_loadS_0, x_iconst, x_loadI_1, x_storeI_2, f_6_5, y_ic_ge_t, y_ic_ge_f, b_X6_goesOf_17, x_goto, b_X6_goesOf_21, x_loadI_2, b_X6_goesOf_22, x_storeI_3, f_6_1, y_iald_25, tw_12_1, tw_12_2, tw_12_3, tw_12_4, tw_12_5, tw_12_o, b_X6_goesOf_64, x_loadI_3, x_ret0, b_X6_goesOf_66, y_idiv, b_X6_goesOf_70, f_6_2, x_iadd, b_X6_goesOf_79, b_X6_goesOf_81, q_isL_I, q_isL_R, q_isL_S, true_and, and_true, and_self, List.length_nil, List.length_cons, Nat.zero_add, x_K, x_Kn, Int.reduceToNat, Nat.reduceAdd, Nat.reduceMul, Nat.reduceLeDiff, Nat.reduceLT, Nat.zero_le, Int.reduceAdd, Int.reduceSub, Int.reduceMul, Int.reduceNeg, q_add_e, q_sub_e, q_mul_e, q_neg_e, q_upd_s, q_upd_n, zr_shr0, zr_shr1, zr_shr2, zr_shr3, zr_shr4, zr_and, zr_dyn8, zr_or, zr_shl, q_cpy_n, y_cpy26, Int.toNat_natCast, e1, e2, e5, k]
      exact h9
    · rw [if_neg c] at h9
      simp (disch := omega) only [b_X6_goesOf_0, x_loadR_0, x_loadS_0, x_iconst, x_loadI_1, x_storeI_2, f_6_5, y_ic_ge_t, y_ic_ge_f, b_X6_goesOf_17, x_goto, b_X6_goesOf_21, x_loadI_2, b_X6_goesOf_22, x_storeI_3, f_6_1, y_iald_25, tw_12_1, tw_12_2, tw_12_3, tw_12_4, tw_12_5, tw_12_o, b_X6_goesOf_64, x_loadI_3, x_ret0, b_X6_goesOf_66, y_idiv, b_X6_goesOf_70, f_6_2, x_iadd, b_X6_goesOf_79, b_X6_goesOf_81, q_isL_I, q_isL_R, q_isL_S, true_and, and_true, and_self, List.length_nil, List.length_cons, Nat.zero_add, x_K, x_Kn, Int.reduceToNat, Nat.reduceAdd, Nat.reduceMul, Nat.reduceLeDiff, Nat.reduceLT, Nat.zero_le, Int.reduceAdd, Int.reduceSub, Int.reduceMul, Int.reduceNeg, q_add_e, q_sub_e, q_mul_e, q_neg_e, q_upd_s, q_upd_n, zr_shr0, zr_shr1, zr_shr2, zr_shr3, zr_shr4, zr_and, zr_dyn8, zr_or, zr_shl, q_cpy_n, y_cpy26, Int.toNat_natCast, e1, e2, e5, k]
      exact h9
  · rw [k, if_neg (by omega), if_neg (by omega), if_neg (by omega), if_pos (by omega)] at h9
    by_cases c : M 100 5 < 10
    · simp (disch := omega) only [b_X6_goesOf_0, x_loadR_0, x_loadS_0, x_iconst, x_loadI_1, x_storeI_2, f_6_5, y_ic_ge_t, y_ic_ge_f, b_X6_goesOf_17, x_goto, b_X6_goesOf_21, x_loadI_2, b_X6_goesOf_22, x_storeI_3, f_6_1, y_iald_25, tw_12_1, tw_12_2, tw_12_3, tw_12_4, tw_12_5, tw_12_o, b_X6_goesOf_64, x_loadI_3, x_ret0, b_X6_goesOf_66, y_idiv, b_X6_goesOf_70, f_6_2, x_iadd, b_X6_goesOf_79, b_X6_goesOf_81, q_isL_I, q_isL_R, q_isL_S, true_and, and_true, and_self, List.length_nil, List.length_cons, Nat.zero_add, x_K, x_Kn, Int.reduceToNat, Nat.reduceAdd, Nat.reduceMul, Nat.reduceLeDiff, Nat.reduceLT, Nat.zero_le, Int.reduceAdd, Int.reduceSub, Int.reduceMul, Int.reduceNeg, q_add_e, q_sub_e, q_mul_e, q_neg_e, q_upd_s, q_upd_n, zr_shr0, zr_shr1, zr_shr2, zr_shr3, zr_shr4, zr_and, zr_dyn8, zr_or, zr_shl, q_cpy_n, y_cpy26, Int.toNat_natCast, e1, e5, k, hh]
      exact h9
    · simp (disch := omega) only [b_X6_goesOf_0, x_loadR_0, x_loadS_0, x_iconst, x_loadI_1, x_storeI_2, f_6_5, y_ic_ge_t, y_ic_ge_f, b_X6_goesOf_17, x_goto, b_X6_goesOf_21, x_loadI_2, b_X6_goesOf_22, x_storeI_3, f_6_1, y_iald_25, tw_12_1, tw_12_2, tw_12_3, tw_12_4, tw_12_5, tw_12_o, b_X6_goesOf_64, x_loadI_3, x_ret0, b_X6_goesOf_66, y_idiv, b_X6_goesOf_70, f_6_2, x_iadd, b_X6_goesOf_79, b_X6_goesOf_81, q_isL_I, q_isL_R, q_isL_S, true_and, and_true, and_self, List.length_nil, List.length_cons, Nat.zero_add, x_K, x_Kn, Int.reduceToNat, Nat.reduceAdd, Nat.reduceMul, Nat.reduceLeDiff, Nat.reduceLT, Nat.zero_le, Int.reduceAdd, Int.reduceSub, Int.reduceMul, Int.reduceNeg, q_add_e, q_sub_e, q_mul_e, q_neg_e, q_upd_s, q_upd_n, zr_shr0, zr_shr1, zr_shr2, zr_shr3, zr_shr4, zr_and, zr_dyn8, zr_or, zr_shl, q_cpy_n, y_cpy26, Int.toNat_natCast, e1, e5, k, hh]
      exact h9
  · rw [k, if_pos rfl] at h9
    by_cases c : M 100 5 < 10
    · simp (disch := omega) only [b_X6_goesOf_0, x_loadR_0, x_loadS_0, x_iconst, x_loadI_1, x_storeI_2, f_6_5, y_ic_ge_t, y_ic_ge_f, b_X6_goesOf_17, x_goto, b_X6_goesOf_21, x_loadI_2, b_X6_goesOf_22, x_storeI_3, f_6_1, y_iald_25, tw_12_1, tw_12_2, tw_12_3, tw_12_4, tw_12_5, tw_12_o, b_X6_goesOf_64, x_loadI_3, x_ret0, b_X6_goesOf_66, y_idiv, b_X6_goesOf_70, f_6_2, x_iadd, b_X6_goesOf_79, b_X6_goesOf_81, q_isL_I, q_isL_R, q_isL_S, true_and, and_true, and_self, List.length_nil, List.length_cons, Nat.zero_add, x_K, x_Kn, Int.reduceToNat, Nat.reduceAdd, Nat.reduceMul, Nat.reduceLeDiff, Nat.reduceLT, Nat.zero_le, Int.reduceAdd, Int.reduceSub, Int.reduceMul, Int.reduceNeg, q_add_e, q_sub_e, q_mul_e, q_neg_e, q_upd_s, q_upd_n, zr_shr0, zr_shr1, zr_shr2, zr_shr3, zr_shr4, zr_and, zr_dyn8, zr_or, zr_shl, q_cpy_n, y_cpy26, Int.toNat_natCast, e1, e5, k]
      exact h9
    · simp (disch := omega) only [b_X6_goesOf_0, x_loadR_0, x_loadS_0, x_iconst, x_loadI_1, x_storeI_2, f_6_5, y_ic_ge_t, y_ic_ge_f, b_X6_goesOf_17, x_goto, b_X6_goesOf_21, x_loadI_2, b_X6_goesOf_22, x_storeI_3, f_6_1, y_iald_25, tw_12_1, tw_12_2, tw_12_3, tw_12_4, tw_12_5, tw_12_o, b_X6_goesOf_64, x_loadI_3, x_ret0, b_X6_goesOf_66, y_idiv, b_X6_goesOf_70, f_6_2, x_iadd, b_X6_goesOf_79, b_X6_goesOf_81, q_isL_I, q_isL_R, q_isL_S, true_and, and_true, and_self, List.length_nil, List.length_cons, Nat.zero_add, x_K, x_Kn, Int.reduceToNat, Nat.reduceAdd, Nat.reduceMul, Nat.reduceLeDiff, Nat.reduceLT, Nat.zero_le, Int.reduceAdd, Int.reduceSub, Int.reduceMul, Int.reduceNeg, q_add_e, q_sub_e, q_mul_e, q_neg_e, q_upd_s, q_upd_n, zr_shr0, zr_shr1, zr_shr2, zr_shr3, zr_shr4, zr_and, zr_dyn8, zr_or, zr_shl, q_cpy_n, y_cpy26, Int.toNat_natCast, e1, e5, k]
      exact h9
def m_no (x : Nat) : Int := if x = 5 then -1 else x
set_option maxHeartbeats 4000000 in
theorem mp_wish {V : Nat → (Nat → Int) → Int} {d : Nat} {g : q_G} {M : q_M} {p : Nat} {Q : Option q_V → q_G → q_M → Prop} (hm : q_ml V M) (hp : p < (M 100 0).toNat) (hq : ∀ M2 : q_M, q_mf M M2 → Q (some (qI (m_no (F_wish V (mW M) p)))) g M2) : q_S 1 (d + 4) 144 [qR 6 100, qI p] g M Q := by
  rw [s_X6_wishOf]
  have loop : ∀ j k : Nat, k + j = 5 → ∀ (M1 : q_M) (l5 : q_V), q_isL l5 = false → q_mf M M1 → q_T 1 (d + 4) qP_X6_wishOf 7 [] [qR 6 100, qI p, qI (m_no (F_best (F_likes V (mW M) p) (fun _ => true) k).1), qI (F_best (F_likes V (mW M) p) (fun _ => true) k).2, qI k, l5] [] g M1 Q := by
    intro j
    induction j with
    | zero =>
      intro k hk M1 l5 hl5 hf
      have e : k = 5 := by omega
      subst e
      rw [b_X6_wishOf_7]
      simp (disch := omega) only [b_X6_wishOf_0, x_iconst, x_storeI_2, x_storeI_3, x_storeI_4, x_loadI_4, y_ic_ge_t, y_ic_ge_f, b_X6_wishOf_13, x_loadR_0, x_loadS_0, x_loadI_1, x_storeI_5, x_loadI_5, x_loadI_3, y_ic_le_t, y_ic_le_f, b_X6_wishOf_28, x_goto, b_X6_wishOf_33, x_loadI_2, b_X6_wishOf_34, b_X6_wishOf_41, b_X6_wishOf_46, b_X6_wishOf_47, x_iinc_4, b_X6_wishOf_54, x_ret0, q_isL_I, q_isL_R, q_isL_S, true_and, and_true, and_self, List.length_nil, List.length_cons, Nat.zero_add, x_K, x_Kn, Int.reduceToNat, Nat.reduceAdd, Nat.reduceMul, Nat.reduceLeDiff, Nat.reduceLT, Nat.zero_le, Int.reduceAdd, Int.reduceSub, Int.reduceMul, Int.reduceNeg, q_add_e, q_sub_e, q_mul_e, q_neg_e, q_upd_s, q_upd_n, zr_shr0, zr_shr1, zr_shr2, zr_shr3, zr_shr4, zr_and, zr_dyn8, zr_or, zr_shl, q_cpy_n, y_cpy26]
      exact hq M1 hf
    | succ j ih =>
      intro k hk M1 l5 hl5 hf
      have ih2 := ih (k + 1) (by omega)
      rw [F_best] at ih2
      have likes : ∀ (nx : Nat) (ops : List Instr) (ls st : List q_V), (∀ M2 : q_M, q_mf M M2 → q_T 1 (d + 4) qP_X6_wishOf nx ops ls (qI (F_likes V (mW M) p k) :: st) g M2 Q) → q_S 1 (d + 3) 141 [qR 6 100, qI p, qI k] g M1 (q_K 1 (d + 4) qP_X6_wishOf nx ops ls st Q) := fun nx ops ls st h => mp_likes (q_mf_ml hf hm) (by rw [hf 100 0 (by omega) (by omega)]; exact hp) (by omega) (fun M2 h2 => by rw [q_mf_mW hf]; exact h M2 (q_mf_tr hf h2))
      rw [b_X6_wishOf_7]
      simp (disch := omega) only [b_X6_wishOf_0, x_iconst, x_storeI_2, x_storeI_3, x_storeI_4, x_loadI_4, y_ic_ge_t, y_ic_ge_f, b_X6_wishOf_13, x_loadR_0, x_loadS_0, x_loadI_1, x_storeI_5, x_loadI_5, x_loadI_3, y_ic_le_t, y_ic_le_f, b_X6_wishOf_28, x_goto, b_X6_wishOf_33, x_loadI_2, b_X6_wishOf_34, b_X6_wishOf_41, b_X6_wishOf_46, b_X6_wishOf_47, x_iinc_4, b_X6_wishOf_54, x_ret0, q_isL_I, q_isL_R, q_isL_S, true_and, and_true, and_self, List.length_nil, List.length_cons, Nat.zero_add, x_K, x_Kn, Int.reduceToNat, Nat.reduceAdd, Nat.reduceMul, Nat.reduceLeDiff, Nat.reduceLT, Nat.zero_le, Int.reduceAdd, Int.reduceSub, Int.reduceMul, Int.reduceNeg, q_add_e, q_sub_e, q_mul_e, q_neg_e, q_upd_s, q_upd_n, zr_shr0, zr_shr1, zr_shr2, zr_shr3, zr_shr4, zr_and, zr_dyn8, zr_or, zr_shl, q_cpy_n, y_cpy26, c_X6_likesOf]
      refine likes _ _ _ _ (fun M2 h2 => ?_)
      by_cases c : (F_best (F_likes V (mW M) p) (fun _ => true) k).2 < F_likes V (mW M) p k
      · rw [if_pos ⟨rfl, c⟩] at ih2
        have e : m_no k = (k : Int) := if_neg (by omega)
        simp only [e] at ih2
        simp (disch := omega) only [b_X6_wishOf_0, x_iconst, x_storeI_2, x_storeI_3, x_storeI_4, x_loadI_4, y_ic_ge_t, y_ic_ge_f, b_X6_wishOf_13, x_loadR_0, x_loadS_0, x_loadI_1, x_storeI_5, x_loadI_5, x_loadI_3, y_ic_le_t, y_ic_le_f, b_X6_wishOf_28, x_goto, b_X6_wishOf_33, x_loadI_2, b_X6_wishOf_34, b_X6_wishOf_41, b_X6_wishOf_46, b_X6_wishOf_47, x_iinc_4, b_X6_wishOf_54, x_ret0, q_isL_I, q_isL_R, q_isL_S, true_and, and_true, and_self, List.length_nil, List.length_cons, Nat.zero_add, x_K, x_Kn, Int.reduceToNat, Nat.reduceAdd, Nat.reduceMul, Nat.reduceLeDiff, Nat.reduceLT, Nat.zero_le, Int.reduceAdd, Int.reduceSub, Int.reduceMul, Int.reduceNeg, q_add_e, q_sub_e, q_mul_e, q_neg_e, q_upd_s, q_upd_n, zr_shr0, zr_shr1, zr_shr2, zr_shr3, zr_shr4, zr_and, zr_dyn8, zr_or, zr_shl, q_cpy_n, y_cpy26, hl5]
        exact ih2 M2 _ rfl h2
      · rw [if_neg (fun z => c z.2)] at ih2
        simp (disch := omega) only [b_X6_wishOf_0, x_iconst, x_storeI_2, x_storeI_3, x_storeI_4, x_loadI_4, y_ic_ge_t, y_ic_ge_f, b_X6_wishOf_13, x_loadR_0, x_loadS_0, x_loadI_1, x_storeI_5, x_loadI_5, x_loadI_3, y_ic_le_t, y_ic_le_f, b_X6_wishOf_28, x_goto, b_X6_wishOf_33, x_loadI_2, b_X6_wishOf_34, b_X6_wishOf_41, b_X6_wishOf_46, b_X6_wishOf_47, x_iinc_4, b_X6_wishOf_54, x_ret0, q_isL_I, q_isL_R, q_isL_S, true_and, and_true, and_self, List.length_nil, List.length_cons, Nat.zero_add, x_K, x_Kn, Int.reduceToNat, Nat.reduceAdd, Nat.reduceMul, Nat.reduceLeDiff, Nat.reduceLT, Nat.zero_le, Int.reduceAdd, Int.reduceSub, Int.reduceMul, Int.reduceNeg, q_add_e, q_sub_e, q_mul_e, q_neg_e, q_upd_s, q_upd_n, zr_shr0, zr_shr1, zr_shr2, zr_shr3, zr_shr4, zr_and, zr_dyn8, zr_or, zr_shl, q_cpy_n, y_cpy26, hl5]
        exact ih2 M2 _ rfl h2
  simp (disch := omega) only [b_X6_wishOf_0, x_iconst, x_storeI_2, x_storeI_3, x_storeI_4, x_loadI_4, y_ic_ge_t, y_ic_ge_f, b_X6_wishOf_13, x_loadR_0, x_loadS_0, x_loadI_1, x_storeI_5, x_loadI_5, x_loadI_3, y_ic_le_t, y_ic_le_f, b_X6_wishOf_28, x_goto, b_X6_wishOf_33, x_loadI_2, b_X6_wishOf_34, b_X6_wishOf_41, b_X6_wishOf_46, b_X6_wishOf_47, x_iinc_4, b_X6_wishOf_54, x_ret0, q_isL_I, q_isL_R, q_isL_S, true_and, and_true, and_self, List.length_nil, List.length_cons, Nat.zero_add, x_K, x_Kn, Int.reduceToNat, Nat.reduceAdd, Nat.reduceMul, Nat.reduceLeDiff, Nat.reduceLT, Nat.zero_le, Int.reduceAdd, Int.reduceSub, Int.reduceMul, Int.reduceNeg, q_add_e, q_sub_e, q_mul_e, q_neg_e, q_upd_s, q_upd_n, zr_shr0, zr_shr1, zr_shr2, zr_shr3, zr_shr4, zr_and, zr_dyn8, zr_or, zr_shl, q_cpy_n, y_cpy26]
  exact loop 5 0 rfl M _ rfl q_mf_rf
theorem mp_outside {d : Nat} {g : q_G} {M : q_M} (h0 : 0 ≤ M 100 0) (h5 : M 100 0 ≤ 5) (hin : ∀ i, i < 5 → -1 ≤ M 104 (3 * i + 2) ∧ M 104 (3 * i + 2) ≤ 4) (Q : Option q_V → q_G → q_M → Prop) : q_S 1 d 114 [qR 6 100] g M Q = Q (some (qI (F_cnt (mIn M) 5 (M 100 0).toNat))) g M := by
  refine q_S_eq (fun Q hq => ?_) Q
  rw [s_X6_outside]
  have loop : ∀ j k : Nat, k + j = (M 100 0).toNat → q_T 1 d qP_X6_outside 4 [] [qR 6 100, qI (F_cnt (mIn M) 5 k), qI k] [] g M Q := by
    intro j
    induction j with
    | zero =>
      intro k hk
      have e : k = (M 100 0).toNat := by omega
      rw [← e] at hq
      rw [b_X6_outside_4]
      simp (disch := omega) only [b_X6_outside_0, x_iconst, x_storeI_1, x_storeI_2, x_loadI_2, x_loadR_0, x_loadS_0, f_6_0, y_ic_ge_t, y_ic_ge_f, b_X6_outside_12, x_loadI_1, f_6_4, x_imul, x_iadd, y_iald_35, y_ic_ne_t, y_ic_ne_f, b_X6_outside_27, x_goto, b_X6_outside_31, b_X6_outside_32, x_iinc_2, b_X6_outside_40, x_ret0, q_isL_I, q_isL_R, q_isL_S, true_and, and_true, and_self, List.length_nil, List.length_cons, Nat.zero_add, x_K, x_Kn, Int.reduceToNat, Nat.reduceAdd, Nat.reduceMul, Nat.reduceLeDiff, Nat.reduceLT, Nat.zero_le, Int.reduceAdd, Int.reduceSub, Int.reduceMul, Int.reduceNeg, q_add_e, q_sub_e, q_mul_e, q_neg_e, q_upd_s, q_upd_n, zr_shr0, zr_shr1, zr_shr2, zr_shr3, zr_shr4, zr_and, zr_dyn8, zr_or, zr_shl, q_cpy_n, y_cpy26]
      exact hq
    | succ j ih =>
      intro k hk
      have hi := hin k (by omega)
      have hc := F_cnt_le (mIn M) 5 k
      have ih2 := ih (k + 1) (by omega)
      rw [F_cnt] at ih2
      rw [b_X6_outside_4]
      by_cases c : M 104 (3 * k + 2) = -1
      · rw [if_pos (show mIn M k = 5 from if_pos c)] at ih2
        simp (disch := omega) only [b_X6_outside_0, x_iconst, x_storeI_1, x_storeI_2, x_loadI_2, x_loadR_0, x_loadS_0, f_6_0, y_ic_ge_t, y_ic_ge_f, b_X6_outside_12, x_loadI_1, f_6_4, x_imul, x_iadd, y_iald_35, y_ic_ne_t, y_ic_ne_f, b_X6_outside_27, x_goto, b_X6_outside_31, b_X6_outside_32, x_iinc_2, b_X6_outside_40, x_ret0, q_isL_I, q_isL_R, q_isL_S, true_and, and_true, and_self, List.length_nil, List.length_cons, Nat.zero_add, x_K, x_Kn, Int.reduceToNat, Nat.reduceAdd, Nat.reduceMul, Nat.reduceLeDiff, Nat.reduceLT, Nat.zero_le, Int.reduceAdd, Int.reduceSub, Int.reduceMul, Int.reduceNeg, q_add_e, q_sub_e, q_mul_e, q_neg_e, q_upd_s, q_upd_n, zr_shr0, zr_shr1, zr_shr2, zr_shr3, zr_shr4, zr_and, zr_dyn8, zr_or, zr_shl, q_cpy_n, y_cpy26, tn_32]
        exact ih2
      · rw [if_neg (show ¬mIn M k = 5 by unfold mIn; rw [if_neg c]; omega)] at ih2
        simp (disch := omega) only [b_X6_outside_0, x_iconst, x_storeI_1, x_storeI_2, x_loadI_2, x_loadR_0, x_loadS_0, f_6_0, y_ic_ge_t, y_ic_ge_f, b_X6_outside_12, x_loadI_1, f_6_4, x_imul, x_iadd, y_iald_35, y_ic_ne_t, y_ic_ne_f, b_X6_outside_27, x_goto, b_X6_outside_31, b_X6_outside_32, x_iinc_2, b_X6_outside_40, x_ret0, q_isL_I, q_isL_R, q_isL_S, true_and, and_true, and_self, List.length_nil, List.length_cons, Nat.zero_add, x_K, x_Kn, Int.reduceToNat, Nat.reduceAdd, Nat.reduceMul, Nat.reduceLeDiff, Nat.reduceLT, Nat.zero_le, Int.reduceAdd, Int.reduceSub, Int.reduceMul, Int.reduceNeg, q_add_e, q_sub_e, q_mul_e, q_neg_e, q_upd_s, q_upd_n, zr_shr0, zr_shr1, zr_shr2, zr_shr3, zr_shr4, zr_and, zr_dyn8, zr_or, zr_shl, q_cpy_n, y_cpy26, tn_32]
        exact ih2
  simp (disch := omega) only [b_X6_outside_0, x_iconst, x_storeI_1, x_storeI_2, x_loadI_2, x_loadR_0, x_loadS_0, f_6_0, y_ic_ge_t, y_ic_ge_f, b_X6_outside_12, x_loadI_1, f_6_4, x_imul, x_iadd, y_iald_35, y_ic_ne_t, y_ic_ne_f, b_X6_outside_27, x_goto, b_X6_outside_31, b_X6_outside_32, x_iinc_2, b_X6_outside_40, x_ret0, q_isL_I, q_isL_R, q_isL_S, true_and, and_true, and_self, List.length_nil, List.length_cons, Nat.zero_add, x_K, x_Kn, Int.reduceToNat, Nat.reduceAdd, Nat.reduceMul, Nat.reduceLeDiff, Nat.reduceLT, Nat.zero_le, Int.reduceAdd, Int.reduceSub, Int.reduceMul, Int.reduceNeg, q_add_e, q_sub_e, q_mul_e, q_neg_e, q_upd_s, q_upd_n, zr_shr0, zr_shr1, zr_shr2, zr_shr3, zr_shr4, zr_and, zr_dyn8, zr_or, zr_shl, q_cpy_n, y_cpy26]
  exact loop (M 100 0).toNat 0 (by omega)
theorem mp_whoIn {d : Nat} {g : q_G} {M : q_M} {b : Nat} (hb : b < 5) (h0 : 0 ≤ M 100 0) (h5 : M 100 0 ≤ 5) (Q : Option q_V → q_G → q_M → Prop) : q_S 1 d 115 [qR 6 100, qI b] g M Q = Q (some (qI (F_bits (mIn M) b (M 100 0).toNat))) g M := by
  refine q_S_eq (fun Q hq => ?_) Q
  rw [s_X6_whoIn]
  have loop : ∀ j k : Nat, k + j = (M 100 0).toNat → q_T 1 d qP_X6_whoIn 4 [] [qR 6 100, qI b, qI (F_bits (mIn M) b k), qI k] [] g M Q := by
    intro j
    induction j with
    | zero =>
      intro k hk
      have e : k = (M 100 0).toNat := by omega
      rw [← e] at hq
      rw [b_X6_whoIn_4]
      simp (disch := omega) only [b_X6_whoIn_0, x_iconst, x_storeI_2, x_storeI_3, x_loadI_3, x_loadR_0, x_loadS_0, f_6_0, y_ic_ge_t, y_ic_ge_f, b_X6_whoIn_12, x_loadI_2, f_6_4, x_imul, x_iadd, y_iald_35, x_loadI_1, y_ic_ne_t, y_ic_ne_f, b_X6_whoIn_27, x_ishl, x_goto, b_X6_whoIn_33, b_X6_whoIn_34, x_ior, x_iinc_3, b_X6_whoIn_42, x_ret0, q_isL_I, q_isL_R, q_isL_S, true_and, and_true, and_self, List.length_nil, List.length_cons, Nat.zero_add, x_K, x_Kn, Int.reduceToNat, Nat.reduceAdd, Nat.reduceMul, Nat.reduceLeDiff, Nat.reduceLT, Nat.zero_le, Int.reduceAdd, Int.reduceSub, Int.reduceMul, Int.reduceNeg, q_add_e, q_sub_e, q_mul_e, q_neg_e, q_upd_s, q_upd_n, zr_shr0, zr_shr1, zr_shr2, zr_shr3, zr_shr4, zr_and, zr_dyn8, zr_or, zr_shl, q_cpy_n, y_cpy26]
      exact hq
    | succ j ih =>
      intro k hk
      have ih2 := ih (k + 1) (by omega)
      rw [F_bits] at ih2
      rw [b_X6_whoIn_4]
      by_cases c : M 104 (3 * k + 2) = b
      · rw [if_pos (show mIn M k = b by unfold mIn; rw [if_neg (by omega)]; exact c)] at ih2
        simp (disch := omega) only [b_X6_whoIn_0, x_iconst, x_storeI_2, x_storeI_3, x_loadI_3, x_loadR_0, x_loadS_0, f_6_0, y_ic_ge_t, y_ic_ge_f, b_X6_whoIn_12, x_loadI_2, f_6_4, x_imul, x_iadd, y_iald_35, x_loadI_1, y_ic_ne_t, y_ic_ne_f, b_X6_whoIn_27, x_ishl, x_goto, b_X6_whoIn_33, b_X6_whoIn_34, x_ior, x_iinc_3, b_X6_whoIn_42, x_ret0, q_isL_I, q_isL_R, q_isL_S, true_and, and_true, and_self, List.length_nil, List.length_cons, Nat.zero_add, x_K, x_Kn, Int.reduceToNat, Nat.reduceAdd, Nat.reduceMul, Nat.reduceLeDiff, Nat.reduceLT, Nat.zero_le, Int.reduceAdd, Int.reduceSub, Int.reduceMul, Int.reduceNeg, q_add_e, q_sub_e, q_mul_e, q_neg_e, q_upd_s, q_upd_n, zr_shr0, zr_shr1, zr_shr2, zr_shr3, zr_shr4, zr_and, zr_dyn8, zr_or, zr_shl, q_cpy_n, y_cpy26, tn_32]
        exact ih2
      · rw [if_neg (show ¬mIn M k = b by unfold mIn; split <;> omega)] at ih2
        simp (disch := omega) only [b_X6_whoIn_0, x_iconst, x_storeI_2, x_storeI_3, x_loadI_3, x_loadR_0, x_loadS_0, f_6_0, y_ic_ge_t, y_ic_ge_f, b_X6_whoIn_12, x_loadI_2, f_6_4, x_imul, x_iadd, y_iald_35, x_loadI_1, y_ic_ne_t, y_ic_ne_f, b_X6_whoIn_27, x_ishl, x_goto, b_X6_whoIn_33, b_X6_whoIn_34, x_ior, x_iinc_3, b_X6_whoIn_42, x_ret0, q_isL_I, q_isL_R, q_isL_S, true_and, and_true, and_self, List.length_nil, List.length_cons, Nat.zero_add, x_K, x_Kn, Int.reduceToNat, Nat.reduceAdd, Nat.reduceMul, Nat.reduceLeDiff, Nat.reduceLT, Nat.zero_le, Int.reduceAdd, Int.reduceSub, Int.reduceMul, Int.reduceNeg, q_add_e, q_sub_e, q_mul_e, q_neg_e, q_upd_s, q_upd_n, zr_shr0, zr_shr1, zr_shr2, zr_shr3, zr_shr4, zr_and, zr_dyn8, zr_or, zr_shl, q_cpy_n, y_cpy26, tn_32]
        exact ih2
  simp (disch := omega) only [b_X6_whoIn_0, x_iconst, x_storeI_2, x_storeI_3, x_loadI_3, x_loadR_0, x_loadS_0, f_6_0, y_ic_ge_t, y_ic_ge_f, b_X6_whoIn_12, x_loadI_2, f_6_4, x_imul, x_iadd, y_iald_35, x_loadI_1, y_ic_ne_t, y_ic_ne_f, b_X6_whoIn_27, x_ishl, x_goto, b_X6_whoIn_33, b_X6_whoIn_34, x_ior, x_iinc_3, b_X6_whoIn_42, x_ret0, q_isL_I, q_isL_R, q_isL_S, true_and, and_true, and_self, List.length_nil, List.length_cons, Nat.zero_add, x_K, x_Kn, Int.reduceToNat, Nat.reduceAdd, Nat.reduceMul, Nat.reduceLeDiff, Nat.reduceLT, Nat.zero_le, Int.reduceAdd, Int.reduceSub, Int.reduceMul, Int.reduceNeg, q_add_e, q_sub_e, q_mul_e, q_neg_e, q_upd_s, q_upd_n, zr_shr0, zr_shr1, zr_shr2, zr_shr3, zr_shr4, zr_and, zr_dyn8, zr_or, zr_shl, q_cpy_n, y_cpy26]
  exact loop (M 100 0).toNat 0 (by omega)
def F_ones (s : Int) : Int := q_add (q_add (q_add (q_add (q_add 0 (q_and (q_shr s 0) 1)) (q_and (q_shr s 1) 1)) (q_and (q_shr s 2) 1)) (q_and (q_shr s 3) 1)) (q_and (q_shr s 4) 1)
theorem mp_onesOf {d : Nat} {g : q_G} {M : q_M} {s : Int} (Q : Option q_V → q_G → q_M → Prop) : q_S 1 d 116 [qI s] g M Q = Q (some (qI (F_ones s))) g M := by
  rw [s_X6_onesOf]
  simp (disch := omega) only [b_X6_onesOf_0, x_iconst, x_storeI_1, x_storeI_2, b_X6_onesOf_4, x_loadI_2, y_ic_ge_t, y_ic_ge_f, b_X6_onesOf_9, x_loadI_1, x_loadI_0, x_ishr, x_iand, x_iadd, x_iinc_2, x_goto, b_X6_onesOf_23, x_ret0, q_isL_I, q_isL_R, q_isL_S, true_and, and_true, and_self, List.length_nil, List.length_cons, Nat.zero_add, x_K, x_Kn, Int.reduceToNat, Nat.reduceAdd, Nat.reduceMul, Nat.reduceLeDiff, Nat.reduceLT, Nat.zero_le, Int.reduceAdd, Int.reduceSub, Int.reduceMul, Int.reduceNeg, q_add_e, q_sub_e, q_mul_e, q_neg_e, q_upd_s, q_upd_n, zr_dyn8, zr_or, zr_shl, q_cpy_n, y_cpy26]
  rfl
