/-! THE MODEL: told years: judge, kinds, states, whose -/
def q_mwA (M : q_M) (s : Int) : Int := if ¬(0 ≤ s ∧ s ≤ 3) then -2 else if M 110 s.toNat = -1 then -11 else if 20 < M 111 s.toNat then -2 else 0
theorem mp_sheetWrong {d : Nat} {g : q_G} {M : q_M} {s : Int} (Q : Option q_V → q_G → q_M → Prop) : q_S 1 (d + 1) 179 [qR 6 100, qI s] g M Q = Q (some (qI (q_mwA M s))) g M := by
  rw [s_X6_sheetWrong]
  unfold q_mwA
  by_cases h1 : 0 ≤ s ∧ s ≤ 3
  · rw [if_neg (fun z => z h1)]
    by_cases h2 : M 110 s.toNat = -1
    · rw [if_pos h2]
      simp (disch := omega) only [b_X6_sheetWrong_0, x_loadI_1, x_iconst, y_if_ne_t, y_if_ne_f, b_X6_sheetWrong_9, x_ret0, b_X6_sheetWrong_12, x_loadR_0, x_loadS_0, f_6_15, y_iald_24, y_ic_ne_t, y_ic_ne_f, b_X6_sheetWrong_22, b_X6_sheetWrong_25, f_6_16, y_ic_le_t, y_ic_le_f, b_X6_sheetWrong_36, x_goto, b_X6_sheetWrong_41, b_X6_sheetWrong_42, q_isL_I, q_isL_R, q_isL_S, true_and, and_true, and_self, List.length_nil, List.length_cons, Nat.zero_add, x_K, x_Kn, Int.reduceToNat, Nat.reduceAdd, Nat.reduceMul, Nat.reduceLeDiff, Nat.reduceLT, Nat.zero_le, Int.reduceAdd, Int.reduceSub, Int.reduceMul, Int.reduceNeg, q_add_e, q_sub_e, q_mul_e, q_neg_e, q_upd_s, q_upd_n, zr_shr0, zr_shr1, zr_shr2, zr_shr3, zr_shr4, zr_and, zr_dyn8, zr_or, zr_shl, q_cpy_n, y_cpy26, c_X6_in, mp_in, h1, and_self, if_true]
    · rw [if_neg h2]
      by_cases h3 : 20 < M 111 s.toNat
      · rw [if_pos h3]
        simp (disch := omega) only [b_X6_sheetWrong_0, x_loadI_1, x_iconst, y_if_ne_t, y_if_ne_f, b_X6_sheetWrong_9, x_ret0, b_X6_sheetWrong_12, x_loadR_0, x_loadS_0, f_6_15, y_iald_24, y_ic_ne_t, y_ic_ne_f, b_X6_sheetWrong_22, b_X6_sheetWrong_25, f_6_16, y_ic_le_t, y_ic_le_f, b_X6_sheetWrong_36, x_goto, b_X6_sheetWrong_41, b_X6_sheetWrong_42, q_isL_I, q_isL_R, q_isL_S, true_and, and_true, and_self, List.length_nil, List.length_cons, Nat.zero_add, x_K, x_Kn, Int.reduceToNat, Nat.reduceAdd, Nat.reduceMul, Nat.reduceLeDiff, Nat.reduceLT, Nat.zero_le, Int.reduceAdd, Int.reduceSub, Int.reduceMul, Int.reduceNeg, q_add_e, q_sub_e, q_mul_e, q_neg_e, q_upd_s, q_upd_n, zr_shr0, zr_shr1, zr_shr2, zr_shr3, zr_shr4, zr_and, zr_dyn8, zr_or, zr_shl, q_cpy_n, y_cpy26, c_X6_in, mp_in, h1, and_self, if_true]
      · rw [if_neg h3]
        simp (disch := omega) only [b_X6_sheetWrong_0, x_loadI_1, x_iconst, y_if_ne_t, y_if_ne_f, b_X6_sheetWrong_9, x_ret0, b_X6_sheetWrong_12, x_loadR_0, x_loadS_0, f_6_15, y_iald_24, y_ic_ne_t, y_ic_ne_f, b_X6_sheetWrong_22, b_X6_sheetWrong_25, f_6_16, y_ic_le_t, y_ic_le_f, b_X6_sheetWrong_36, x_goto, b_X6_sheetWrong_41, b_X6_sheetWrong_42, q_isL_I, q_isL_R, q_isL_S, true_and, and_true, and_self, List.length_nil, List.length_cons, Nat.zero_add, x_K, x_Kn, Int.reduceToNat, Nat.reduceAdd, Nat.reduceMul, Nat.reduceLeDiff, Nat.reduceLT, Nat.zero_le, Int.reduceAdd, Int.reduceSub, Int.reduceMul, Int.reduceNeg, q_add_e, q_sub_e, q_mul_e, q_neg_e, q_upd_s, q_upd_n, zr_shr0, zr_shr1, zr_shr2, zr_shr3, zr_shr4, zr_and, zr_dyn8, zr_or, zr_shl, q_cpy_n, y_cpy26, c_X6_in, mp_in, h1, and_self, if_true]
  · rw [if_pos h1]
    simp (disch := omega) only [b_X6_sheetWrong_0, x_loadI_1, x_iconst, y_if_ne_t, y_if_ne_f, b_X6_sheetWrong_9, x_ret0, b_X6_sheetWrong_12, x_loadR_0, x_loadS_0, f_6_15, y_iald_24, y_ic_ne_t, y_ic_ne_f, b_X6_sheetWrong_22, b_X6_sheetWrong_25, f_6_16, y_ic_le_t, y_ic_le_f, b_X6_sheetWrong_36, x_goto, b_X6_sheetWrong_41, b_X6_sheetWrong_42, q_isL_I, q_isL_R, q_isL_S, true_and, and_true, and_self, List.length_nil, List.length_cons, Nat.zero_add, x_K, x_Kn, Int.reduceToNat, Nat.reduceAdd, Nat.reduceMul, Nat.reduceLeDiff, Nat.reduceLT, Nat.zero_le, Int.reduceAdd, Int.reduceSub, Int.reduceMul, Int.reduceNeg, q_add_e, q_sub_e, q_mul_e, q_neg_e, q_upd_s, q_upd_n, zr_shr0, zr_shr1, zr_shr2, zr_shr3, zr_shr4, zr_and, zr_dyn8, zr_or, zr_shl, q_cpy_n, y_cpy26, c_X6_in, mp_in, h1, if_false]
def q_twA (M : q_M) (s p : Int) : Int := if q_mwA M s ≠ 0 then q_mwA M s else if 0 ≤ p ∧ p ≤ M 100 0 - 1 then 0 else -5
theorem mp_toldWrong {d : Nat} {g : q_G} {M : q_M} {s p : Int} (h0 : 0 ≤ M 100 0) (h5 : M 100 0 ≤ 5) (Q : Option q_V → q_G → q_M → Prop) : q_S 1 (d + 2) 180 [qR 6 100, qI s, qI p] g M Q = Q (some (qI (q_twA M s p))) g M := by
  rw [s_X6_toldWrong]
  unfold q_twA
  by_cases h1 : q_mwA M s = 0
  · rw [if_neg (fun z => z h1)]
    by_cases h2 : 0 ≤ p ∧ p ≤ M 100 0 - 1
    · rw [if_pos h2]
      simp (disch := omega) only [b_X6_toldWrong_0, x_loadR_0, x_loadS_0, x_loadI_1, x_storeI_3, x_loadI_3, y_if_eq_t, y_if_eq_f, b_X6_toldWrong_10, x_goto, b_X6_toldWrong_14, x_loadI_2, b_X6_toldWrong_22, x_iconst, b_X6_toldWrong_26, b_X6_toldWrong_28, x_ret0, q_isL_I, q_isL_R, q_isL_S, true_and, and_true, and_self, List.length_nil, List.length_cons, Nat.zero_add, x_K, x_Kn, Int.reduceToNat, Nat.reduceAdd, Nat.reduceMul, Nat.reduceLeDiff, Nat.reduceLT, Nat.zero_le, Int.reduceAdd, Int.reduceSub, Int.reduceMul, Int.reduceNeg, q_add_e, q_sub_e, q_mul_e, q_neg_e, q_upd_s, q_upd_n, zr_shr0, zr_shr1, zr_shr2, zr_shr3, zr_shr4, zr_and, zr_dyn8, zr_or, zr_shl, q_cpy_n, y_cpy26, c_X6_sheetWrong, mp_sheetWrong, c_X6_isStone, mp_isStone, h2, and_self, if_true]
    · rw [if_neg h2]
      simp (disch := omega) only [b_X6_toldWrong_0, x_loadR_0, x_loadS_0, x_loadI_1, x_storeI_3, x_loadI_3, y_if_eq_t, y_if_eq_f, b_X6_toldWrong_10, x_goto, b_X6_toldWrong_14, x_loadI_2, b_X6_toldWrong_22, x_iconst, b_X6_toldWrong_26, b_X6_toldWrong_28, x_ret0, q_isL_I, q_isL_R, q_isL_S, true_and, and_true, and_self, List.length_nil, List.length_cons, Nat.zero_add, x_K, x_Kn, Int.reduceToNat, Nat.reduceAdd, Nat.reduceMul, Nat.reduceLeDiff, Nat.reduceLT, Nat.zero_le, Int.reduceAdd, Int.reduceSub, Int.reduceMul, Int.reduceNeg, q_add_e, q_sub_e, q_mul_e, q_neg_e, q_upd_s, q_upd_n, zr_shr0, zr_shr1, zr_shr2, zr_shr3, zr_shr4, zr_and, zr_dyn8, zr_or, zr_shl, q_cpy_n, y_cpy26, c_X6_sheetWrong, mp_sheetWrong, c_X6_isStone, mp_isStone, h2, if_false]
  · rw [if_pos h1]
    simp (disch := omega) only [b_X6_toldWrong_0, x_loadR_0, x_loadS_0, x_loadI_1, x_storeI_3, x_loadI_3, y_if_eq_t, y_if_eq_f, b_X6_toldWrong_10, x_goto, b_X6_toldWrong_14, x_loadI_2, b_X6_toldWrong_22, x_iconst, b_X6_toldWrong_26, b_X6_toldWrong_28, x_ret0, q_isL_I, q_isL_R, q_isL_S, true_and, and_true, and_self, List.length_nil, List.length_cons, Nat.zero_add, x_K, x_Kn, Int.reduceToNat, Nat.reduceAdd, Nat.reduceMul, Nat.reduceLeDiff, Nat.reduceLT, Nat.zero_le, Int.reduceAdd, Int.reduceSub, Int.reduceMul, Int.reduceNeg, q_add_e, q_sub_e, q_mul_e, q_neg_e, q_upd_s, q_upd_n, zr_shr0, zr_shr1, zr_shr2, zr_shr3, zr_shr4, zr_and, zr_dyn8, zr_or, zr_shl, q_cpy_n, y_cpy26, c_X6_sheetWrong, mp_sheetWrong]
theorem q_mwA_0 {M : q_M} {s : Int} (h : q_mwA M s = 0) : (0 ≤ s ∧ s ≤ 3) ∧ M 111 s.toNat ≤ 20 := by
  unfold q_mwA at h
  by_cases h1 : 0 ≤ s ∧ s ≤ 3
  · rw [if_neg (fun z => z h1)] at h
    by_cases h2 : M 110 s.toNat = -1
    · rw [if_pos h2] at h
      omega
    · rw [if_neg h2] at h
      by_cases h3 : 20 < M 111 s.toNat
      · rw [if_pos h3] at h
        omega
      · exact ⟨h1, by omega⟩
  · rw [if_pos h1] at h
    omega
theorem q_twA_0 {M : q_M} {s p : Int} (h : q_twA M s p = 0) : q_mwA M s = 0 ∧ (0 ≤ p ∧ p ≤ M 100 0 - 1) := by
  unfold q_twA at h
  by_cases h1 : q_mwA M s = 0
  · rw [if_neg (fun z => z h1)] at h
    by_cases h2 : 0 ≤ p ∧ p ≤ M 100 0 - 1
    · exact ⟨h1, h2⟩
    · rw [if_neg h2] at h
      omega
  · rw [if_pos h1] at h
    exact absurd h h1
def B_judge (V : Nat → (Nat → Int) → Int) (M : q_M) (s p : Int) : Int := if q_twA M s p = 0 then G_foA V M (mW M) s.toNat p.toNat else q_twA M s p
set_option maxHeartbeats 4000000 in
theorem mp_judge {V : Nat → (Nat → Int) → Int} {d : Nat} {g : q_G} {M : q_M} {s p : Int} {Q : Option q_V → q_G → q_M → Prop} (C : q_mi V M) (hq : ∀ M2 : q_M, q_mq M M2 → Q (some (qI (B_judge V M s p))) g M2) : q_S 1 (d + 9) 182 [qR 6 100, qI s, qI p] g M Q := by
  have n0 := C.1.1.1
  have y9 := C.2.1
  rw [s_X6_judge]
  unfold B_judge at hq
  by_cases c1 : q_twA M s p = 0
  · rw [if_pos c1] at hq
    obtain ⟨c2, c3⟩ := q_twA_0 c1
    obtain ⟨c4, c5⟩ := q_mwA_0 c2
    obtain ⟨S, rfl⟩ : ∃ S : Nat, s = S := ⟨s.toNat, by omega⟩
    obtain ⟨N, rfl⟩ : ∃ N : Nat, p = N := ⟨p.toNat, by omega⟩
    simp only [Int.toNat_natCast] at hq c5
    have hz := C.2.2 S (by omega)
    simp (disch := omega) only [b_X6_judge_0, x_loadR_0, x_loadS_0, x_loadI_1, x_loadI_2, x_storeI_3, x_loadI_3, y_if_ne_t, y_if_ne_f, b_X6_judge_11, x_goto, b_X6_judge_20, b_X6_judge_21, x_ret0, q_isL_I, q_isL_R, q_isL_S, true_and, and_true, and_self, List.length_nil, List.length_cons, Nat.zero_add, x_K, x_Kn, Int.reduceToNat, Nat.reduceAdd, Nat.reduceMul, Nat.reduceLeDiff, Nat.reduceLT, Nat.zero_le, Int.reduceAdd, Int.reduceSub, Int.reduceMul, Int.reduceNeg, q_add_e, q_sub_e, q_mul_e, q_neg_e, q_upd_s, q_upd_n, zr_shr0, zr_shr1, zr_shr2, zr_shr3, zr_shr4, zr_and, zr_dyn8, zr_or, zr_shl, q_cpy_n, y_cpy26, c_X6_toldWrong, mp_toldWrong, c_X6_unlike]
    refine mp_unlike C.1 (by omega) (by omega) hz (by omega) (fun M2 h2 => ?_)
    simp (disch := omega) only [b_X6_judge_0, x_loadR_0, x_loadS_0, x_loadI_1, x_loadI_2, x_storeI_3, x_loadI_3, y_if_ne_t, y_if_ne_f, b_X6_judge_11, x_goto, b_X6_judge_20, b_X6_judge_21, x_ret0, q_isL_I, q_isL_R, q_isL_S, true_and, and_true, and_self, List.length_nil, List.length_cons, Nat.zero_add, x_K, x_Kn, Int.reduceToNat, Nat.reduceAdd, Nat.reduceMul, Nat.reduceLeDiff, Nat.reduceLT, Nat.zero_le, Int.reduceAdd, Int.reduceSub, Int.reduceMul, Int.reduceNeg, q_add_e, q_sub_e, q_mul_e, q_neg_e, q_upd_s, q_upd_n, zr_shr0, zr_shr1, zr_shr2, zr_shr3, zr_shr4, zr_and, zr_dyn8, zr_or, zr_shl, q_cpy_n, y_cpy26]
    exact hq M2 h2
  · rw [if_neg c1] at hq
    simp (disch := omega) only [b_X6_judge_0, x_loadR_0, x_loadS_0, x_loadI_1, x_loadI_2, x_storeI_3, x_loadI_3, y_if_ne_t, y_if_ne_f, b_X6_judge_11, x_goto, b_X6_judge_20, b_X6_judge_21, x_ret0, q_isL_I, q_isL_R, q_isL_S, true_and, and_true, and_self, List.length_nil, List.length_cons, Nat.zero_add, x_K, x_Kn, Int.reduceToNat, Nat.reduceAdd, Nat.reduceMul, Nat.reduceLeDiff, Nat.reduceLT, Nat.zero_le, Int.reduceAdd, Int.reduceSub, Int.reduceMul, Int.reduceNeg, q_add_e, q_sub_e, q_mul_e, q_neg_e, q_upd_s, q_upd_n, zr_shr0, zr_shr1, zr_shr2, zr_shr3, zr_shr4, zr_and, zr_dyn8, zr_or, zr_shl, q_cpy_n, y_cpy26, c_X6_toldWrong, mp_toldWrong]
    exact hq M q_mq_rf
/-- bits of those below k of which T says -1, as the model gathers them -/
def G_set (T : Nat → Int) : Nat → Int
  | 0 => 0
  | k + 1 => q_or (G_set T k) (if T k = -1 then q_shl 1 k else 0)
theorem G_foA_mq {V : Nat → (Nat → Int) → Int} {M M2 S : q_M} {s p : Nat} (h : ∀ i, M2 112 i = M 112 i) (h2 : M2 111 s = M 111 s) : G_foA V M2 S s p = G_foA V M S s p := by
  unfold G_foA
  rw [h2, show (fun i => M2 112 (40 * s + i)) = (fun i => M 112 (40 * s + i)) from funext (fun i => h _)]
def B_whose (V : Nat → (Nat → Int) → Int) (M : q_M) (s : Int) : Int := if q_mwA M s ≠ 0 then q_mwA M s else G_set (fun k => G_foA V M (mW M) s.toNat k) (M 100 0).toNat
set_option maxHeartbeats 4000000 in
theorem mp_whose {V : Nat → (Nat → Int) → Int} {d : Nat} {g : q_G} {M : q_M} {s : Int} {Q : Option q_V → q_G → q_M → Prop} (C : q_mi V M) (hq : ∀ M2 : q_M, q_mq M M2 → Q (some (qI (B_whose V M s))) g M2) : q_S 1 (d + 9) 185 [qR 6 100, qI s] g M Q := by
  have n0 := C.1.1.1
  have y9 := C.2.1
  rw [s_X6_whose]
  unfold B_whose at hq
  by_cases c1 : q_mwA M s = 0
  · rw [if_neg (fun z => z c1)] at hq
    obtain ⟨c4, c5⟩ := q_mwA_0 c1
    obtain ⟨S, rfl⟩ : ∃ S : Nat, s = S := ⟨s.toNat, by omega⟩
    simp only [Int.toNat_natCast] at hq c5
    have hz := C.2.2 S (by omega)
    generalize hT : (fun k : Nat => G_foA V M (mW M) S k) = T at hq
    have loop : ∀ j k : Nat, k + j = (M 100 0).toNat → ∀ M1 : q_M, q_mq M M1 → q_T 1 (d + 9) qP_X6_whose 17 [] [qR 6 100, qI S, qI (q_mwA M S), qI (G_set T k), qI k] [] g M1 Q := by
      intro j
      induction j with
      | zero =>
        intro k hk M1 h1
        have e0 : M1 100 0 = M 100 0 := h1 100 0 (by omega) (by omega)
        have e : k = (M 100 0).toNat := by omega
        rw [← e] at hq
        rw [b_X6_whose_17]
        simp (disch := omega) only [b_X6_whose_0, x_loadR_0, x_loadS_0, x_loadI_1, x_storeI_2, x_loadI_2, y_if_eq_t, y_if_eq_f, b_X6_whose_10, x_ret0, b_X6_whose_12, x_iconst, x_storeI_3, x_storeI_4, x_loadI_4, f_6_0, y_ic_ge_t, y_ic_ge_f, b_X6_whose_26, x_loadI_3, y_ic_ne_t, y_ic_ne_f, b_X6_whose_38, x_ishl, x_goto, b_X6_whose_45, b_X6_whose_46, x_ior, x_iinc_4, b_X6_whose_54, q_isL_I, q_isL_R, q_isL_S, true_and, and_true, and_self, List.length_nil, List.length_cons, Nat.zero_add, x_K, x_Kn, Int.reduceToNat, Nat.reduceAdd, Nat.reduceMul, Nat.reduceLeDiff, Nat.reduceLT, Nat.zero_le, Int.reduceAdd, Int.reduceSub, Int.reduceMul, Int.reduceNeg, q_add_e, q_sub_e, q_mul_e, q_neg_e, q_upd_s, q_upd_n, zr_shr0, zr_shr1, zr_shr2, zr_shr3, zr_shr4, zr_and, zr_dyn8, zr_or, zr_shl, q_cpy_n, y_cpy26]
        exact hq M1 h1
      | succ j ih =>
        intro k hk M1 h1
        have e0 : M1 100 0 = M 100 0 := h1 100 0 (by omega) (by omega)
        have e5 : M1 100 5 = M 100 5 := h1 100 5 (by omega) (by omega)
        have ez : M1 111 S = M 111 S := h1 111 S (by omega) (by omega)
        have ih2 := ih (k + 1) (by omega)
        rw [G_set] at ih2
        rw [b_X6_whose_17]
        simp (disch := omega) only [b_X6_whose_0, x_loadR_0, x_loadS_0, x_loadI_1, x_storeI_2, x_loadI_2, y_if_eq_t, y_if_eq_f, b_X6_whose_10, x_ret0, b_X6_whose_12, x_iconst, x_storeI_3, x_storeI_4, x_loadI_4, f_6_0, y_ic_ge_t, y_ic_ge_f, b_X6_whose_26, x_loadI_3, y_ic_ne_t, y_ic_ne_f, b_X6_whose_38, x_ishl, x_goto, b_X6_whose_45, b_X6_whose_46, x_ior, x_iinc_4, b_X6_whose_54, q_isL_I, q_isL_R, q_isL_S, true_and, and_true, and_self, List.length_nil, List.length_cons, Nat.zero_add, x_K, x_Kn, Int.reduceToNat, Nat.reduceAdd, Nat.reduceMul, Nat.reduceLeDiff, Nat.reduceLT, Nat.zero_le, Int.reduceAdd, Int.reduceSub, Int.reduceMul, Int.reduceNeg, q_add_e, q_sub_e, q_mul_e, q_neg_e, q_upd_s, q_upd_n, zr_shr0, zr_shr1, zr_shr2, zr_shr3, zr_shr4, zr_and, zr_dyn8, zr_or, zr_shl, q_cpy_n, y_cpy26, c_X6_unlike]
        refine mp_unlike (q_mq_ml h1 C.1) (by omega) (by omega) (by omega) (by omega) (fun M2 h2 => ?_)
        have eT : G_foA V M1 (mW M1) S k = T k := by rw [← hT, q_mq_mW h1]; exact G_foA_mq (fun i => h1 112 i (by omega) (by omega)) ez
        rw [eT]
        by_cases c : T k = -1
        · rw [if_pos c] at ih2
          simp (disch := omega) only [b_X6_whose_0, x_loadR_0, x_loadS_0, x_loadI_1, x_storeI_2, x_loadI_2, y_if_eq_t, y_if_eq_f, b_X6_whose_10, x_ret0, b_X6_whose_12, x_iconst, x_storeI_3, x_storeI_4, x_loadI_4, f_6_0, y_ic_ge_t, y_ic_ge_f, b_X6_whose_26, x_loadI_3, y_ic_ne_t, y_ic_ne_f, b_X6_whose_38, x_ishl, x_goto, b_X6_whose_45, b_X6_whose_46, x_ior, x_iinc_4, b_X6_whose_54, q_isL_I, q_isL_R, q_isL_S, true_and, and_true, and_self, List.length_nil, List.length_cons, Nat.zero_add, x_K, x_Kn, Int.reduceToNat, Nat.reduceAdd, Nat.reduceMul, Nat.reduceLeDiff, Nat.reduceLT, Nat.zero_le, Int.reduceAdd, Int.reduceSub, Int.reduceMul, Int.reduceNeg, q_add_e, q_sub_e, q_mul_e, q_neg_e, q_upd_s, q_upd_n, zr_shr0, zr_shr1, zr_shr2, zr_shr3, zr_shr4, zr_and, zr_dyn8, zr_or, zr_shl, q_cpy_n, y_cpy26]
          exact ih2 M2 (q_mq_tr h1 h2)
        · rw [if_neg c] at ih2
          simp (disch := omega) only [b_X6_whose_0, x_loadR_0, x_loadS_0, x_loadI_1, x_storeI_2, x_loadI_2, y_if_eq_t, y_if_eq_f, b_X6_whose_10, x_ret0, b_X6_whose_12, x_iconst, x_storeI_3, x_storeI_4, x_loadI_4, f_6_0, y_ic_ge_t, y_ic_ge_f, b_X6_whose_26, x_loadI_3, y_ic_ne_t, y_ic_ne_f, b_X6_whose_38, x_ishl, x_goto, b_X6_whose_45, b_X6_whose_46, x_ior, x_iinc_4, b_X6_whose_54, q_isL_I, q_isL_R, q_isL_S, true_and, and_true, and_self, List.length_nil, List.length_cons, Nat.zero_add, x_K, x_Kn, Int.reduceToNat, Nat.reduceAdd, Nat.reduceMul, Nat.reduceLeDiff, Nat.reduceLT, Nat.zero_le, Int.reduceAdd, Int.reduceSub, Int.reduceMul, Int.reduceNeg, q_add_e, q_sub_e, q_mul_e, q_neg_e, q_upd_s, q_upd_n, zr_shr0, zr_shr1, zr_shr2, zr_shr3, zr_shr4, zr_and, zr_dyn8, zr_or, zr_shl, q_cpy_n, y_cpy26]
          exact ih2 M2 (q_mq_tr h1 h2)
    simp (disch := omega) only [b_X6_whose_0, x_loadR_0, x_loadS_0, x_loadI_1, x_storeI_2, x_loadI_2, y_if_eq_t, y_if_eq_f, b_X6_whose_10, x_ret0, b_X6_whose_12, x_iconst, x_storeI_3, x_storeI_4, x_loadI_4, f_6_0, y_ic_ge_t, y_ic_ge_f, b_X6_whose_26, x_loadI_3, y_ic_ne_t, y_ic_ne_f, b_X6_whose_38, x_ishl, x_goto, b_X6_whose_45, b_X6_whose_46, x_ior, x_iinc_4, b_X6_whose_54, q_isL_I, q_isL_R, q_isL_S, true_and, and_true, and_self, List.length_nil, List.length_cons, Nat.zero_add, x_K, x_Kn, Int.reduceToNat, Nat.reduceAdd, Nat.reduceMul, Nat.reduceLeDiff, Nat.reduceLT, Nat.zero_le, Int.reduceAdd, Int.reduceSub, Int.reduceMul, Int.reduceNeg, q_add_e, q_sub_e, q_mul_e, q_neg_e, q_upd_s, q_upd_n, zr_shr0, zr_shr1, zr_shr2, zr_shr3, zr_shr4, zr_and, zr_dyn8, zr_or, zr_shl, q_cpy_n, y_cpy26, c_X6_sheetWrong, mp_sheetWrong]
    exact loop (M 100 0).toNat 0 (by omega) M q_mq_rf
  · rw [if_pos c1] at hq
    simp (disch := omega) only [b_X6_whose_0, x_loadR_0, x_loadS_0, x_loadI_1, x_storeI_2, x_loadI_2, y_if_eq_t, y_if_eq_f, b_X6_whose_10, x_ret0, b_X6_whose_12, x_iconst, x_storeI_3, x_storeI_4, x_loadI_4, f_6_0, y_ic_ge_t, y_ic_ge_f, b_X6_whose_26, x_loadI_3, y_ic_ne_t, y_ic_ne_f, b_X6_whose_38, x_ishl, x_goto, b_X6_whose_45, b_X6_whose_46, x_ior, x_iinc_4, b_X6_whose_54, q_isL_I, q_isL_R, q_isL_S, true_and, and_true, and_self, List.length_nil, List.length_cons, Nat.zero_add, x_K, x_Kn, Int.reduceToNat, Nat.reduceAdd, Nat.reduceMul, Nat.reduceLeDiff, Nat.reduceLT, Nat.zero_le, Int.reduceAdd, Int.reduceSub, Int.reduceMul, Int.reduceNeg, q_add_e, q_sub_e, q_mul_e, q_neg_e, q_upd_s, q_upd_n, zr_shr0, zr_shr1, zr_shr2, zr_shr3, zr_shr4, zr_and, zr_dyn8, zr_or, zr_shl, q_cpy_n, y_cpy26, c_X6_sheetWrong, mp_sheetWrong]
    exact hq M q_mq_rf
def B_kinds (V : Nat → (Nat → Int) → Int) (M : q_M) (s p so : Int) : Int := if q_twA M s p ≠ 0 then q_twA M s p else if ¬(0 ≤ so ∧ so ≤ 1) then -7 else G_set (fun k => G_foA V M (q_upd (mW M) so.toNat p.toNat k) s.toNat p.toNat) (if so = 0 then 6 else 10)
/-- all as in M but two cells -/
def q_m2 (p : Nat) (M M2 : q_M) : Prop := ∀ a i, (a < 116 ∨ 124 ≤ a) → (a = 100 → i ≠ 36) → ((a = 101 ∨ a = 102) → i ≠ p) → M2 a i = M a i
set_option maxHeartbeats 4000000 in
theorem mp_kinds {V : Nat → (Nat → Int) → Int} {d : Nat} {g : q_G} {M : q_M} {s p so : Int} {Q : Option q_V → q_G → q_M → Prop} (C : q_mi V M) (hq : ∀ M2 : q_M, q_mq M M2 → Q (some (qI (B_kinds V M s p so))) g M2) : q_S 1 (d + 9) 183 [qR 6 100, qI s, qI p, qI so] g M Q := by
  have n0 := C.1.1.1
  have y9 := C.2.1
  rw [s_X6_kinds]
  unfold B_kinds at hq
  by_cases c1 : q_twA M s p = 0
  · rw [if_neg (fun z => z c1)] at hq
    by_cases cs : 0 ≤ so ∧ so ≤ 1
    · rw [if_neg (fun z => z cs)] at hq
      obtain ⟨c2, c3⟩ := q_twA_0 c1
      obtain ⟨c4, c5⟩ := q_mwA_0 c2
      obtain ⟨S, rfl⟩ : ∃ S : Nat, s = S := ⟨s.toNat, by omega⟩
      obtain ⟨N, rfl⟩ : ∃ N : Nat, p = N := ⟨p.toNat, by omega⟩
      simp only [Int.toNat_natCast] at hq c5
      have hz := C.2.2 S (by omega)
      have hN : N < 5 := by omega
      have bK := C.1.1.2.2.1 N hN
      have bM := C.1.1.2.2.2.1 N hN
      generalize hT : (fun k : Nat => G_foA V M (q_upd (mW M) so.toNat N k) S N) = T at hq
      have step : ∀ (M1 : q_M) (k : Nat) (row : Nat) (a b : Int), q_m2 N M M1 → row < 2 → (row = 0 → a = k ∧ b = M 102 N ∧ k ≤ 5) → (row = 1 → a = M 101 N ∧ b = k ∧ k ≤ 9) → q_ml V (q_upd (q_upd M1 101 N a) 102 N b) ∧ mW (q_upd (q_upd M1 101 N a) 102 N b) = q_upd (mW M) row N k ∧ q_m2 N M (q_upd (q_upd M1 101 N a) 102 N b) := by
        intro M1 k row a b h1 hr h2 h3
        have h4 : q_mq (q_upd M (101 + row) N k) (q_upd (q_upd M1 101 N a) 102 N b) := by
          intro x i q1 q2
          rcases (show row = 0 ∨ row = 1 by omega) with e | e
          · obtain ⟨e1, e2, e3⟩ := h2 e
            subst e
            by_cases k1 : x = 102 ∧ i = N
            · obtain ⟨rfl, rfl⟩ := k1
              rw [q_upd_s, q_upd_n (by omega), e2]
            · rw [q_upd_n (by omega)]
              by_cases k2 : x = 101 ∧ i = N
              · obtain ⟨rfl, rfl⟩ := k2
                rw [q_upd_s, e1]
                exact q_upd_s.symm
              · rw [q_upd_n (by omega), q_upd_n (by omega)]
                exact h1 x i q1 q2 (by omega)
          · obtain ⟨e1, e2, e3⟩ := h3 e
            subst e
            by_cases k1 : x = 102 ∧ i = N
            · obtain ⟨rfl, rfl⟩ := k1
              rw [q_upd_s, e2]
              exact q_upd_s.symm
            · rw [q_upd_n (by omega)]
              by_cases k2 : x = 101 ∧ i = N
              · obtain ⟨rfl, rfl⟩ := k2
                rw [q_upd_s, q_upd_n (by omega), e1]
              · rw [q_upd_n (by omega), q_upd_n (by omega)]
                exact h1 x i q1 q2 (by omega)
        have hu : q_ml V (q_upd M (101 + row) N k) := by
          rcases (show row = 0 ∨ row = 1 by omega) with e | e
          · obtain ⟨e1, e2, e3⟩ := h2 e
            subst e
            exact q_ml_up C.1 (q_ok0 (by omega)) (by omega) (by omega) (by omega)
          · obtain ⟨e1, e2, e3⟩ := h3 e
            subst e
            exact q_ml_up C.1 (q_ok1 (by omega)) (by omega) (by omega) (by omega)
        refine ⟨q_mq_ml h4 hu, ?_, fun x i q1 q2 q3 => ?_⟩
        · rw [q_mq_mW h4]
          rcases (show row = 0 ∨ row = 1 by omega) with e | e
          · subst e
            exact mW_up0 (by omega)
          · subst e
            exact mW_up1 (by omega)
        · rw [q_upd_n (by omega), q_upd_n (by omega)]
          exact h1 x i q1 q2 q3
      have loop : ∀ K : Nat, K = (if so = 0 then 6 else 10) → ∀ j k : Nat, k + j = K → ∀ M1 : q_M, q_m2 N M M1 → q_T 1 (d + 9) qP_X6_kinds 50 [] [qR 6 100, qI S, qI N, qI so, qI (q_twA M S N), qI (M 101 N), qI (M 102 N), qI (G_set T k), qI k] [] g M1 Q := by
        intro K hK
        rw [← hK] at hq
        intro j
        induction j with
        | zero =>
          intro k hk M1 h1
          have e : k = K := by omega
          subst e
          have fin : ∀ M3 : q_M, M3 = q_upd (q_upd M1 101 N (M 101 N)) 102 N (M 102 N) → q_mq M M3 := by
            intro M3 e3 x i q1 q2
            rw [e3]
            by_cases k1 : x = 102 ∧ i = N
            · obtain ⟨rfl, rfl⟩ := k1
              exact q_upd_s
            · rw [q_upd_n (by omega)]
              by_cases k2 : x = 101 ∧ i = N
              · obtain ⟨rfl, rfl⟩ := k2
                exact q_upd_s
              · rw [q_upd_n (by omega)]
                exact h1 x i q1 q2 (by omega)
          rw [b_X6_kinds_50]
          rcases (show so = 0 ∨ so = 1 by omega) with e | e
          · subst e
            rw [if_pos rfl] at hK
            subst hK
            simp (disch := omega) only [b_X6_kinds_0, x_loadR_0, x_loadS_0, x_loadI_1, x_loadI_2, x_storeI_4, x_loadI_4, y_if_eq_t, y_if_eq_f, b_X6_kinds_13, x_ret0, b_X6_kinds_16, x_loadI_3, x_iconst, y_if_ne_t, y_if_ne_f, b_X6_kinds_25, b_X6_kinds_28, f_6_1, y_iald_25, x_storeI_5, f_6_2, x_storeI_6, x_storeI_7, x_storeI_8, x_loadI_8, b_X6_kinds_56, x_goto, b_X6_kinds_61, b_X6_kinds_63, y_ic_ge_t, y_ic_ge_f, b_X6_kinds_66, b_X6_kinds_75, b_X6_kinds_80, x_loadI_5, b_X6_kinds_82, y_iast_25, y_ic_ne_t, y_ic_ne_f, b_X6_kinds_93, b_X6_kinds_98, x_loadI_6, b_X6_kinds_100, x_loadI_7, b_X6_kinds_113, x_ishl, b_X6_kinds_120, b_X6_kinds_121, x_ior, x_iinc_8, b_X6_kinds_130, q_isL_I, q_isL_R, q_isL_S, true_and, and_true, and_self, List.length_nil, List.length_cons, Nat.zero_add, x_K, x_Kn, Int.reduceToNat, Nat.reduceAdd, Nat.reduceMul, Nat.reduceLeDiff, Nat.reduceLT, Nat.zero_le, Int.reduceAdd, Int.reduceSub, Int.reduceMul, Int.reduceNeg, q_add_e, q_sub_e, q_mul_e, q_neg_e, q_upd_s, q_upd_n, zr_shr0, zr_shr1, zr_shr2, zr_shr3, zr_shr4, zr_and, zr_dyn8, zr_or, zr_shl, q_cpy_n, y_cpy26, Int.toNat_natCast]
            exact hq _ (fin _ rfl)
          · subst e
            rw [if_neg (by omega)] at hK
            subst hK
            simp (disch := omega) only [b_X6_kinds_0, x_loadR_0, x_loadS_0, x_loadI_1, x_loadI_2, x_storeI_4, x_loadI_4, y_if_eq_t, y_if_eq_f, b_X6_kinds_13, x_ret0, b_X6_kinds_16, x_loadI_3, x_iconst, y_if_ne_t, y_if_ne_f, b_X6_kinds_25, b_X6_kinds_28, f_6_1, y_iald_25, x_storeI_5, f_6_2, x_storeI_6, x_storeI_7, x_storeI_8, x_loadI_8, b_X6_kinds_56, x_goto, b_X6_kinds_61, b_X6_kinds_63, y_ic_ge_t, y_ic_ge_f, b_X6_kinds_66, b_X6_kinds_75, b_X6_kinds_80, x_loadI_5, b_X6_kinds_82, y_iast_25, y_ic_ne_t, y_ic_ne_f, b_X6_kinds_93, b_X6_kinds_98, x_loadI_6, b_X6_kinds_100, x_loadI_7, b_X6_kinds_113, x_ishl, b_X6_kinds_120, b_X6_kinds_121, x_ior, x_iinc_8, b_X6_kinds_130, q_isL_I, q_isL_R, q_isL_S, true_and, and_true, and_self, List.length_nil, List.length_cons, Nat.zero_add, x_K, x_Kn, Int.reduceToNat, Nat.reduceAdd, Nat.reduceMul, Nat.reduceLeDiff, Nat.reduceLT, Nat.zero_le, Int.reduceAdd, Int.reduceSub, Int.reduceMul, Int.reduceNeg, q_add_e, q_sub_e, q_mul_e, q_neg_e, q_upd_s, q_upd_n, zr_shr0, zr_shr1, zr_shr2, zr_shr3, zr_shr4, zr_and, zr_dyn8, zr_or, zr_shl, q_cpy_n, y_cpy26, Int.toNat_natCast]
            exact hq _ (fin _ rfl)
        | succ j ih =>
          intro k hk M1 h1
          have e0 : M1 100 0 = M 100 0 := h1 100 0 (by omega) (by omega) (by omega)
          have e5 : M1 100 5 = M 100 5 := h1 100 5 (by omega) (by omega) (by omega)
          have ez : M1 111 S = M 111 S := h1 111 S (by omega) (by omega) (by omega)
          have ih2 := ih (k + 1) (by omega)
          rw [G_set] at ih2
          rw [b_X6_kinds_50]
          rcases (show so = 0 ∨ so = 1 by omega) with e | e
          · subst e
            rw [if_pos rfl] at hK
            subst hK
            obtain ⟨m2, w2, f2⟩ := step M1 k 0 k (M 102 N) h1 (by omega) (fun _ => ⟨rfl, rfl, by omega⟩) (fun z => absurd z (by omega))
            simp (disch := omega) only [b_X6_kinds_0, x_loadR_0, x_loadS_0, x_loadI_1, x_loadI_2, x_storeI_4, x_loadI_4, y_if_eq_t, y_if_eq_f, b_X6_kinds_13, x_ret0, b_X6_kinds_16, x_loadI_3, x_iconst, y_if_ne_t, y_if_ne_f, b_X6_kinds_25, b_X6_kinds_28, f_6_1, y_iald_25, x_storeI_5, f_6_2, x_storeI_6, x_storeI_7, x_storeI_8, x_loadI_8, b_X6_kinds_56, x_goto, b_X6_kinds_61, b_X6_kinds_63, y_ic_ge_t, y_ic_ge_f, b_X6_kinds_66, b_X6_kinds_75, b_X6_kinds_80, x_loadI_5, b_X6_kinds_82, y_iast_25, y_ic_ne_t, y_ic_ne_f, b_X6_kinds_93, b_X6_kinds_98, x_loadI_6, b_X6_kinds_100, x_loadI_7, b_X6_kinds_113, x_ishl, b_X6_kinds_120, b_X6_kinds_121, x_ior, x_iinc_8, b_X6_kinds_130, q_isL_I, q_isL_R, q_isL_S, true_and, and_true, and_self, List.length_nil, List.length_cons, Nat.zero_add, x_K, x_Kn, Int.reduceToNat, Nat.reduceAdd, Nat.reduceMul, Nat.reduceLeDiff, Nat.reduceLT, Nat.zero_le, Int.reduceAdd, Int.reduceSub, Int.reduceMul, Int.reduceNeg, q_add_e, q_sub_e, q_mul_e, q_neg_e, q_upd_s, q_upd_n, zr_shr0, zr_shr1, zr_shr2, zr_shr3, zr_shr4, zr_and, zr_dyn8, zr_or, zr_shl, q_cpy_n, y_cpy26, Int.toNat_natCast, c_X6_unlike]
            refine mp_unlike m2 (by rw [q_upd_n (by omega), q_upd_n (by omega)]; omega) (by omega) (by rw [q_upd_n (by omega), q_upd_n (by omega)]; omega) (by rw [q_upd_n (by omega), q_upd_n (by omega)]; omega) (fun M3 h3 => ?_)
            have eT : G_foA V (q_upd (q_upd M1 101 N k) 102 N (M 102 N)) (mW (q_upd (q_upd M1 101 N k) 102 N (M 102 N))) S N = T k := by
              rw [← hT, w2]
              exact G_foA_mq (fun i => f2 112 i (by omega) (by omega) (by omega)) (f2 111 S (by omega) (by omega) (by omega))
            rw [eT]
            have f3 : q_m2 N M M3 := fun x i q1 q2 q3 => (h3 x i q1 q2).trans (f2 x i q1 q2 q3)
            by_cases c : T k = -1
            · rw [if_pos c] at ih2
              simp (disch := omega) only [b_X6_kinds_0, x_loadR_0, x_loadS_0, x_loadI_1, x_loadI_2, x_storeI_4, x_loadI_4, y_if_eq_t, y_if_eq_f, b_X6_kinds_13, x_ret0, b_X6_kinds_16, x_loadI_3, x_iconst, y_if_ne_t, y_if_ne_f, b_X6_kinds_25, b_X6_kinds_28, f_6_1, y_iald_25, x_storeI_5, f_6_2, x_storeI_6, x_storeI_7, x_storeI_8, x_loadI_8, b_X6_kinds_56, x_goto, b_X6_kinds_61, b_X6_kinds_63, y_ic_ge_t, y_ic_ge_f, b_X6_kinds_66, b_X6_kinds_75, b_X6_kinds_80, x_loadI_5, b_X6_kinds_82, y_iast_25, y_ic_ne_t, y_ic_ne_f, b_X6_kinds_93, b_X6_kinds_98, x_loadI_6, b_X6_kinds_100, x_loadI_7, b_X6_kinds_113, x_ishl, b_X6_kinds_120, b_X6_kinds_121, x_ior, x_iinc_8, b_X6_kinds_130, q_isL_I, q_isL_R, q_isL_S, true_and, and_true, and_self, List.length_nil, List.length_cons, Nat.zero_add, x_K, x_Kn, Int.reduceToNat, Nat.reduceAdd, Nat.reduceMul, Nat.reduceLeDiff, Nat.reduceLT, Nat.zero_le, Int.reduceAdd, Int.reduceSub, Int.reduceMul, Int.reduceNeg, q_add_e, q_sub_e, q_mul_e, q_neg_e, q_upd_s, q_upd_n, zr_shr0, zr_shr1, zr_shr2, zr_shr3, zr_shr4, zr_and, zr_dyn8, zr_or, zr_shl, q_cpy_n, y_cpy26]
              exact ih2 M3 f3
            · rw [if_neg c] at ih2
              simp (disch := omega) only [b_X6_kinds_0, x_loadR_0, x_loadS_0, x_loadI_1, x_loadI_2, x_storeI_4, x_loadI_4, y_if_eq_t, y_if_eq_f, b_X6_kinds_13, x_ret0, b_X6_kinds_16, x_loadI_3, x_iconst, y_if_ne_t, y_if_ne_f, b_X6_kinds_25, b_X6_kinds_28, f_6_1, y_iald_25, x_storeI_5, f_6_2, x_storeI_6, x_storeI_7, x_storeI_8, x_loadI_8, b_X6_kinds_56, x_goto, b_X6_kinds_61, b_X6_kinds_63, y_ic_ge_t, y_ic_ge_f, b_X6_kinds_66, b_X6_kinds_75, b_X6_kinds_80, x_loadI_5, b_X6_kinds_82, y_iast_25, y_ic_ne_t, y_ic_ne_f, b_X6_kinds_93, b_X6_kinds_98, x_loadI_6, b_X6_kinds_100, x_loadI_7, b_X6_kinds_113, x_ishl, b_X6_kinds_120, b_X6_kinds_121, x_ior, x_iinc_8, b_X6_kinds_130, q_isL_I, q_isL_R, q_isL_S, true_and, and_true, and_self, List.length_nil, List.length_cons, Nat.zero_add, x_K, x_Kn, Int.reduceToNat, Nat.reduceAdd, Nat.reduceMul, Nat.reduceLeDiff, Nat.reduceLT, Nat.zero_le, Int.reduceAdd, Int.reduceSub, Int.reduceMul, Int.reduceNeg, q_add_e, q_sub_e, q_mul_e, q_neg_e, q_upd_s, q_upd_n, zr_shr0, zr_shr1, zr_shr2, zr_shr3, zr_shr4, zr_and, zr_dyn8, zr_or, zr_shl, q_cpy_n, y_cpy26]
              exact ih2 M3 f3
          · subst e
            rw [if_neg (by omega)] at hK
            subst hK
            obtain ⟨m2, w2, f2⟩ := step M1 k 1 (M 101 N) k h1 (by omega) (fun z => absurd z (by omega)) (fun _ => ⟨rfl, rfl, by omega⟩)
            simp (disch := omega) only [b_X6_kinds_0, x_loadR_0, x_loadS_0, x_loadI_1, x_loadI_2, x_storeI_4, x_loadI_4, y_if_eq_t, y_if_eq_f, b_X6_kinds_13, x_ret0, b_X6_kinds_16, x_loadI_3, x_iconst, y_if_ne_t, y_if_ne_f, b_X6_kinds_25, b_X6_kinds_28, f_6_1, y_iald_25, x_storeI_5, f_6_2, x_storeI_6, x_storeI_7, x_storeI_8, x_loadI_8, b_X6_kinds_56, x_goto, b_X6_kinds_61, b_X6_kinds_63, y_ic_ge_t, y_ic_ge_f, b_X6_kinds_66, b_X6_kinds_75, b_X6_kinds_80, x_loadI_5, b_X6_kinds_82, y_iast_25, y_ic_ne_t, y_ic_ne_f, b_X6_kinds_93, b_X6_kinds_98, x_loadI_6, b_X6_kinds_100, x_loadI_7, b_X6_kinds_113, x_ishl, b_X6_kinds_120, b_X6_kinds_121, x_ior, x_iinc_8, b_X6_kinds_130, q_isL_I, q_isL_R, q_isL_S, true_and, and_true, and_self, List.length_nil, List.length_cons, Nat.zero_add, x_K, x_Kn, Int.reduceToNat, Nat.reduceAdd, Nat.reduceMul, Nat.reduceLeDiff, Nat.reduceLT, Nat.zero_le, Int.reduceAdd, Int.reduceSub, Int.reduceMul, Int.reduceNeg, q_add_e, q_sub_e, q_mul_e, q_neg_e, q_upd_s, q_upd_n, zr_shr0, zr_shr1, zr_shr2, zr_shr3, zr_shr4, zr_and, zr_dyn8, zr_or, zr_shl, q_cpy_n, y_cpy26, Int.toNat_natCast, c_X6_unlike]
            refine mp_unlike m2 (by rw [q_upd_n (by omega), q_upd_n (by omega)]; omega) (by omega) (by rw [q_upd_n (by omega), q_upd_n (by omega)]; omega) (by rw [q_upd_n (by omega), q_upd_n (by omega)]; omega) (fun M3 h3 => ?_)
            have eT : G_foA V (q_upd (q_upd M1 101 N (M 101 N)) 102 N k) (mW (q_upd (q_upd M1 101 N (M 101 N)) 102 N k)) S N = T k := by
              rw [← hT, w2]
              exact G_foA_mq (fun i => f2 112 i (by omega) (by omega) (by omega)) (f2 111 S (by omega) (by omega) (by omega))
            rw [eT]
            have f3 : q_m2 N M M3 := fun x i q1 q2 q3 => (h3 x i q1 q2).trans (f2 x i q1 q2 q3)
            by_cases c : T k = -1
            · rw [if_pos c] at ih2
              simp (disch := omega) only [b_X6_kinds_0, x_loadR_0, x_loadS_0, x_loadI_1, x_loadI_2, x_storeI_4, x_loadI_4, y_if_eq_t, y_if_eq_f, b_X6_kinds_13, x_ret0, b_X6_kinds_16, x_loadI_3, x_iconst, y_if_ne_t, y_if_ne_f, b_X6_kinds_25, b_X6_kinds_28, f_6_1, y_iald_25, x_storeI_5, f_6_2, x_storeI_6, x_storeI_7, x_storeI_8, x_loadI_8, b_X6_kinds_56, x_goto, b_X6_kinds_61, b_X6_kinds_63, y_ic_ge_t, y_ic_ge_f, b_X6_kinds_66, b_X6_kinds_75, b_X6_kinds_80, x_loadI_5, b_X6_kinds_82, y_iast_25, y_ic_ne_t, y_ic_ne_f, b_X6_kinds_93, b_X6_kinds_98, x_loadI_6, b_X6_kinds_100, x_loadI_7, b_X6_kinds_113, x_ishl, b_X6_kinds_120, b_X6_kinds_121, x_ior, x_iinc_8, b_X6_kinds_130, q_isL_I, q_isL_R, q_isL_S, true_and, and_true, and_self, List.length_nil, List.length_cons, Nat.zero_add, x_K, x_Kn, Int.reduceToNat, Nat.reduceAdd, Nat.reduceMul, Nat.reduceLeDiff, Nat.reduceLT, Nat.zero_le, Int.reduceAdd, Int.reduceSub, Int.reduceMul, Int.reduceNeg, q_add_e, q_sub_e, q_mul_e, q_neg_e, q_upd_s, q_upd_n, zr_shr0, zr_shr1, zr_shr2, zr_shr3, zr_shr4, zr_and, zr_dyn8, zr_or, zr_shl, q_cpy_n, y_cpy26]
              exact ih2 M3 f3
            · rw [if_neg c] at ih2
              simp (disch := omega) only [b_X6_kinds_0, x_loadR_0, x_loadS_0, x_loadI_1, x_loadI_2, x_storeI_4, x_loadI_4, y_if_eq_t, y_if_eq_f, b_X6_kinds_13, x_ret0, b_X6_kinds_16, x_loadI_3, x_iconst, y_if_ne_t, y_if_ne_f, b_X6_kinds_25, b_X6_kinds_28, f_6_1, y_iald_25, x_storeI_5, f_6_2, x_storeI_6, x_storeI_7, x_storeI_8, x_loadI_8, b_X6_kinds_56, x_goto, b_X6_kinds_61, b_X6_kinds_63, y_ic_ge_t, y_ic_ge_f, b_X6_kinds_66, b_X6_kinds_75, b_X6_kinds_80, x_loadI_5, b_X6_kinds_82, y_iast_25, y_ic_ne_t, y_ic_ne_f, b_X6_kinds_93, b_X6_kinds_98, x_loadI_6, b_X6_kinds_100, x_loadI_7, b_X6_kinds_113, x_ishl, b_X6_kinds_120, b_X6_kinds_121, x_ior, x_iinc_8, b_X6_kinds_130, q_isL_I, q_isL_R, q_isL_S, true_and, and_true, and_self, List.length_nil, List.length_cons, Nat.zero_add, x_K, x_Kn, Int.reduceToNat, Nat.reduceAdd, Nat.reduceMul, Nat.reduceLeDiff, Nat.reduceLT, Nat.zero_le, Int.reduceAdd, Int.reduceSub, Int.reduceMul, Int.reduceNeg, q_add_e, q_sub_e, q_mul_e, q_neg_e, q_upd_s, q_upd_n, zr_shr0, zr_shr1, zr_shr2, zr_shr3, zr_shr4, zr_and, zr_dyn8, zr_or, zr_shl, q_cpy_n, y_cpy26]
              exact ih2 M3 f3
      have l := fun K hK => loop K hK K 0 (by omega) M (fun _ _ _ _ _ => rfl)
      simp (disch := omega) only [b_X6_kinds_0, x_loadR_0, x_loadS_0, x_loadI_1, x_loadI_2, x_storeI_4, x_loadI_4, y_if_eq_t, y_if_eq_f, b_X6_kinds_13, x_ret0, b_X6_kinds_16, x_loadI_3, x_iconst, y_if_ne_t, y_if_ne_f, b_X6_kinds_25, b_X6_kinds_28, f_6_1, y_iald_25, x_storeI_5, f_6_2, x_storeI_6, x_storeI_7, x_storeI_8, x_loadI_8, b_X6_kinds_56, x_goto, b_X6_kinds_61, b_X6_kinds_63, y_ic_ge_t, y_ic_ge_f, b_X6_kinds_66, b_X6_kinds_75, b_X6_kinds_80, x_loadI_5, b_X6_kinds_82, y_iast_25, y_ic_ne_t, y_ic_ne_f, b_X6_kinds_93, b_X6_kinds_98, x_loadI_6, b_X6_kinds_100, x_loadI_7, b_X6_kinds_113, x_ishl, b_X6_kinds_120, b_X6_kinds_121, x_ior, x_iinc_8, b_X6_kinds_130, q_isL_I, q_isL_R, q_isL_S, true_and, and_true, and_self, List.length_nil, List.length_cons, Nat.zero_add, x_K, x_Kn, Int.reduceToNat, Nat.reduceAdd, Nat.reduceMul, Nat.reduceLeDiff, Nat.reduceLT, Nat.zero_le, Int.reduceAdd, Int.reduceSub, Int.reduceMul, Int.reduceNeg, q_add_e, q_sub_e, q_mul_e, q_neg_e, q_upd_s, q_upd_n, zr_shr0, zr_shr1, zr_shr2, zr_shr3, zr_shr4, zr_and, zr_dyn8, zr_or, zr_shl, q_cpy_n, y_cpy26, c_X6_toldWrong, mp_toldWrong, c_X6_in, mp_in, cs, and_self, if_true, Int.toNat_natCast]
      exact l _ rfl
    · rw [if_pos cs] at hq
      simp (disch := omega) only [b_X6_kinds_0, x_loadR_0, x_loadS_0, x_loadI_1, x_loadI_2, x_storeI_4, x_loadI_4, y_if_eq_t, y_if_eq_f, b_X6_kinds_13, x_ret0, b_X6_kinds_16, x_loadI_3, x_iconst, y_if_ne_t, y_if_ne_f, b_X6_kinds_25, b_X6_kinds_28, f_6_1, y_iald_25, x_storeI_5, f_6_2, x_storeI_6, x_storeI_7, x_storeI_8, x_loadI_8, b_X6_kinds_56, x_goto, b_X6_kinds_61, b_X6_kinds_63, y_ic_ge_t, y_ic_ge_f, b_X6_kinds_66, b_X6_kinds_75, b_X6_kinds_80, x_loadI_5, b_X6_kinds_82, y_iast_25, y_ic_ne_t, y_ic_ne_f, b_X6_kinds_93, b_X6_kinds_98, x_loadI_6, b_X6_kinds_100, x_loadI_7, b_X6_kinds_113, x_ishl, b_X6_kinds_120, b_X6_kinds_121, x_ior, x_iinc_8, b_X6_kinds_130, q_isL_I, q_isL_R, q_isL_S, true_and, and_true, and_self, List.length_nil, List.length_cons, Nat.zero_add, x_K, x_Kn, Int.reduceToNat, Nat.reduceAdd, Nat.reduceMul, Nat.reduceLeDiff, Nat.reduceLT, Nat.zero_le, Int.reduceAdd, Int.reduceSub, Int.reduceMul, Int.reduceNeg, q_add_e, q_sub_e, q_mul_e, q_neg_e, q_upd_s, q_upd_n, zr_shr0, zr_shr1, zr_shr2, zr_shr3, zr_shr4, zr_and, zr_dyn8, zr_or, zr_shl, q_cpy_n, y_cpy26, c_X6_toldWrong, mp_toldWrong, c_X6_in, mp_in, cs, if_false]
      exact hq M q_mq_rf
  · rw [if_pos c1] at hq
    simp (disch := omega) only [b_X6_kinds_0, x_loadR_0, x_loadS_0, x_loadI_1, x_loadI_2, x_storeI_4, x_loadI_4, y_if_eq_t, y_if_eq_f, b_X6_kinds_13, x_ret0, b_X6_kinds_16, x_loadI_3, x_iconst, y_if_ne_t, y_if_ne_f, b_X6_kinds_25, b_X6_kinds_28, f_6_1, y_iald_25, x_storeI_5, f_6_2, x_storeI_6, x_storeI_7, x_storeI_8, x_loadI_8, b_X6_kinds_56, x_goto, b_X6_kinds_61, b_X6_kinds_63, y_ic_ge_t, y_ic_ge_f, b_X6_kinds_66, b_X6_kinds_75, b_X6_kinds_80, x_loadI_5, b_X6_kinds_82, y_iast_25, y_ic_ne_t, y_ic_ne_f, b_X6_kinds_93, b_X6_kinds_98, x_loadI_6, b_X6_kinds_100, x_loadI_7, b_X6_kinds_113, x_ishl, b_X6_kinds_120, b_X6_kinds_121, x_ior, x_iinc_8, b_X6_kinds_130, q_isL_I, q_isL_R, q_isL_S, true_and, and_true, and_self, List.length_nil, List.length_cons, Nat.zero_add, x_K, x_Kn, Int.reduceToNat, Nat.reduceAdd, Nat.reduceMul, Nat.reduceLeDiff, Nat.reduceLT, Nat.zero_le, Int.reduceAdd, Int.reduceSub, Int.reduceMul, Int.reduceNeg, q_add_e, q_sub_e, q_mul_e, q_neg_e, q_upd_s, q_upd_n, zr_shr0, zr_shr1, zr_shr2, zr_shr3, zr_shr4, zr_and, zr_dyn8, zr_or, zr_shl, q_cpy_n, y_cpy26, c_X6_toldWrong, mp_toldWrong]
    exact hq M q_mq_rf
