/-! THE CLASS'S READER: words and numbers, by the machine -/
section LEXC
variable {md d : Nat} {P : q_P} {nx : Nat} {ops : List Instr} {ls st : List q_V} {g : q_G} {M : q_M} {Q : Option q_V → q_G → q_M → Prop}
theorem c_len {t : Nat} (h : t < 13) : q_T md (d + 1) P nx (.invokestatic 199 :: ops) ls (qS (16 + t) :: st) g M Q = (st.length ≤ 4 ∧ q_S md d 199 [qS (16 + t)] g M (q_K md (d + 1) P nx ops ls st Q)) :=
  q_T_callif (id := 199) (n := 1) rfl rfl rfl rfl rfl (by rw [show q_mK 199 = 50 from rfl]; unfold q_rcv; rw [if_neg (by decide), if_pos rfl]; simp [qS]; omega) (by simp [q_set, qS]) (Nat.le_of_ble_eq_true rfl)
theorem c_cha {t : Nat} {x : Int} (h : t < 13) : q_T md (d + 1) P nx (.invokestatic 200 :: ops) ls (qI x :: qS (16 + t) :: st) g M Q = (st.length ≤ 4 ∧ q_S md d 200 [qS (16 + t), qI x] g M (q_K md (d + 1) P nx ops ls st Q)) :=
  q_T_callif (id := 200) (n := 2) rfl rfl rfl rfl rfl (by rw [show q_mK 200 = 50 from rfl]; unfold q_rcv; rw [if_neg (by decide), if_pos rfl]; simp [qS]; omega) (by simp [q_set, qS, qI]) (Nat.le_of_ble_eq_true rfl)
end LEXC
theorem sp_isLetter {d : Nat} {g : q_G} {M : q_M} {v : Int} (Q : Option q_V → q_G → q_M → Prop) : q_S 1 d 39 [qI v] g M Q = Q (some (qI (if F_ltr v = true then 1 else 0))) g M := by
  rw [s_X1_isLetter]
  unfold F_ltr
  by_cases h1 : 97 ≤ v
  · by_cases h2 : v ≤ 122
    · rw [if_pos (decide_eq_true ⟨h1, h2⟩)]
      simp (disch := omega) only [b_X1_isLetter_0, x_loadI_0, x_iconst, y_ic_lt_t, y_ic_lt_f, b_X1_isLetter_6, y_ic_gt_t, y_ic_gt_f, b_X1_isLetter_12, x_goto, b_X1_isLetter_16, b_X1_isLetter_17, x_ret1_0, x_ret1_1, q_isL_I, q_isL_R, q_isL_S, true_and, and_true, and_self, List.length_nil, List.length_cons, Nat.zero_add, x_K, x_Kn, Int.reduceToNat, Nat.reduceAdd, Nat.reduceMul, Nat.reduceLeDiff, Nat.reduceLT, Nat.zero_le, Int.reduceAdd, Int.reduceSub, Int.reduceMul, Int.reduceNeg, q_add_e, q_sub_e, q_mul_e, q_neg_e, q_upd_s, q_upd_n, zr_shr0, zr_shr1, zr_shr2, zr_shr3, zr_shr4, zr_and, zr_dyn8, zr_or, zr_shl, q_cpy_n, y_cpy26]
    · rw [if_neg (fun z => h2 (of_decide_eq_true z).2)]
      simp (disch := omega) only [b_X1_isLetter_0, x_loadI_0, x_iconst, y_ic_lt_t, y_ic_lt_f, b_X1_isLetter_6, y_ic_gt_t, y_ic_gt_f, b_X1_isLetter_12, x_goto, b_X1_isLetter_16, b_X1_isLetter_17, x_ret1_0, x_ret1_1, q_isL_I, q_isL_R, q_isL_S, true_and, and_true, and_self, List.length_nil, List.length_cons, Nat.zero_add, x_K, x_Kn, Int.reduceToNat, Nat.reduceAdd, Nat.reduceMul, Nat.reduceLeDiff, Nat.reduceLT, Nat.zero_le, Int.reduceAdd, Int.reduceSub, Int.reduceMul, Int.reduceNeg, q_add_e, q_sub_e, q_mul_e, q_neg_e, q_upd_s, q_upd_n, zr_shr0, zr_shr1, zr_shr2, zr_shr3, zr_shr4, zr_and, zr_dyn8, zr_or, zr_shl, q_cpy_n, y_cpy26]
  · rw [if_neg (fun z => h1 (of_decide_eq_true z).1)]
    simp (disch := omega) only [b_X1_isLetter_0, x_loadI_0, x_iconst, y_ic_lt_t, y_ic_lt_f, b_X1_isLetter_6, y_ic_gt_t, y_ic_gt_f, b_X1_isLetter_12, x_goto, b_X1_isLetter_16, b_X1_isLetter_17, x_ret1_0, x_ret1_1, q_isL_I, q_isL_R, q_isL_S, true_and, and_true, and_self, List.length_nil, List.length_cons, Nat.zero_add, x_K, x_Kn, Int.reduceToNat, Nat.reduceAdd, Nat.reduceMul, Nat.reduceLeDiff, Nat.reduceLT, Nat.zero_le, Int.reduceAdd, Int.reduceSub, Int.reduceMul, Int.reduceNeg, q_add_e, q_sub_e, q_mul_e, q_neg_e, q_upd_s, q_upd_n, zr_shr0, zr_shr1, zr_shr2, zr_shr3, zr_shr4, zr_and, zr_dyn8, zr_or, zr_shl, q_cpy_n, y_cpy26]
theorem sp_isDigit {d : Nat} {g : q_G} {M : q_M} {v : Int} (Q : Option q_V → q_G → q_M → Prop) : q_S 1 d 40 [qI v] g M Q = Q (some (qI (if F_dgt v = true then 1 else 0))) g M := by
  rw [s_X1_isDigit]
  unfold F_dgt
  by_cases h1 : 48 ≤ v
  · by_cases h2 : v ≤ 57
    · rw [if_pos (decide_eq_true ⟨h1, h2⟩)]
      simp (disch := omega) only [b_X1_isDigit_0, x_loadI_0, x_iconst, y_ic_lt_t, y_ic_lt_f, b_X1_isDigit_6, y_ic_gt_t, y_ic_gt_f, b_X1_isDigit_12, x_goto, b_X1_isDigit_16, b_X1_isDigit_17, x_ret1_0, x_ret1_1, q_isL_I, q_isL_R, q_isL_S, true_and, and_true, and_self, List.length_nil, List.length_cons, Nat.zero_add, x_K, x_Kn, Int.reduceToNat, Nat.reduceAdd, Nat.reduceMul, Nat.reduceLeDiff, Nat.reduceLT, Nat.zero_le, Int.reduceAdd, Int.reduceSub, Int.reduceMul, Int.reduceNeg, q_add_e, q_sub_e, q_mul_e, q_neg_e, q_upd_s, q_upd_n, zr_shr0, zr_shr1, zr_shr2, zr_shr3, zr_shr4, zr_and, zr_dyn8, zr_or, zr_shl, q_cpy_n, y_cpy26]
    · rw [if_neg (fun z => h2 (of_decide_eq_true z).2)]
      simp (disch := omega) only [b_X1_isDigit_0, x_loadI_0, x_iconst, y_ic_lt_t, y_ic_lt_f, b_X1_isDigit_6, y_ic_gt_t, y_ic_gt_f, b_X1_isDigit_12, x_goto, b_X1_isDigit_16, b_X1_isDigit_17, x_ret1_0, x_ret1_1, q_isL_I, q_isL_R, q_isL_S, true_and, and_true, and_self, List.length_nil, List.length_cons, Nat.zero_add, x_K, x_Kn, Int.reduceToNat, Nat.reduceAdd, Nat.reduceMul, Nat.reduceLeDiff, Nat.reduceLT, Nat.zero_le, Int.reduceAdd, Int.reduceSub, Int.reduceMul, Int.reduceNeg, q_add_e, q_sub_e, q_mul_e, q_neg_e, q_upd_s, q_upd_n, zr_shr0, zr_shr1, zr_shr2, zr_shr3, zr_shr4, zr_and, zr_dyn8, zr_or, zr_shl, q_cpy_n, y_cpy26]
  · rw [if_neg (fun z => h1 (of_decide_eq_true z).1)]
    simp (disch := omega) only [b_X1_isDigit_0, x_loadI_0, x_iconst, y_ic_lt_t, y_ic_lt_f, b_X1_isDigit_6, y_ic_gt_t, y_ic_gt_f, b_X1_isDigit_12, x_goto, b_X1_isDigit_16, b_X1_isDigit_17, x_ret1_0, x_ret1_1, q_isL_I, q_isL_R, q_isL_S, true_and, and_true, and_self, List.length_nil, List.length_cons, Nat.zero_add, x_K, x_Kn, Int.reduceToNat, Nat.reduceAdd, Nat.reduceMul, Nat.reduceLeDiff, Nat.reduceLT, Nat.zero_le, Int.reduceAdd, Int.reduceSub, Int.reduceMul, Int.reduceNeg, q_add_e, q_sub_e, q_mul_e, q_neg_e, q_upd_s, q_upd_n, zr_shr0, zr_shr1, zr_shr2, zr_shr3, zr_shr4, zr_and, zr_dyn8, zr_or, zr_shl, q_cpy_n, y_cpy26]
theorem sp_isSign {d : Nat} {g : q_G} {M : q_M} {v : Int} (Q : Option q_V → q_G → q_M → Prop) : q_S 1 d 41 [qI v] g M Q = Q (some (qI (if F_sgn v = true then 1 else 0))) g M := by
  refine q_S_eq (fun Q hq => ?_) Q
  rw [s_X1_isSign]
  unfold F_sgn at hq
  by_cases h1 : v = 40
  · rw [if_pos (decide_eq_true (by omega))] at hq
    simp (disch := omega) only [b_X1_isSign_0, x_loadI_0, x_iconst, y_ic_eq_t, y_ic_eq_f, b_X1_isSign_6, b_X1_isSign_12, b_X1_isSign_18, b_X1_isSign_24, b_X1_isSign_30, b_X1_isSign_36, b_X1_isSign_42, y_ic_ne_t, y_ic_ne_f, b_X1_isSign_48, x_goto, b_X1_isSign_52, b_X1_isSign_53, x_ret1_0, x_ret1_1, q_isL_I, q_isL_R, q_isL_S, true_and, and_true, and_self, List.length_nil, List.length_cons, Nat.zero_add, x_K, x_Kn, Int.reduceToNat, Nat.reduceAdd, Nat.reduceMul, Nat.reduceLeDiff, Nat.reduceLT, Nat.zero_le, Int.reduceAdd, Int.reduceSub, Int.reduceMul, Int.reduceNeg, q_add_e, q_sub_e, q_mul_e, q_neg_e, q_upd_s, q_upd_n, zr_shr0, zr_shr1, zr_shr2, zr_shr3, zr_shr4, zr_and, zr_dyn8, zr_or, zr_shl, q_cpy_n, y_cpy26]
    exact hq
  by_cases h2 : v = 41
  · rw [if_pos (decide_eq_true (by omega))] at hq
    simp (disch := omega) only [b_X1_isSign_0, x_loadI_0, x_iconst, y_ic_eq_t, y_ic_eq_f, b_X1_isSign_6, b_X1_isSign_12, b_X1_isSign_18, b_X1_isSign_24, b_X1_isSign_30, b_X1_isSign_36, b_X1_isSign_42, y_ic_ne_t, y_ic_ne_f, b_X1_isSign_48, x_goto, b_X1_isSign_52, b_X1_isSign_53, x_ret1_0, x_ret1_1, q_isL_I, q_isL_R, q_isL_S, true_and, and_true, and_self, List.length_nil, List.length_cons, Nat.zero_add, x_K, x_Kn, Int.reduceToNat, Nat.reduceAdd, Nat.reduceMul, Nat.reduceLeDiff, Nat.reduceLT, Nat.zero_le, Int.reduceAdd, Int.reduceSub, Int.reduceMul, Int.reduceNeg, q_add_e, q_sub_e, q_mul_e, q_neg_e, q_upd_s, q_upd_n, zr_shr0, zr_shr1, zr_shr2, zr_shr3, zr_shr4, zr_and, zr_dyn8, zr_or, zr_shl, q_cpy_n, y_cpy26]
    exact hq
  by_cases h3 : v = 59
  · rw [if_pos (decide_eq_true (by omega))] at hq
    simp (disch := omega) only [b_X1_isSign_0, x_loadI_0, x_iconst, y_ic_eq_t, y_ic_eq_f, b_X1_isSign_6, b_X1_isSign_12, b_X1_isSign_18, b_X1_isSign_24, b_X1_isSign_30, b_X1_isSign_36, b_X1_isSign_42, y_ic_ne_t, y_ic_ne_f, b_X1_isSign_48, x_goto, b_X1_isSign_52, b_X1_isSign_53, x_ret1_0, x_ret1_1, q_isL_I, q_isL_R, q_isL_S, true_and, and_true, and_self, List.length_nil, List.length_cons, Nat.zero_add, x_K, x_Kn, Int.reduceToNat, Nat.reduceAdd, Nat.reduceMul, Nat.reduceLeDiff, Nat.reduceLT, Nat.zero_le, Int.reduceAdd, Int.reduceSub, Int.reduceMul, Int.reduceNeg, q_add_e, q_sub_e, q_mul_e, q_neg_e, q_upd_s, q_upd_n, zr_shr0, zr_shr1, zr_shr2, zr_shr3, zr_shr4, zr_and, zr_dyn8, zr_or, zr_shl, q_cpy_n, y_cpy26]
    exact hq
  by_cases h4 : v = 43
  · rw [if_pos (decide_eq_true (by omega))] at hq
    simp (disch := omega) only [b_X1_isSign_0, x_loadI_0, x_iconst, y_ic_eq_t, y_ic_eq_f, b_X1_isSign_6, b_X1_isSign_12, b_X1_isSign_18, b_X1_isSign_24, b_X1_isSign_30, b_X1_isSign_36, b_X1_isSign_42, y_ic_ne_t, y_ic_ne_f, b_X1_isSign_48, x_goto, b_X1_isSign_52, b_X1_isSign_53, x_ret1_0, x_ret1_1, q_isL_I, q_isL_R, q_isL_S, true_and, and_true, and_self, List.length_nil, List.length_cons, Nat.zero_add, x_K, x_Kn, Int.reduceToNat, Nat.reduceAdd, Nat.reduceMul, Nat.reduceLeDiff, Nat.reduceLT, Nat.zero_le, Int.reduceAdd, Int.reduceSub, Int.reduceMul, Int.reduceNeg, q_add_e, q_sub_e, q_mul_e, q_neg_e, q_upd_s, q_upd_n, zr_shr0, zr_shr1, zr_shr2, zr_shr3, zr_shr4, zr_and, zr_dyn8, zr_or, zr_shl, q_cpy_n, y_cpy26]
    exact hq
  by_cases h5 : v = 45
  · rw [if_pos (decide_eq_true (by omega))] at hq
    simp (disch := omega) only [b_X1_isSign_0, x_loadI_0, x_iconst, y_ic_eq_t, y_ic_eq_f, b_X1_isSign_6, b_X1_isSign_12, b_X1_isSign_18, b_X1_isSign_24, b_X1_isSign_30, b_X1_isSign_36, b_X1_isSign_42, y_ic_ne_t, y_ic_ne_f, b_X1_isSign_48, x_goto, b_X1_isSign_52, b_X1_isSign_53, x_ret1_0, x_ret1_1, q_isL_I, q_isL_R, q_isL_S, true_and, and_true, and_self, List.length_nil, List.length_cons, Nat.zero_add, x_K, x_Kn, Int.reduceToNat, Nat.reduceAdd, Nat.reduceMul, Nat.reduceLeDiff, Nat.reduceLT, Nat.zero_le, Int.reduceAdd, Int.reduceSub, Int.reduceMul, Int.reduceNeg, q_add_e, q_sub_e, q_mul_e, q_neg_e, q_upd_s, q_upd_n, zr_shr0, zr_shr1, zr_shr2, zr_shr3, zr_shr4, zr_and, zr_dyn8, zr_or, zr_shl, q_cpy_n, y_cpy26]
    exact hq
  by_cases h6 : v = 42
  · rw [if_pos (decide_eq_true (by omega))] at hq
    simp (disch := omega) only [b_X1_isSign_0, x_loadI_0, x_iconst, y_ic_eq_t, y_ic_eq_f, b_X1_isSign_6, b_X1_isSign_12, b_X1_isSign_18, b_X1_isSign_24, b_X1_isSign_30, b_X1_isSign_36, b_X1_isSign_42, y_ic_ne_t, y_ic_ne_f, b_X1_isSign_48, x_goto, b_X1_isSign_52, b_X1_isSign_53, x_ret1_0, x_ret1_1, q_isL_I, q_isL_R, q_isL_S, true_and, and_true, and_self, List.length_nil, List.length_cons, Nat.zero_add, x_K, x_Kn, Int.reduceToNat, Nat.reduceAdd, Nat.reduceMul, Nat.reduceLeDiff, Nat.reduceLT, Nat.zero_le, Int.reduceAdd, Int.reduceSub, Int.reduceMul, Int.reduceNeg, q_add_e, q_sub_e, q_mul_e, q_neg_e, q_upd_s, q_upd_n, zr_shr0, zr_shr1, zr_shr2, zr_shr3, zr_shr4, zr_and, zr_dyn8, zr_or, zr_shl, q_cpy_n, y_cpy26]
    exact hq
  by_cases h7 : v = 60
  · rw [if_pos (decide_eq_true (by omega))] at hq
    simp (disch := omega) only [b_X1_isSign_0, x_loadI_0, x_iconst, y_ic_eq_t, y_ic_eq_f, b_X1_isSign_6, b_X1_isSign_12, b_X1_isSign_18, b_X1_isSign_24, b_X1_isSign_30, b_X1_isSign_36, b_X1_isSign_42, y_ic_ne_t, y_ic_ne_f, b_X1_isSign_48, x_goto, b_X1_isSign_52, b_X1_isSign_53, x_ret1_0, x_ret1_1, q_isL_I, q_isL_R, q_isL_S, true_and, and_true, and_self, List.length_nil, List.length_cons, Nat.zero_add, x_K, x_Kn, Int.reduceToNat, Nat.reduceAdd, Nat.reduceMul, Nat.reduceLeDiff, Nat.reduceLT, Nat.zero_le, Int.reduceAdd, Int.reduceSub, Int.reduceMul, Int.reduceNeg, q_add_e, q_sub_e, q_mul_e, q_neg_e, q_upd_s, q_upd_n, zr_shr0, zr_shr1, zr_shr2, zr_shr3, zr_shr4, zr_and, zr_dyn8, zr_or, zr_shl, q_cpy_n, y_cpy26]
    exact hq
  by_cases h8 : v = 61
  · rw [if_pos (decide_eq_true (by omega))] at hq
    simp (disch := omega) only [b_X1_isSign_0, x_loadI_0, x_iconst, y_ic_eq_t, y_ic_eq_f, b_X1_isSign_6, b_X1_isSign_12, b_X1_isSign_18, b_X1_isSign_24, b_X1_isSign_30, b_X1_isSign_36, b_X1_isSign_42, y_ic_ne_t, y_ic_ne_f, b_X1_isSign_48, x_goto, b_X1_isSign_52, b_X1_isSign_53, x_ret1_0, x_ret1_1, q_isL_I, q_isL_R, q_isL_S, true_and, and_true, and_self, List.length_nil, List.length_cons, Nat.zero_add, x_K, x_Kn, Int.reduceToNat, Nat.reduceAdd, Nat.reduceMul, Nat.reduceLeDiff, Nat.reduceLT, Nat.zero_le, Int.reduceAdd, Int.reduceSub, Int.reduceMul, Int.reduceNeg, q_add_e, q_sub_e, q_mul_e, q_neg_e, q_upd_s, q_upd_n, zr_shr0, zr_shr1, zr_shr2, zr_shr3, zr_shr4, zr_and, zr_dyn8, zr_or, zr_shl, q_cpy_n, y_cpy26]
    exact hq
  · rw [if_neg (fun z => by have := of_decide_eq_true z; omega)] at hq
    simp (disch := omega) only [b_X1_isSign_0, x_loadI_0, x_iconst, y_ic_eq_t, y_ic_eq_f, b_X1_isSign_6, b_X1_isSign_12, b_X1_isSign_18, b_X1_isSign_24, b_X1_isSign_30, b_X1_isSign_36, b_X1_isSign_42, y_ic_ne_t, y_ic_ne_f, b_X1_isSign_48, x_goto, b_X1_isSign_52, b_X1_isSign_53, x_ret1_0, x_ret1_1, q_isL_I, q_isL_R, q_isL_S, true_and, and_true, and_self, List.length_nil, List.length_cons, Nat.zero_add, x_K, x_Kn, Int.reduceToNat, Nat.reduceAdd, Nat.reduceMul, Nat.reduceLeDiff, Nat.reduceLT, Nat.zero_le, Int.reduceAdd, Int.reduceSub, Int.reduceMul, Int.reduceNeg, q_add_e, q_sub_e, q_mul_e, q_neg_e, q_upd_s, q_upd_n, zr_shr0, zr_shr1, zr_shr2, zr_shr3, zr_shr4, zr_and, zr_dyn8, zr_or, zr_shl, q_cpy_n, y_cpy26]
    exact hq
theorem F_sm_f {T : Nat → Int} {i j : Nat} : ∀ m k : Nat, k ≤ m → F_sm T i j k = false → F_sm T i j m = false
  | 0, k, h, e => by
    have e2 : k = 0 := by omega
    subst e2
    exact e
  | m + 1, k, h, e => by
    by_cases c : k = m + 1
    · subst c
      exact e
    · rw [F_sm, F_sm_f m k (by omega) e]
      rfl
set_option maxHeartbeats 4000000 in
theorem sp_mean {d : Nat} {g : q_G} {M : q_M} {cn tok val ft t v : Int} {C s : Nat → Int} {i b j : Nat} {Q : Option q_V → q_G → q_M → Prop} (hib : i ≤ b) (hb : b ≤ 160) (hj1 : 1 ≤ j) (hj2 : j < 13) (hq : Q none g (q_zM M (cn, (R_m (M 2) i b j t v (tok, val)).1, (R_m (M 2) i b j t v (tok, val)).2, i, b, ft, C) s)) : q_S 1 (d + 5) 38 [qR 1 1, qS (16 + j), qI t, qI v] g (q_zM M (cn, tok, val, i, b, ft, C) s) Q := by
  have hsl := q_slen_1 hj1 hj2
  rw [s_X1_mean]
  unfold R_m F_is at hq
  by_cases c1 : q_slen j = (b : Int) - i
  · have hlen : ∀ k : Nat, k = (q_slen j).toNat → (k : Int) = q_slen j := fun k hk => by omega
    have loop : ∀ e k : Nat, (k : Int) + e = q_slen j → F_sm (M 2) i j k = true → q_T 1 (d + 5) qP_X1_mean 26 [] [qR 1 1, qS (16 + j), qI t, qI v, qI 1, qI k] [] g (q_zM M (cn, tok, val, i, b, ft, C) s) Q := by
      intro e
      induction e with
      | zero =>
        intro k hk hs
        have e2 : (q_slen j).toNat = k := by omega
        rw [e2, hs, decide_eq_true c1] at hq
        rw [b_X1_mean_26]
        simp (disch := omega) only [b_X1_mean_0, x_loadR_1, x_loadS_1, x_loadR_0, x_loadS_0, f_1_8, f_1_7, x_isub, y_ic_ne_t, y_ic_ne_f, b_X1_mean_16, x_iconst, x_goto, b_X1_mean_20, b_X1_mean_21, x_storeI_4, x_storeI_5, x_loadI_4, y_if_eq_t, y_if_eq_f, b_X1_mean_31, x_loadI_5, y_ic_ge_t, y_ic_ge_f, b_X1_mean_40, f_1_0, x_iadd, y_iald_180, b_X1_mean_61, b_X1_mean_65, b_X1_mean_66, x_iinc_5, b_X1_mean_74, b_X1_mean_79, x_loadI_2, p_1_5, x_loadI_3, p_1_6, b_X1_mean_89, x_vret, q_isL_I, q_isL_R, q_isL_S, true_and, and_true, and_self, List.length_nil, List.length_cons, Nat.zero_add, x_K, x_Kn, Int.reduceToNat, Nat.reduceAdd, Nat.reduceMul, Nat.reduceLeDiff, Nat.reduceLT, Nat.zero_le, Int.reduceAdd, Int.reduceSub, Int.reduceMul, Int.reduceNeg, q_add_e, q_sub_e, q_mul_e, q_neg_e, q_upd_s, q_upd_n, zr_shr0, zr_shr1, zr_shr2, zr_shr3, zr_shr4, zr_and, zr_dyn8, zr_or, zr_shl, q_cpy_n, y_cpy26, c_len, sp_length]
        simp only [ru_tok, ru_val]
        exact hq
      | succ e ih =>
        intro k hk hs
        have t1 : ((i : Int) + k).toNat = i + k := by omega
        have ih2 := ih (k + 1) (by omega)
        rw [b_X1_mean_26]
        by_cases c2 : M 2 (i + k) = q_sch j k
        · have hs2 : F_sm (M 2) i j (k + 1) = true := by rw [F_sm, hs, decide_eq_true c2]; rfl
          simp (disch := omega) only [b_X1_mean_0, x_loadR_1, x_loadS_1, x_loadR_0, x_loadS_0, f_1_8, f_1_7, x_isub, y_ic_ne_t, y_ic_ne_f, b_X1_mean_16, x_iconst, x_goto, b_X1_mean_20, b_X1_mean_21, x_storeI_4, x_storeI_5, x_loadI_4, y_if_eq_t, y_if_eq_f, b_X1_mean_31, x_loadI_5, y_ic_ge_t, y_ic_ge_f, b_X1_mean_40, f_1_0, x_iadd, y_iald_180, b_X1_mean_61, b_X1_mean_65, b_X1_mean_66, x_iinc_5, b_X1_mean_74, b_X1_mean_79, x_loadI_2, p_1_5, x_loadI_3, p_1_6, b_X1_mean_89, x_vret, q_isL_I, q_isL_R, q_isL_S, true_and, and_true, and_self, List.length_nil, List.length_cons, Nat.zero_add, x_K, x_Kn, Int.reduceToNat, Nat.reduceAdd, Nat.reduceMul, Nat.reduceLeDiff, Nat.reduceLT, Nat.zero_le, Int.reduceAdd, Int.reduceSub, Int.reduceMul, Int.reduceNeg, q_add_e, q_sub_e, q_mul_e, q_neg_e, q_upd_s, q_upd_n, zr_shr0, zr_shr1, zr_shr2, zr_shr3, zr_shr4, zr_and, zr_dyn8, zr_or, zr_shl, q_cpy_n, y_cpy26, c_len, sp_length, c_cha, sp_charAt, rr_tape, rr_fr, t1, c2]
          exact ih2 hs2
        · have hs2 : F_sm (M 2) i j (k + 1) = false := by rw [F_sm, hs, decide_eq_false c2]; rfl
          have hs3 := F_sm_f (q_slen j).toNat (k + 1) (by omega) hs2
          rw [hs3, Bool.and_false, if_neg (by decide)] at hq
          simp (disch := omega) only [b_X1_mean_0, x_loadR_1, x_loadS_1, x_loadR_0, x_loadS_0, f_1_8, f_1_7, x_isub, y_ic_ne_t, y_ic_ne_f, b_X1_mean_16, x_iconst, x_goto, b_X1_mean_20, b_X1_mean_21, x_storeI_4, x_storeI_5, x_loadI_4, y_if_eq_t, y_if_eq_f, b_X1_mean_31, x_loadI_5, y_ic_ge_t, y_ic_ge_f, b_X1_mean_40, f_1_0, x_iadd, y_iald_180, b_X1_mean_61, b_X1_mean_65, b_X1_mean_66, x_iinc_5, b_X1_mean_74, b_X1_mean_79, x_loadI_2, p_1_5, x_loadI_3, p_1_6, b_X1_mean_89, x_vret, q_isL_I, q_isL_R, q_isL_S, true_and, and_true, and_self, List.length_nil, List.length_cons, Nat.zero_add, x_K, x_Kn, Int.reduceToNat, Nat.reduceAdd, Nat.reduceMul, Nat.reduceLeDiff, Nat.reduceLT, Nat.zero_le, Int.reduceAdd, Int.reduceSub, Int.reduceMul, Int.reduceNeg, q_add_e, q_sub_e, q_mul_e, q_neg_e, q_upd_s, q_upd_n, zr_shr0, zr_shr1, zr_shr2, zr_shr3, zr_shr4, zr_and, zr_dyn8, zr_or, zr_shl, q_cpy_n, y_cpy26, c_len, sp_length, c_cha, sp_charAt, rr_tape, rr_fr, t1]
          simp (disch := omega) only [b_X1_mean_0, x_loadR_1, x_loadS_1, x_loadR_0, x_loadS_0, f_1_8, f_1_7, x_isub, y_ic_ne_t, y_ic_ne_f, b_X1_mean_16, x_iconst, x_goto, b_X1_mean_20, b_X1_mean_21, x_storeI_4, x_storeI_5, b_X1_mean_26, x_loadI_4, y_if_eq_t, y_if_eq_f, b_X1_mean_31, x_loadI_5, y_ic_ge_t, y_ic_ge_f, b_X1_mean_40, f_1_0, x_iadd, y_iald_180, b_X1_mean_61, b_X1_mean_65, b_X1_mean_66, x_iinc_5, b_X1_mean_74, b_X1_mean_79, x_loadI_2, p_1_5, x_loadI_3, p_1_6, b_X1_mean_89, x_vret, q_isL_I, q_isL_R, q_isL_S, true_and, and_true, and_self, List.length_nil, List.length_cons, Nat.zero_add, x_K, x_Kn, Int.reduceToNat, Nat.reduceAdd, Nat.reduceMul, Nat.reduceLeDiff, Nat.reduceLT, Nat.zero_le, Int.reduceAdd, Int.reduceSub, Int.reduceMul, Int.reduceNeg, q_add_e, q_sub_e, q_mul_e, q_neg_e, q_upd_s, q_upd_n, zr_shr0, zr_shr1, zr_shr2, zr_shr3, zr_shr4, zr_and, zr_dyn8, zr_or, zr_shl, q_cpy_n, y_cpy26]
          exact hq
    simp (disch := omega) only [b_X1_mean_0, x_loadR_1, x_loadS_1, x_loadR_0, x_loadS_0, f_1_8, f_1_7, x_isub, y_ic_ne_t, y_ic_ne_f, b_X1_mean_16, x_iconst, x_goto, b_X1_mean_20, b_X1_mean_21, x_storeI_4, x_storeI_5, x_loadI_4, y_if_eq_t, y_if_eq_f, b_X1_mean_31, x_loadI_5, y_ic_ge_t, y_ic_ge_f, b_X1_mean_40, f_1_0, x_iadd, y_iald_180, b_X1_mean_61, b_X1_mean_65, b_X1_mean_66, x_iinc_5, b_X1_mean_74, b_X1_mean_79, x_loadI_2, p_1_5, x_loadI_3, p_1_6, b_X1_mean_89, x_vret, q_isL_I, q_isL_R, q_isL_S, true_and, and_true, and_self, List.length_nil, List.length_cons, Nat.zero_add, x_K, x_Kn, Int.reduceToNat, Nat.reduceAdd, Nat.reduceMul, Nat.reduceLeDiff, Nat.reduceLT, Nat.zero_le, Int.reduceAdd, Int.reduceSub, Int.reduceMul, Int.reduceNeg, q_add_e, q_sub_e, q_mul_e, q_neg_e, q_upd_s, q_upd_n, zr_shr0, zr_shr1, zr_shr2, zr_shr3, zr_shr4, zr_and, zr_dyn8, zr_or, zr_shl, q_cpy_n, y_cpy26, c_len, sp_length, rr_fr, rr_bh]
    exact loop (q_slen j).toNat 0 (by omega) rfl
  · rw [decide_eq_false c1, Bool.false_and, if_neg (by decide)] at hq
    simp (disch := omega) only [b_X1_mean_0, x_loadR_1, x_loadS_1, x_loadR_0, x_loadS_0, f_1_8, f_1_7, x_isub, y_ic_ne_t, y_ic_ne_f, b_X1_mean_16, x_iconst, x_goto, b_X1_mean_20, b_X1_mean_21, x_storeI_4, x_storeI_5, b_X1_mean_26, x_loadI_4, y_if_eq_t, y_if_eq_f, b_X1_mean_31, x_loadI_5, y_ic_ge_t, y_ic_ge_f, b_X1_mean_40, f_1_0, x_iadd, y_iald_180, b_X1_mean_61, b_X1_mean_65, b_X1_mean_66, x_iinc_5, b_X1_mean_74, b_X1_mean_79, x_loadI_2, p_1_5, x_loadI_3, p_1_6, b_X1_mean_89, x_vret, q_isL_I, q_isL_R, q_isL_S, true_and, and_true, and_self, List.length_nil, List.length_cons, Nat.zero_add, x_K, x_Kn, Int.reduceToNat, Nat.reduceAdd, Nat.reduceMul, Nat.reduceLeDiff, Nat.reduceLT, Nat.zero_le, Int.reduceAdd, Int.reduceSub, Int.reduceMul, Int.reduceNeg, q_add_e, q_sub_e, q_mul_e, q_neg_e, q_upd_s, q_upd_n, zr_shr0, zr_shr1, zr_shr2, zr_shr3, zr_shr4, zr_and, zr_dyn8, zr_or, zr_shl, q_cpy_n, y_cpy26, c_len, sp_length, rr_fr, rr_bh]
    exact hq
