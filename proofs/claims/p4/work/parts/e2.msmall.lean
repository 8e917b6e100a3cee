/-! THE MODEL: its small calls answer, and all stays within its bounds -/
theorem G_goto_6 {V : Nat → (Nat → Int) → Int} {S : q_M} {p b i : Nat} : (G_goto V S p b).2 6 i = S 6 i := by
  have h1 : F_S1 V S p b 6 i = S 6 i := q_upd_n (by omega)
  unfold G_goto
  split
  · split
    · show G_S2 V (F_S1 V S p b) p b 6 i = S 6 i
      unfold G_S2
      rw [q_upd_n (by omega)]
      split
      · rw [q_upd_n (by omega)]
        exact h1
      · rw [q_upd_n (by omega), q_upd_n (by omega)]
        exact h1
    · exact h1
  · exact h1
theorem G_turn_6 {V : Nat → (Nat → Int) → Int} {S : q_M} {p i : Nat} : (G_turn V S p).2 6 i = S 6 i := by
  unfold G_turn
  split
  · rfl
  · exact G_goto_6
theorem G_yr_6 {V : Nat → (Nat → Int) → Int} {S : q_M} {i : Nat} : ∀ p : Nat, (G_yr V S p).2 6 i = S 6 i
  | 0 => rfl
  | p + 1 => by
    rw [G_yr]
    split
    · show (G_turn V (G_yr V S p).2 p).2 6 i = S 6 i
      rw [G_turn_6]
      exact G_yr_6 p
    · exact G_yr_6 p
theorem G_year_6 {V : Nat → (Nat → Int) → Int} {S : q_M} {i : Nat} : (G_year V S).2 6 i = S 6 i := by
  unfold G_year
  show q_upd (G_yr V S (F_n S)).2 9 1 (S 9 1 + 1) 6 i = S 6 i
  rw [q_upd_n (by omega)]
  exact G_yr_6 _
theorem q_MI_yr {Vt : Nat → Nat → (Nat → Int) → Int} {tm : Nat} {V : Nat → (Nat → Int) → Int} {M M2 : q_M} (hI : q_MI Vt tm M) (hm : q_ml V M2) (hy : M2 100 5 ≤ 999) (hw : mW M2 = (G_year V (mW M)).2) (h : q_mz M M2) : q_MI Vt tm M2 := by
  obtain ⟨g1, g2, g3, g4, g5, g6, g7, g8, g9⟩ := hI
  refine ⟨hm.1, hy, fun b hb => ?_, fun s hs => ?_, q_mtx_mq (fun a i ha => h a i (by omega) (by omega) (by omega) (by omega) (by omega)) g5, ?_, ?_, q_img_same (fun a i ha => h a i (by omega) (by omega) (by omega) (by omega) (by omega)) g8, ?_⟩
  · have e : M2 103 (4 * b + 1) = M 103 (4 * b + 1) := by rw [← mW_6 (M := M2) hb, hw, G_year_6, mW_6 hb]
    rw [e]
    exact g3 b hb
  · rw [h 111 s (by omega) (by omega) (by omega) (by omega) (by omega)]
    exact g4 s hs
  · rw [h 100 11 (by omega) (by omega) (by omega) (by omega) (by omega)]
    exact g6
  · rw [h 100 7 (by omega) (by omega) (by omega) (by omega) (by omega)]
    exact g7
  · rw [h 100 12 (by omega) (by omega) (by omega) (by omega) (by omega)]
    exact g9
set_option maxHeartbeats 4000000 in
theorem mw_count {Vt : Nat → Nat → (Nat → Int) → Int} {d tm : Nat} {g : q_G} {M : q_M} {w : Int} {Q : Option q_V → q_G → q_M → Prop} (hI : q_MI Vt tm M) (hq : ∀ (v : Int) (M2 : q_M), q_MI Vt tm M2 → q_mfr M M2 → Q (some (qI v)) g M2) : q_S 1 (d + 10) 117 [qR 6 100, qI w] g M Q := by
  have n0 := hI.1.1
  rw [s_X6_count]
  have hin := hI.1.2.2.2.2.2.2.1
  have n0a := n0.1
  have n0b := n0.2
  rcases (show w < 0 ∨ w = 0 ∨ w = 1 ∨ w = 2 ∨ w = 3 ∨ w = 4 ∨ w = 5 ∨ 5 < w by omega) with k | k | k | k | k | k | k | k
  · rw [b_X6_count_0, x_loadI_1]
    rw [y_tsw_o (Or.inl k)]
    simp (disch := omega) only [b_X6_count_0, x_loadI_1, tw_8_0, tw_8_1, tw_8_2, tw_8_3, tw_8_4, tw_8_5, tw_8_o, b_X6_count_40, x_loadR_0, x_loadS_0, f_6_0, x_ret0, b_X6_count_45, f_6_5, b_X6_count_50, b_X6_count_55, f_6_10, b_X6_count_60, f_6_11, b_X6_count_65, f_6_7, b_X6_count_70, x_iconst, q_isL_I, q_isL_R, q_isL_S, true_and, and_true, and_self, List.length_nil, List.length_cons, Nat.zero_add, x_K, x_Kn, Int.reduceToNat, Nat.reduceAdd, Nat.reduceMul, Nat.reduceLeDiff, Nat.reduceLT, Nat.zero_le, Int.reduceAdd, Int.reduceSub, Int.reduceMul, Int.reduceNeg, q_add_e, q_sub_e, q_mul_e, q_neg_e, q_upd_s, q_upd_n, zr_shr0, zr_shr1, zr_shr2, zr_shr3, zr_shr4, zr_and, zr_dyn8, zr_or, zr_shl, q_cpy_n, y_cpy26]
    exact hq _ _ hI q_mfr_rf
  · subst k
    simp (disch := omega) only [b_X6_count_0, x_loadI_1, tw_8_0, tw_8_1, tw_8_2, tw_8_3, tw_8_4, tw_8_5, tw_8_o, b_X6_count_40, x_loadR_0, x_loadS_0, f_6_0, x_ret0, b_X6_count_45, f_6_5, b_X6_count_50, b_X6_count_55, f_6_10, b_X6_count_60, f_6_11, b_X6_count_65, f_6_7, b_X6_count_70, x_iconst, q_isL_I, q_isL_R, q_isL_S, true_and, and_true, and_self, List.length_nil, List.length_cons, Nat.zero_add, x_K, x_Kn, Int.reduceToNat, Nat.reduceAdd, Nat.reduceMul, Nat.reduceLeDiff, Nat.reduceLT, Nat.zero_le, Int.reduceAdd, Int.reduceSub, Int.reduceMul, Int.reduceNeg, q_add_e, q_sub_e, q_mul_e, q_neg_e, q_upd_s, q_upd_n, zr_shr0, zr_shr1, zr_shr2, zr_shr3, zr_shr4, zr_and, zr_dyn8, zr_or, zr_shl, q_cpy_n, y_cpy26]
    exact hq _ _ hI q_mfr_rf
  · subst k
    simp (disch := omega) only [b_X6_count_0, x_loadI_1, tw_8_0, tw_8_1, tw_8_2, tw_8_3, tw_8_4, tw_8_5, tw_8_o, b_X6_count_40, x_loadR_0, x_loadS_0, f_6_0, x_ret0, b_X6_count_45, f_6_5, b_X6_count_50, b_X6_count_55, f_6_10, b_X6_count_60, f_6_11, b_X6_count_65, f_6_7, b_X6_count_70, x_iconst, q_isL_I, q_isL_R, q_isL_S, true_and, and_true, and_self, List.length_nil, List.length_cons, Nat.zero_add, x_K, x_Kn, Int.reduceToNat, Nat.reduceAdd, Nat.reduceMul, Nat.reduceLeDiff, Nat.reduceLT, Nat.zero_le, Int.reduceAdd, Int.reduceSub, Int.reduceMul, Int.reduceNeg, q_add_e, q_sub_e, q_mul_e, q_neg_e, q_upd_s, q_upd_n, zr_shr0, zr_shr1, zr_shr2, zr_shr3, zr_shr4, zr_and, zr_dyn8, zr_or, zr_shl, q_cpy_n, y_cpy26]
    exact hq _ _ hI q_mfr_rf
  · subst k
    simp (disch := omega) only [b_X6_count_0, x_loadI_1, tw_8_0, tw_8_1, tw_8_2, tw_8_3, tw_8_4, tw_8_5, tw_8_o, b_X6_count_40, x_loadR_0, x_loadS_0, f_6_0, x_ret0, b_X6_count_45, f_6_5, b_X6_count_50, b_X6_count_55, f_6_10, b_X6_count_60, f_6_11, b_X6_count_65, f_6_7, b_X6_count_70, x_iconst, q_isL_I, q_isL_R, q_isL_S, true_and, and_true, and_self, List.length_nil, List.length_cons, Nat.zero_add, x_K, x_Kn, Int.reduceToNat, Nat.reduceAdd, Nat.reduceMul, Nat.reduceLeDiff, Nat.reduceLT, Nat.zero_le, Int.reduceAdd, Int.reduceSub, Int.reduceMul, Int.reduceNeg, q_add_e, q_sub_e, q_mul_e, q_neg_e, q_upd_s, q_upd_n, zr_shr0, zr_shr1, zr_shr2, zr_shr3, zr_shr4, zr_and, zr_dyn8, zr_or, zr_shl, q_cpy_n, y_cpy26, c_X6_outside]
    rw [mp_outside n0a n0b hin]
    simp (disch := omega) only [b_X6_count_0, x_loadI_1, tw_8_0, tw_8_1, tw_8_2, tw_8_3, tw_8_4, tw_8_5, tw_8_o, b_X6_count_40, x_loadR_0, x_loadS_0, f_6_0, x_ret0, b_X6_count_45, f_6_5, b_X6_count_50, b_X6_count_55, f_6_10, b_X6_count_60, f_6_11, b_X6_count_65, f_6_7, b_X6_count_70, x_iconst, q_isL_I, q_isL_R, q_isL_S, true_and, and_true, and_self, List.length_nil, List.length_cons, Nat.zero_add, x_K, x_Kn, Int.reduceToNat, Nat.reduceAdd, Nat.reduceMul, Nat.reduceLeDiff, Nat.reduceLT, Nat.zero_le, Int.reduceAdd, Int.reduceSub, Int.reduceMul, Int.reduceNeg, q_add_e, q_sub_e, q_mul_e, q_neg_e, q_upd_s, q_upd_n, zr_shr0, zr_shr1, zr_shr2, zr_shr3, zr_shr4, zr_and, zr_dyn8, zr_or, zr_shl, q_cpy_n, y_cpy26]
    exact hq _ _ hI q_mfr_rf
  · subst k
    simp (disch := omega) only [b_X6_count_0, x_loadI_1, tw_8_0, tw_8_1, tw_8_2, tw_8_3, tw_8_4, tw_8_5, tw_8_o, b_X6_count_40, x_loadR_0, x_loadS_0, f_6_0, x_ret0, b_X6_count_45, f_6_5, b_X6_count_50, b_X6_count_55, f_6_10, b_X6_count_60, f_6_11, b_X6_count_65, f_6_7, b_X6_count_70, x_iconst, q_isL_I, q_isL_R, q_isL_S, true_and, and_true, and_self, List.length_nil, List.length_cons, Nat.zero_add, x_K, x_Kn, Int.reduceToNat, Nat.reduceAdd, Nat.reduceMul, Nat.reduceLeDiff, Nat.reduceLT, Nat.zero_le, Int.reduceAdd, Int.reduceSub, Int.reduceMul, Int.reduceNeg, q_add_e, q_sub_e, q_mul_e, q_neg_e, q_upd_s, q_upd_n, zr_shr0, zr_shr1, zr_shr2, zr_shr3, zr_shr4, zr_and, zr_dyn8, zr_or, zr_shl, q_cpy_n, y_cpy26]
    exact hq _ _ hI q_mfr_rf
  · subst k
    simp (disch := omega) only [b_X6_count_0, x_loadI_1, tw_8_0, tw_8_1, tw_8_2, tw_8_3, tw_8_4, tw_8_5, tw_8_o, b_X6_count_40, x_loadR_0, x_loadS_0, f_6_0, x_ret0, b_X6_count_45, f_6_5, b_X6_count_50, b_X6_count_55, f_6_10, b_X6_count_60, f_6_11, b_X6_count_65, f_6_7, b_X6_count_70, x_iconst, q_isL_I, q_isL_R, q_isL_S, true_and, and_true, and_self, List.length_nil, List.length_cons, Nat.zero_add, x_K, x_Kn, Int.reduceToNat, Nat.reduceAdd, Nat.reduceMul, Nat.reduceLeDiff, Nat.reduceLT, Nat.zero_le, Int.reduceAdd, Int.reduceSub, Int.reduceMul, Int.reduceNeg, q_add_e, q_sub_e, q_mul_e, q_neg_e, q_upd_s, q_upd_n, zr_shr0, zr_shr1, zr_shr2, zr_shr3, zr_shr4, zr_and, zr_dyn8, zr_or, zr_shl, q_cpy_n, y_cpy26]
    exact hq _ _ hI q_mfr_rf
  · subst k
    simp (disch := omega) only [b_X6_count_0, x_loadI_1, tw_8_0, tw_8_1, tw_8_2, tw_8_3, tw_8_4, tw_8_5, tw_8_o, b_X6_count_40, x_loadR_0, x_loadS_0, f_6_0, x_ret0, b_X6_count_45, f_6_5, b_X6_count_50, b_X6_count_55, f_6_10, b_X6_count_60, f_6_11, b_X6_count_65, f_6_7, b_X6_count_70, x_iconst, q_isL_I, q_isL_R, q_isL_S, true_and, and_true, and_self, List.length_nil, List.length_cons, Nat.zero_add, x_K, x_Kn, Int.reduceToNat, Nat.reduceAdd, Nat.reduceMul, Nat.reduceLeDiff, Nat.reduceLT, Nat.zero_le, Int.reduceAdd, Int.reduceSub, Int.reduceMul, Int.reduceNeg, q_add_e, q_sub_e, q_mul_e, q_neg_e, q_upd_s, q_upd_n, zr_shr0, zr_shr1, zr_shr2, zr_shr3, zr_shr4, zr_and, zr_dyn8, zr_or, zr_shl, q_cpy_n, y_cpy26]
    exact hq _ _ hI q_mfr_rf
  · rw [b_X6_count_0, x_loadI_1]
    rw [y_tsw_o (Or.inr k)]
    simp (disch := omega) only [b_X6_count_0, x_loadI_1, tw_8_0, tw_8_1, tw_8_2, tw_8_3, tw_8_4, tw_8_5, tw_8_o, b_X6_count_40, x_loadR_0, x_loadS_0, f_6_0, x_ret0, b_X6_count_45, f_6_5, b_X6_count_50, b_X6_count_55, f_6_10, b_X6_count_60, f_6_11, b_X6_count_65, f_6_7, b_X6_count_70, x_iconst, q_isL_I, q_isL_R, q_isL_S, true_and, and_true, and_self, List.length_nil, List.length_cons, Nat.zero_add, x_K, x_Kn, Int.reduceToNat, Nat.reduceAdd, Nat.reduceMul, Nat.reduceLeDiff, Nat.reduceLT, Nat.zero_le, Int.reduceAdd, Int.reduceSub, Int.reduceMul, Int.reduceNeg, q_add_e, q_sub_e, q_mul_e, q_neg_e, q_upd_s, q_upd_n, zr_shr0, zr_shr1, zr_shr2, zr_shr3, zr_shr4, zr_and, zr_dyn8, zr_or, zr_shl, q_cpy_n, y_cpy26]
    exact hq _ _ hI q_mfr_rf
set_option maxHeartbeats 4000000 in
theorem mw_dawn {Vt : Nat → Nat → (Nat → Int) → Int} {d tm : Nat} {g : q_G} {M : q_M} {v : Int} {Q : Option q_V → q_G → q_M → Prop} (hI : q_MI Vt tm M) (hq1 : 0 ≤ v ∧ v ≤ 999 → q_MI Vt tm (q_upd M 100 5 v) → Q (some (qI (M 100 5))) g (q_upd M 100 5 v)) (hq2 : ¬(0 ≤ v ∧ v ≤ 999) → Q (some (qI (-2))) g M) : q_S 1 (d + 10) 118 [qR 6 100, qI v] g M Q := by
  have n0 := hI.1.1
  rw [s_X6_dawn]
  by_cases c : 0 ≤ v ∧ v ≤ 999
  · simp (disch := omega) only [b_X6_dawn_0, x_loadI_1, x_iconst, y_if_ne_t, y_if_ne_f, b_X6_dawn_11, x_ret0, b_X6_dawn_14, x_loadR_0, x_loadS_0, f_6_5, x_storeI_2, p_6_5, x_loadI_2, q_isL_I, q_isL_R, q_isL_S, true_and, and_true, and_self, List.length_nil, List.length_cons, Nat.zero_add, x_K, x_Kn, Int.reduceToNat, Nat.reduceAdd, Nat.reduceMul, Nat.reduceLeDiff, Nat.reduceLT, Nat.zero_le, Int.reduceAdd, Int.reduceSub, Int.reduceMul, Int.reduceNeg, q_add_e, q_sub_e, q_mul_e, q_neg_e, q_upd_s, q_upd_n, zr_shr0, zr_shr1, zr_shr2, zr_shr3, zr_shr4, zr_and, zr_dyn8, zr_or, zr_shl, q_cpy_n, y_cpy26, c_X6_in, mp_in, c, and_self, if_true]
    exact hq1 c (q_MI_upW hI (q_ok9 (by omega)) (fun e => absurd e (by decide)) (fun _ => ⟨rfl, by omega⟩) (by omega))
  · simp (disch := omega) only [b_X6_dawn_0, x_loadI_1, x_iconst, y_if_ne_t, y_if_ne_f, b_X6_dawn_11, x_ret0, b_X6_dawn_14, x_loadR_0, x_loadS_0, f_6_5, x_storeI_2, p_6_5, x_loadI_2, q_isL_I, q_isL_R, q_isL_S, true_and, and_true, and_self, List.length_nil, List.length_cons, Nat.zero_add, x_K, x_Kn, Int.reduceToNat, Nat.reduceAdd, Nat.reduceMul, Nat.reduceLeDiff, Nat.reduceLT, Nat.zero_le, Int.reduceAdd, Int.reduceSub, Int.reduceMul, Int.reduceNeg, q_add_e, q_sub_e, q_mul_e, q_neg_e, q_upd_s, q_upd_n, zr_shr0, zr_shr1, zr_shr2, zr_shr3, zr_shr4, zr_and, zr_dyn8, zr_or, zr_shl, q_cpy_n, y_cpy26, c_X6_in, mp_in, c, if_false]
    exact hq2 c
set_option maxHeartbeats 4000000 in
theorem mw_site {Vt : Nat → Nat → (Nat → Int) → Int} {d tm : Nat} {g : q_G} {M : q_M} {b w : Int} {Q : Option q_V → q_G → q_M → Prop} (hI : q_MI Vt tm M) (hq : ∀ (v : Int) (M2 : q_M), q_MI Vt tm M2 → q_mfr M M2 → Q (some (qI v)) g M2) : q_S 1 (d + 10) 120 [qR 6 100, qI b, qI w] g M Q := by
  have n0 := hI.1.1
  rw [s_X6_site]
  by_cases c : 0 ≤ b ∧ b ≤ 4
  · obtain ⟨B, rfl⟩ : ∃ B : Nat, b = B := ⟨b.toNat, by omega⟩
    have n0a := n0.1
    have n0b := n0.2
    by_cases c2 : w = 4
    · subst c2
      simp (disch := omega) only [b_X6_site_0, x_loadI_1, y_if_ne_t, y_if_ne_f, b_X6_site_7, x_iconst, x_ret0, b_X6_site_10, x_loadI_2, y_ic_ne_t, y_ic_ne_f, b_X6_site_15, x_loadR_0, x_loadS_0, x_goto, b_X6_site_23, y_if_eq_t, y_if_eq_f, b_X6_site_32, f_6_3, x_imul, x_iadd, y_iald_40, b_X6_site_45, b_X6_site_47, q_isL_I, q_isL_R, q_isL_S, true_and, and_true, and_self, List.length_nil, List.length_cons, Nat.zero_add, x_K, x_Kn, Int.reduceToNat, Nat.reduceAdd, Nat.reduceMul, Nat.reduceLeDiff, Nat.reduceLT, Nat.zero_le, Int.reduceAdd, Int.reduceSub, Int.reduceMul, Int.reduceNeg, q_add_e, q_sub_e, q_mul_e, q_neg_e, q_upd_s, q_upd_n, zr_shr0, zr_shr1, zr_shr2, zr_shr3, zr_shr4, zr_and, zr_dyn8, zr_or, zr_shl, q_cpy_n, y_cpy26, c_X6_isSite, mp_isSite, c, and_self, if_true, c_X6_whoIn, mp_whoIn]
      exact hq _ _ hI q_mfr_rf
    · by_cases c3 : 0 ≤ w ∧ w ≤ 3
      · simp (disch := omega) only [b_X6_site_0, x_loadI_1, y_if_ne_t, y_if_ne_f, b_X6_site_7, x_iconst, x_ret0, b_X6_site_10, x_loadI_2, y_ic_ne_t, y_ic_ne_f, b_X6_site_15, x_loadR_0, x_loadS_0, x_goto, b_X6_site_23, y_if_eq_t, y_if_eq_f, b_X6_site_32, f_6_3, x_imul, x_iadd, y_iald_40, b_X6_site_45, b_X6_site_47, q_isL_I, q_isL_R, q_isL_S, true_and, and_true, and_self, List.length_nil, List.length_cons, Nat.zero_add, x_K, x_Kn, Int.reduceToNat, Nat.reduceAdd, Nat.reduceMul, Nat.reduceLeDiff, Nat.reduceLT, Nat.zero_le, Int.reduceAdd, Int.reduceSub, Int.reduceMul, Int.reduceNeg, q_add_e, q_sub_e, q_mul_e, q_neg_e, q_upd_s, q_upd_n, zr_shr0, zr_shr1, zr_shr2, zr_shr3, zr_shr4, zr_and, zr_dyn8, zr_or, zr_shl, q_cpy_n, y_cpy26, c_X6_isSite, mp_isSite, c, c_X6_in, mp_in, c3, and_self, if_true]
        exact hq _ _ hI q_mfr_rf
      · simp (disch := omega) only [b_X6_site_0, x_loadI_1, y_if_ne_t, y_if_ne_f, b_X6_site_7, x_iconst, x_ret0, b_X6_site_10, x_loadI_2, y_ic_ne_t, y_ic_ne_f, b_X6_site_15, x_loadR_0, x_loadS_0, x_goto, b_X6_site_23, y_if_eq_t, y_if_eq_f, b_X6_site_32, f_6_3, x_imul, x_iadd, y_iald_40, b_X6_site_45, b_X6_site_47, q_isL_I, q_isL_R, q_isL_S, true_and, and_true, and_self, List.length_nil, List.length_cons, Nat.zero_add, x_K, x_Kn, Int.reduceToNat, Nat.reduceAdd, Nat.reduceMul, Nat.reduceLeDiff, Nat.reduceLT, Nat.zero_le, Int.reduceAdd, Int.reduceSub, Int.reduceMul, Int.reduceNeg, q_add_e, q_sub_e, q_mul_e, q_neg_e, q_upd_s, q_upd_n, zr_shr0, zr_shr1, zr_shr2, zr_shr3, zr_shr4, zr_and, zr_dyn8, zr_or, zr_shl, q_cpy_n, y_cpy26, c_X6_isSite, mp_isSite, c, c_X6_in, mp_in, c3, and_self, if_true, if_false]
        exact hq _ _ hI q_mfr_rf
  · simp (disch := omega) only [b_X6_site_0, x_loadI_1, y_if_ne_t, y_if_ne_f, b_X6_site_7, x_iconst, x_ret0, b_X6_site_10, x_loadI_2, y_ic_ne_t, y_ic_ne_f, b_X6_site_15, x_loadR_0, x_loadS_0, x_goto, b_X6_site_23, y_if_eq_t, y_if_eq_f, b_X6_site_32, f_6_3, x_imul, x_iadd, y_iald_40, b_X6_site_45, b_X6_site_47, q_isL_I, q_isL_R, q_isL_S, true_and, and_true, and_self, List.length_nil, List.length_cons, Nat.zero_add, x_K, x_Kn, Int.reduceToNat, Nat.reduceAdd, Nat.reduceMul, Nat.reduceLeDiff, Nat.reduceLT, Nat.zero_le, Int.reduceAdd, Int.reduceSub, Int.reduceMul, Int.reduceNeg, q_add_e, q_sub_e, q_mul_e, q_neg_e, q_upd_s, q_upd_n, zr_shr0, zr_shr1, zr_shr2, zr_shr3, zr_shr4, zr_and, zr_dyn8, zr_or, zr_shl, q_cpy_n, y_cpy26, c_X6_isSite, mp_isSite, c, if_false]
    exact hq _ _ hI q_mfr_rf
set_option maxHeartbeats 4000000 in
theorem mw_force {Vt : Nat → Nat → (Nat → Int) → Int} {d tm : Nat} {g : q_G} {M : q_M} {t : Int} {Q : Option q_V → q_G → q_M → Prop} (hI : q_MI Vt tm M) (hq1 : 0 ≤ t ∧ t < tm → q_MI Vt tm (q_upd M 100 11 t) → Q (some (qI (M 100 11))) g (q_upd M 100 11 t)) (hq2 : ¬(0 ≤ t ∧ t < tm) → Q (some (qI (-2))) g M) : q_S 1 (d + 10) 136 [qR 6 100, qI t] g M Q := by
  have n0 := hI.1.1
  rw [s_X6_force]
  have hx := hI.2.2.2.2.1
  have htm := hx.2.2.1
  have h1 := hx.1
  have h6 := hx.2.1
  by_cases c : 0 ≤ t ∧ t ≤ M 100 10 - 1
  · simp (disch := omega) only [b_X6_force_0, x_loadI_1, x_iconst, x_loadR_0, x_loadS_0, f_6_10, x_isub, y_if_ne_t, y_if_ne_f, b_X6_force_14, x_ret0, b_X6_force_17, f_6_11, x_storeI_2, p_6_11, x_loadI_2, q_isL_I, q_isL_R, q_isL_S, true_and, and_true, and_self, List.length_nil, List.length_cons, Nat.zero_add, x_K, x_Kn, Int.reduceToNat, Nat.reduceAdd, Nat.reduceMul, Nat.reduceLeDiff, Nat.reduceLT, Nat.zero_le, Int.reduceAdd, Int.reduceSub, Int.reduceMul, Int.reduceNeg, q_add_e, q_sub_e, q_mul_e, q_neg_e, q_upd_s, q_upd_n, zr_shr0, zr_shr1, zr_shr2, zr_shr3, zr_shr4, zr_and, zr_dyn8, zr_or, zr_shl, q_cpy_n, y_cpy26, c_X6_in, mp_in, c, and_self, if_true]
    refine hq1 (by omega) ?_
    obtain ⟨g1, g2, g3, g4, g5, g6, g7, g8, g9⟩ := hI
    exact ⟨q_mb_up g1 (q_okr (by decide) (by decide)), by rw [q_upd_n (by omega)]; exact g2, fun b hb => by rw [q_upd_n (by omega)]; exact g3 b hb, fun s hs => by rw [q_upd_n (by omega)]; exact g4 s hs, q_mtx_mq (fun b j hb => q_upd_n (by omega)) g5, by rw [q_upd_s]; omega, by rw [q_upd_n (by omega)]; exact g7, q_img_same (fun b j hb => q_upd_n (by omega)) g8, by rw [q_upd_n (by omega)]; exact g9⟩
  · simp (disch := omega) only [b_X6_force_0, x_loadI_1, x_iconst, x_loadR_0, x_loadS_0, f_6_10, x_isub, y_if_ne_t, y_if_ne_f, b_X6_force_14, x_ret0, b_X6_force_17, f_6_11, x_storeI_2, p_6_11, x_loadI_2, q_isL_I, q_isL_R, q_isL_S, true_and, and_true, and_self, List.length_nil, List.length_cons, Nat.zero_add, x_K, x_Kn, Int.reduceToNat, Nat.reduceAdd, Nat.reduceMul, Nat.reduceLeDiff, Nat.reduceLT, Nat.zero_le, Int.reduceAdd, Int.reduceSub, Int.reduceMul, Int.reduceNeg, q_add_e, q_sub_e, q_mul_e, q_neg_e, q_upd_s, q_upd_n, zr_shr0, zr_shr1, zr_shr2, zr_shr3, zr_shr4, zr_and, zr_dyn8, zr_or, zr_shl, q_cpy_n, y_cpy26, c_X6_in, mp_in, c, if_false]
    exact hq2 (by omega)
set_option maxHeartbeats 4000000 in
theorem mw_asks {Vt : Nat → Nat → (Nat → Int) → Int} {d tm : Nat} {g : q_G} {M : q_M} {pt p b : Int} {Q : Option q_V → q_G → q_M → Prop} (hI : q_MI Vt tm M) (hq : ∀ (v : Int) (M2 : q_M), q_MI Vt tm M2 → q_mfr M M2 → Q (some (qI v)) g M2) : q_S 1 (d + 10) 138 [qR 6 100, qI pt, qI p, qI b] g M Q := by
  have n0 := hI.1.1
  rw [s_X6_asks]
  have hm := (q_MI_mi hI).1
  by_cases c1 : 0 ≤ pt ∧ pt ≤ 2
  · by_cases c2 : 0 ≤ p ∧ p ≤ M 100 0 - 1
    · by_cases c3 : -1 ≤ b ∧ b ≤ 4
      · obtain ⟨P, rfl⟩ : ∃ P : Nat, pt = P := ⟨pt.toNat, by omega⟩
        obtain ⟨N, rfl⟩ : ∃ N : Nat, p = N := ⟨p.toNat, by omega⟩
        have ak : ∀ (nx : Nat) (ops : List Instr) (ls st : List q_V), (∀ (v : Int) (M2 : q_M), q_mf M M2 → q_T 1 (d + 10) qP_X6_asks nx ops ls (qI v :: st) g M2 Q) → q_S 1 (d + 9) 137 [qR 6 100, qI P, qI N, qI b] g M (q_K 1 (d + 10) qP_X6_asks nx ops ls st Q) := fun nx ops ls st h => mp_asks hm (by omega) (by omega) (by omega) (fun M2 h2 => h _ M2 h2)
        simp (disch := omega) only [b_X6_asks_0, x_loadI_1, x_iconst, y_if_eq_t, y_if_eq_f, b_X6_asks_9, x_loadR_0, x_loadS_0, x_loadI_2, b_X6_asks_17, x_loadI_3, b_X6_asks_26, x_goto, b_X6_asks_36, b_X6_asks_39, x_ret0, q_isL_I, q_isL_R, q_isL_S, true_and, and_true, and_self, List.length_nil, List.length_cons, Nat.zero_add, x_K, x_Kn, Int.reduceToNat, Nat.reduceAdd, Nat.reduceMul, Nat.reduceLeDiff, Nat.reduceLT, Nat.zero_le, Int.reduceAdd, Int.reduceSub, Int.reduceMul, Int.reduceNeg, q_add_e, q_sub_e, q_mul_e, q_neg_e, q_upd_s, q_upd_n, zr_shr0, zr_shr1, zr_shr2, zr_shr3, zr_shr4, zr_and, zr_dyn8, zr_or, zr_shl, q_cpy_n, y_cpy26, c_X6_in, mp_in, c1, c_X6_isStone, mp_isStone, c2, c3, and_self, if_true, c_X6_asksOf]
        refine ak _ _ _ _ (fun v M2 h2 => ?_)
        simp (disch := omega) only [b_X6_asks_0, x_loadI_1, x_iconst, y_if_eq_t, y_if_eq_f, b_X6_asks_9, x_loadR_0, x_loadS_0, x_loadI_2, b_X6_asks_17, x_loadI_3, b_X6_asks_26, x_goto, b_X6_asks_36, b_X6_asks_39, x_ret0, q_isL_I, q_isL_R, q_isL_S, true_and, and_true, and_self, List.length_nil, List.length_cons, Nat.zero_add, x_K, x_Kn, Int.reduceToNat, Nat.reduceAdd, Nat.reduceMul, Nat.reduceLeDiff, Nat.reduceLT, Nat.zero_le, Int.reduceAdd, Int.reduceSub, Int.reduceMul, Int.reduceNeg, q_add_e, q_sub_e, q_mul_e, q_neg_e, q_upd_s, q_upd_n, zr_shr0, zr_shr1, zr_shr2, zr_shr3, zr_shr4, zr_and, zr_dyn8, zr_or, zr_shl, q_cpy_n, y_cpy26]
        exact hq _ _ (q_MI_mq (q_mq_mf h2) hI) (q_mfr_mq (q_mq_mf h2))
      · simp (disch := omega) only [b_X6_asks_0, x_loadI_1, x_iconst, y_if_eq_t, y_if_eq_f, b_X6_asks_9, x_loadR_0, x_loadS_0, x_loadI_2, b_X6_asks_17, x_loadI_3, b_X6_asks_26, x_goto, b_X6_asks_36, b_X6_asks_39, x_ret0, q_isL_I, q_isL_R, q_isL_S, true_and, and_true, and_self, List.length_nil, List.length_cons, Nat.zero_add, x_K, x_Kn, Int.reduceToNat, Nat.reduceAdd, Nat.reduceMul, Nat.reduceLeDiff, Nat.reduceLT, Nat.zero_le, Int.reduceAdd, Int.reduceSub, Int.reduceMul, Int.reduceNeg, q_add_e, q_sub_e, q_mul_e, q_neg_e, q_upd_s, q_upd_n, zr_shr0, zr_shr1, zr_shr2, zr_shr3, zr_shr4, zr_and, zr_dyn8, zr_or, zr_shl, q_cpy_n, y_cpy26, c_X6_in, mp_in, c1, c_X6_isStone, mp_isStone, c2, c3, and_self, if_true, if_false]
        exact hq _ _ hI q_mfr_rf
    · simp (disch := omega) only [b_X6_asks_0, x_loadI_1, x_iconst, y_if_eq_t, y_if_eq_f, b_X6_asks_9, x_loadR_0, x_loadS_0, x_loadI_2, b_X6_asks_17, x_loadI_3, b_X6_asks_26, x_goto, b_X6_asks_36, b_X6_asks_39, x_ret0, q_isL_I, q_isL_R, q_isL_S, true_and, and_true, and_self, List.length_nil, List.length_cons, Nat.zero_add, x_K, x_Kn, Int.reduceToNat, Nat.reduceAdd, Nat.reduceMul, Nat.reduceLeDiff, Nat.reduceLT, Nat.zero_le, Int.reduceAdd, Int.reduceSub, Int.reduceMul, Int.reduceNeg, q_add_e, q_sub_e, q_mul_e, q_neg_e, q_upd_s, q_upd_n, zr_shr0, zr_shr1, zr_shr2, zr_shr3, zr_shr4, zr_and, zr_dyn8, zr_or, zr_shl, q_cpy_n, y_cpy26, c_X6_in, mp_in, c1, c_X6_isStone, mp_isStone, c2, and_self, if_true, if_false]
      exact hq _ _ hI q_mfr_rf
  · simp (disch := omega) only [b_X6_asks_0, x_loadI_1, x_iconst, y_if_eq_t, y_if_eq_f, b_X6_asks_9, x_loadR_0, x_loadS_0, x_loadI_2, b_X6_asks_17, x_loadI_3, b_X6_asks_26, x_goto, b_X6_asks_36, b_X6_asks_39, x_ret0, q_isL_I, q_isL_R, q_isL_S, true_and, and_true, and_self, List.length_nil, List.length_cons, Nat.zero_add, x_K, x_Kn, Int.reduceToNat, Nat.reduceAdd, Nat.reduceMul, Nat.reduceLeDiff, Nat.reduceLT, Nat.zero_le, Int.reduceAdd, Int.reduceSub, Int.reduceMul, Int.reduceNeg, q_add_e, q_sub_e, q_mul_e, q_neg_e, q_upd_s, q_upd_n, zr_shr0, zr_shr1, zr_shr2, zr_shr3, zr_shr4, zr_and, zr_dyn8, zr_or, zr_shl, q_cpy_n, y_cpy26, c_X6_in, mp_in, c1, if_false]
    exact hq _ _ hI q_mfr_rf
set_option maxHeartbeats 4000000 in
theorem mw_told {Vt : Nat → Nat → (Nat → Int) → Int} {d tm : Nat} {g : q_G} {M : q_M} {p w : Int} {Q : Option q_V → q_G → q_M → Prop} (hI : q_MI Vt tm M) (hq : ∀ (v : Int) (M2 : q_M), q_MI Vt tm M2 → q_mfr M M2 → Q (some (qI v)) g M2) : q_S 1 (d + 10) 145 [qR 6 100, qI p, qI w] g M Q := by
  have n0 := hI.1.1
  rw [s_X6_told]
  have hm := (q_MI_mi hI).1
  by_cases c : 0 ≤ p ∧ p ≤ M 100 0 - 1
  · obtain ⟨N, rfl⟩ : ∃ N : Nat, p = N := ⟨p.toNat, by omega⟩
    have tn2 : ∀ k : Int, 0 ≤ k → k ≤ 2 → 0 ≤ 3 * (N : Int) + k ∧ 3 * (N : Int) + k < 15 := fun k _ _ => by omega
    have wk : ∀ (nx : Nat) (ops : List Instr) (ls st : List q_V), (∀ (v : Int) (M2 : q_M), q_mf M M2 → q_T 1 (d + 10) qP_X6_told nx ops ls (qI v :: st) g M2 Q) → q_S 1 (d + 9) 144 [qR 6 100, qI N] g M (q_K 1 (d + 10) qP_X6_told nx ops ls st Q) := fun nx ops ls st h => mp_wish hm (by omega) (fun M2 h2 => h _ M2 h2)
    have gk : ∀ (nx : Nat) (ops : List Instr) (ls st : List q_V), (∀ (v : Int) (M2 : q_M), q_mf M M2 → q_T 1 (d + 10) qP_X6_told nx ops ls (qI v :: st) g M2 Q) → q_S 1 (d + 9) 143 [qR 6 100, qI N] g M (q_K 1 (d + 10) qP_X6_told nx ops ls st Q) := fun nx ops ls st h => mp_goes hm (by omega) (fun M2 h2 => h _ M2 h2)
    rcases (show w < 0 ∨ w = 0 ∨ w = 1 ∨ w = 2 ∨ w = 3 ∨ w = 4 ∨ w = 5 ∨ w = 6 ∨ 6 < w by omega) with k | k | k | k | k | k | k | k | k
    · simp (disch := omega) only [b_X6_told_0, x_loadR_0, x_loadS_0, x_loadI_1, y_if_ne_t, y_if_ne_f, b_X6_told_8, x_iconst, x_ret0, b_X6_told_11, x_loadI_2, tw_13_0, tw_13_1, tw_13_2, tw_13_3, tw_13_4, tw_13_5, tw_13_6, tw_13_o, b_X6_told_56, f_6_4, x_imul, x_iadd, y_iald_25, y_iald_35, b_X6_told_67, f_6_1, b_X6_told_74, f_6_2, b_X6_told_81, b_X6_told_87, b_X6_told_93, q_isL_I, q_isL_R, q_isL_S, true_and, and_true, and_self, List.length_nil, List.length_cons, Nat.zero_add, x_K, x_Kn, Int.reduceToNat, Nat.reduceAdd, Nat.reduceMul, Nat.reduceLeDiff, Nat.reduceLT, Nat.zero_le, Int.reduceAdd, Int.reduceSub, Int.reduceMul, Int.reduceNeg, q_add_e, q_sub_e, q_mul_e, q_neg_e, q_upd_s, q_upd_n, zr_shr0, zr_shr1, zr_shr2, zr_shr3, zr_shr4, zr_and, zr_dyn8, zr_or, zr_shl, q_cpy_n, y_cpy26, c_X6_isStone, mp_isStone, c, and_self, if_true, y_tsw_o]
      exact hq _ _ hI q_mfr_rf
    · subst k
      simp (disch := omega) only [b_X6_told_0, x_loadR_0, x_loadS_0, x_loadI_1, y_if_ne_t, y_if_ne_f, b_X6_told_8, x_iconst, x_ret0, b_X6_told_11, x_loadI_2, tw_13_0, tw_13_1, tw_13_2, tw_13_3, tw_13_4, tw_13_5, tw_13_6, tw_13_o, b_X6_told_56, f_6_4, x_imul, x_iadd, y_iald_25, y_iald_35, b_X6_told_67, f_6_1, b_X6_told_74, f_6_2, b_X6_told_81, b_X6_told_87, b_X6_told_93, q_isL_I, q_isL_R, q_isL_S, true_and, and_true, and_self, List.length_nil, List.length_cons, Nat.zero_add, x_K, x_Kn, Int.reduceToNat, Nat.reduceAdd, Nat.reduceMul, Nat.reduceLeDiff, Nat.reduceLT, Nat.zero_le, Int.reduceAdd, Int.reduceSub, Int.reduceMul, Int.reduceNeg, q_add_e, q_sub_e, q_mul_e, q_neg_e, q_upd_s, q_upd_n, zr_shr0, zr_shr1, zr_shr2, zr_shr3, zr_shr4, zr_and, zr_dyn8, zr_or, zr_shl, q_cpy_n, y_cpy26, c_X6_isStone, mp_isStone, c, and_self, if_true]
      exact hq _ _ hI q_mfr_rf
    · subst k
      simp (disch := omega) only [b_X6_told_0, x_loadR_0, x_loadS_0, x_loadI_1, y_if_ne_t, y_if_ne_f, b_X6_told_8, x_iconst, x_ret0, b_X6_told_11, x_loadI_2, tw_13_0, tw_13_1, tw_13_2, tw_13_3, tw_13_4, tw_13_5, tw_13_6, tw_13_o, b_X6_told_56, f_6_4, x_imul, x_iadd, y_iald_25, y_iald_35, b_X6_told_67, f_6_1, b_X6_told_74, f_6_2, b_X6_told_81, b_X6_told_87, b_X6_told_93, q_isL_I, q_isL_R, q_isL_S, true_and, and_true, and_self, List.length_nil, List.length_cons, Nat.zero_add, x_K, x_Kn, Int.reduceToNat, Nat.reduceAdd, Nat.reduceMul, Nat.reduceLeDiff, Nat.reduceLT, Nat.zero_le, Int.reduceAdd, Int.reduceSub, Int.reduceMul, Int.reduceNeg, q_add_e, q_sub_e, q_mul_e, q_neg_e, q_upd_s, q_upd_n, zr_shr0, zr_shr1, zr_shr2, zr_shr3, zr_shr4, zr_and, zr_dyn8, zr_or, zr_shl, q_cpy_n, y_cpy26, c_X6_isStone, mp_isStone, c, and_self, if_true]
      exact hq _ _ hI q_mfr_rf
    · subst k
      simp (disch := omega) only [b_X6_told_0, x_loadR_0, x_loadS_0, x_loadI_1, y_if_ne_t, y_if_ne_f, b_X6_told_8, x_iconst, x_ret0, b_X6_told_11, x_loadI_2, tw_13_0, tw_13_1, tw_13_2, tw_13_3, tw_13_4, tw_13_5, tw_13_6, tw_13_o, b_X6_told_56, f_6_4, x_imul, x_iadd, y_iald_25, y_iald_35, b_X6_told_67, f_6_1, b_X6_told_74, f_6_2, b_X6_told_81, b_X6_told_87, b_X6_told_93, q_isL_I, q_isL_R, q_isL_S, true_and, and_true, and_self, List.length_nil, List.length_cons, Nat.zero_add, x_K, x_Kn, Int.reduceToNat, Nat.reduceAdd, Nat.reduceMul, Nat.reduceLeDiff, Nat.reduceLT, Nat.zero_le, Int.reduceAdd, Int.reduceSub, Int.reduceMul, Int.reduceNeg, q_add_e, q_sub_e, q_mul_e, q_neg_e, q_upd_s, q_upd_n, zr_shr0, zr_shr1, zr_shr2, zr_shr3, zr_shr4, zr_and, zr_dyn8, zr_or, zr_shl, q_cpy_n, y_cpy26, c_X6_isStone, mp_isStone, c, and_self, if_true]
      exact hq _ _ hI q_mfr_rf
    · subst k
      simp (disch := omega) only [b_X6_told_0, x_loadR_0, x_loadS_0, x_loadI_1, y_if_ne_t, y_if_ne_f, b_X6_told_8, x_iconst, x_ret0, b_X6_told_11, x_loadI_2, tw_13_0, tw_13_1, tw_13_2, tw_13_3, tw_13_4, tw_13_5, tw_13_6, tw_13_o, b_X6_told_56, f_6_4, x_imul, x_iadd, y_iald_25, y_iald_35, b_X6_told_67, f_6_1, b_X6_told_74, f_6_2, b_X6_told_81, b_X6_told_87, b_X6_told_93, q_isL_I, q_isL_R, q_isL_S, true_and, and_true, and_self, List.length_nil, List.length_cons, Nat.zero_add, x_K, x_Kn, Int.reduceToNat, Nat.reduceAdd, Nat.reduceMul, Nat.reduceLeDiff, Nat.reduceLT, Nat.zero_le, Int.reduceAdd, Int.reduceSub, Int.reduceMul, Int.reduceNeg, q_add_e, q_sub_e, q_mul_e, q_neg_e, q_upd_s, q_upd_n, zr_shr0, zr_shr1, zr_shr2, zr_shr3, zr_shr4, zr_and, zr_dyn8, zr_or, zr_shl, q_cpy_n, y_cpy26, c_X6_isStone, mp_isStone, c, and_self, if_true]
      exact hq _ _ hI q_mfr_rf
    · subst k
      simp (disch := omega) only [b_X6_told_0, x_loadR_0, x_loadS_0, x_loadI_1, y_if_ne_t, y_if_ne_f, b_X6_told_8, x_iconst, x_ret0, b_X6_told_11, x_loadI_2, tw_13_0, tw_13_1, tw_13_2, tw_13_3, tw_13_4, tw_13_5, tw_13_6, tw_13_o, b_X6_told_56, f_6_4, x_imul, x_iadd, y_iald_25, y_iald_35, b_X6_told_67, f_6_1, b_X6_told_74, f_6_2, b_X6_told_81, b_X6_told_87, b_X6_told_93, q_isL_I, q_isL_R, q_isL_S, true_and, and_true, and_self, List.length_nil, List.length_cons, Nat.zero_add, x_K, x_Kn, Int.reduceToNat, Nat.reduceAdd, Nat.reduceMul, Nat.reduceLeDiff, Nat.reduceLT, Nat.zero_le, Int.reduceAdd, Int.reduceSub, Int.reduceMul, Int.reduceNeg, q_add_e, q_sub_e, q_mul_e, q_neg_e, q_upd_s, q_upd_n, zr_shr0, zr_shr1, zr_shr2, zr_shr3, zr_shr4, zr_and, zr_dyn8, zr_or, zr_shl, q_cpy_n, y_cpy26, c_X6_isStone, mp_isStone, c, and_self, if_true]
      exact hq _ _ hI q_mfr_rf
    · subst k
      simp (disch := omega) only [b_X6_told_0, x_loadR_0, x_loadS_0, x_loadI_1, y_if_ne_t, y_if_ne_f, b_X6_told_8, x_iconst, x_ret0, b_X6_told_11, x_loadI_2, tw_13_0, tw_13_1, tw_13_2, tw_13_3, tw_13_4, tw_13_5, tw_13_6, tw_13_o, b_X6_told_56, f_6_4, x_imul, x_iadd, y_iald_25, y_iald_35, b_X6_told_67, f_6_1, b_X6_told_74, f_6_2, b_X6_told_81, b_X6_told_87, b_X6_told_93, q_isL_I, q_isL_R, q_isL_S, true_and, and_true, and_self, List.length_nil, List.length_cons, Nat.zero_add, x_K, x_Kn, Int.reduceToNat, Nat.reduceAdd, Nat.reduceMul, Nat.reduceLeDiff, Nat.reduceLT, Nat.zero_le, Int.reduceAdd, Int.reduceSub, Int.reduceMul, Int.reduceNeg, q_add_e, q_sub_e, q_mul_e, q_neg_e, q_upd_s, q_upd_n, zr_shr0, zr_shr1, zr_shr2, zr_shr3, zr_shr4, zr_and, zr_dyn8, zr_or, zr_shl, q_cpy_n, y_cpy26, c_X6_isStone, mp_isStone, c, and_self, if_true, c_X6_wishOf]
      refine wk _ _ _ _ (fun v M2 h2 => ?_)
      simp (disch := omega) only [b_X6_told_0, x_loadR_0, x_loadS_0, x_loadI_1, y_if_ne_t, y_if_ne_f, b_X6_told_8, x_iconst, x_ret0, b_X6_told_11, x_loadI_2, tw_13_0, tw_13_1, tw_13_2, tw_13_3, tw_13_4, tw_13_5, tw_13_6, tw_13_o, b_X6_told_56, f_6_4, x_imul, x_iadd, y_iald_25, y_iald_35, b_X6_told_67, f_6_1, b_X6_told_74, f_6_2, b_X6_told_81, b_X6_told_87, b_X6_told_93, q_isL_I, q_isL_R, q_isL_S, true_and, and_true, and_self, List.length_nil, List.length_cons, Nat.zero_add, x_K, x_Kn, Int.reduceToNat, Nat.reduceAdd, Nat.reduceMul, Nat.reduceLeDiff, Nat.reduceLT, Nat.zero_le, Int.reduceAdd, Int.reduceSub, Int.reduceMul, Int.reduceNeg, q_add_e, q_sub_e, q_mul_e, q_neg_e, q_upd_s, q_upd_n, zr_shr0, zr_shr1, zr_shr2, zr_shr3, zr_shr4, zr_and, zr_dyn8, zr_or, zr_shl, q_cpy_n, y_cpy26]
      exact hq _ _ (q_MI_mq (q_mq_mf h2) hI) (q_mfr_mq (q_mq_mf h2))
    · subst k
      simp (disch := omega) only [b_X6_told_0, x_loadR_0, x_loadS_0, x_loadI_1, y_if_ne_t, y_if_ne_f, b_X6_told_8, x_iconst, x_ret0, b_X6_told_11, x_loadI_2, tw_13_0, tw_13_1, tw_13_2, tw_13_3, tw_13_4, tw_13_5, tw_13_6, tw_13_o, b_X6_told_56, f_6_4, x_imul, x_iadd, y_iald_25, y_iald_35, b_X6_told_67, f_6_1, b_X6_told_74, f_6_2, b_X6_told_81, b_X6_told_87, b_X6_told_93, q_isL_I, q_isL_R, q_isL_S, true_and, and_true, and_self, List.length_nil, List.length_cons, Nat.zero_add, x_K, x_Kn, Int.reduceToNat, Nat.reduceAdd, Nat.reduceMul, Nat.reduceLeDiff, Nat.reduceLT, Nat.zero_le, Int.reduceAdd, Int.reduceSub, Int.reduceMul, Int.reduceNeg, q_add_e, q_sub_e, q_mul_e, q_neg_e, q_upd_s, q_upd_n, zr_shr0, zr_shr1, zr_shr2, zr_shr3, zr_shr4, zr_and, zr_dyn8, zr_or, zr_shl, q_cpy_n, y_cpy26, c_X6_isStone, mp_isStone, c, and_self, if_true, c_X6_goesOf]
      refine gk _ _ _ _ (fun v M2 h2 => ?_)
      simp (disch := omega) only [b_X6_told_0, x_loadR_0, x_loadS_0, x_loadI_1, y_if_ne_t, y_if_ne_f, b_X6_told_8, x_iconst, x_ret0, b_X6_told_11, x_loadI_2, tw_13_0, tw_13_1, tw_13_2, tw_13_3, tw_13_4, tw_13_5, tw_13_6, tw_13_o, b_X6_told_56, f_6_4, x_imul, x_iadd, y_iald_25, y_iald_35, b_X6_told_67, f_6_1, b_X6_told_74, f_6_2, b_X6_told_81, b_X6_told_87, b_X6_told_93, q_isL_I, q_isL_R, q_isL_S, true_and, and_true, and_self, List.length_nil, List.length_cons, Nat.zero_add, x_K, x_Kn, Int.reduceToNat, Nat.reduceAdd, Nat.reduceMul, Nat.reduceLeDiff, Nat.reduceLT, Nat.zero_le, Int.reduceAdd, Int.reduceSub, Int.reduceMul, Int.reduceNeg, q_add_e, q_sub_e, q_mul_e, q_neg_e, q_upd_s, q_upd_n, zr_shr0, zr_shr1, zr_shr2, zr_shr3, zr_shr4, zr_and, zr_dyn8, zr_or, zr_shl, q_cpy_n, y_cpy26]
      exact hq _ _ (q_MI_mq (q_mq_mf h2) hI) (q_mfr_mq (q_mq_mf h2))
    · simp (disch := omega) only [b_X6_told_0, x_loadR_0, x_loadS_0, x_loadI_1, y_if_ne_t, y_if_ne_f, b_X6_told_8, x_iconst, x_ret0, b_X6_told_11, x_loadI_2, tw_13_0, tw_13_1, tw_13_2, tw_13_3, tw_13_4, tw_13_5, tw_13_6, tw_13_o, b_X6_told_56, f_6_4, x_imul, x_iadd, y_iald_25, y_iald_35, b_X6_told_67, f_6_1, b_X6_told_74, f_6_2, b_X6_told_81, b_X6_told_87, b_X6_told_93, q_isL_I, q_isL_R, q_isL_S, true_and, and_true, and_self, List.length_nil, List.length_cons, Nat.zero_add, x_K, x_Kn, Int.reduceToNat, Nat.reduceAdd, Nat.reduceMul, Nat.reduceLeDiff, Nat.reduceLT, Nat.zero_le, Int.reduceAdd, Int.reduceSub, Int.reduceMul, Int.reduceNeg, q_add_e, q_sub_e, q_mul_e, q_neg_e, q_upd_s, q_upd_n, zr_shr0, zr_shr1, zr_shr2, zr_shr3, zr_shr4, zr_and, zr_dyn8, zr_or, zr_shl, q_cpy_n, y_cpy26, c_X6_isStone, mp_isStone, c, and_self, if_true, y_tsw_o]
      exact hq _ _ hI q_mfr_rf
  · simp (disch := omega) only [b_X6_told_0, x_loadR_0, x_loadS_0, x_loadI_1, y_if_ne_t, y_if_ne_f, b_X6_told_8, x_iconst, x_ret0, b_X6_told_11, x_loadI_2, tw_13_0, tw_13_1, tw_13_2, tw_13_3, tw_13_4, tw_13_5, tw_13_6, tw_13_o, b_X6_told_56, f_6_4, x_imul, x_iadd, y_iald_25, y_iald_35, b_X6_told_67, f_6_1, b_X6_told_74, f_6_2, b_X6_told_81, b_X6_told_87, b_X6_told_93, q_isL_I, q_isL_R, q_isL_S, true_and, and_true, and_self, List.length_nil, List.length_cons, Nat.zero_add, x_K, x_Kn, Int.reduceToNat, Nat.reduceAdd, Nat.reduceMul, Nat.reduceLeDiff, Nat.reduceLT, Nat.zero_le, Int.reduceAdd, Int.reduceSub, Int.reduceMul, Int.reduceNeg, q_add_e, q_sub_e, q_mul_e, q_neg_e, q_upd_s, q_upd_n, zr_shr0, zr_shr1, zr_shr2, zr_shr3, zr_shr4, zr_and, zr_dyn8, zr_or, zr_shl, q_cpy_n, y_cpy26, c_X6_isStone, mp_isStone, c, if_false]
    exact hq _ _ hI q_mfr_rf
set_option maxHeartbeats 4000000 in
theorem mw_love {Vt : Nat → Nat → (Nat → Int) → Int} {d tm : Nat} {g : q_G} {M : q_M} {p b w : Int} {Q : Option q_V → q_G → q_M → Prop} (hI : q_MI Vt tm M) (hq : ∀ (v : Int) (M2 : q_M), q_MI Vt tm M2 → q_mfr M M2 → Q (some (qI v)) g M2) : q_S 1 (d + 10) 146 [qR 6 100, qI p, qI b, qI w] g M Q := by
  have n0 := hI.1.1
  rw [s_X6_love]
  have hm := (q_MI_mi hI).1
  by_cases c : 0 ≤ p ∧ p ≤ M 100 0 - 1
  · by_cases c2 : 0 ≤ b ∧ b ≤ 4
    · obtain ⟨N, rfl⟩ : ∃ N : Nat, p = N := ⟨p.toNat, by omega⟩
      obtain ⟨B, rfl⟩ : ∃ B : Nat, b = B := ⟨b.toNat, by omega⟩
      have lk : ∀ (nx : Nat) (ops : List Instr) (ls st : List q_V), (∀ (v : Int) (M2 : q_M), q_mf M M2 → q_T 1 (d + 10) qP_X6_love nx ops ls (qI v :: st) g M2 Q) → q_S 1 (d + 9) 141 [qR 6 100, qI N, qI B] g M (q_K 1 (d + 10) qP_X6_love nx ops ls st Q) := fun nx ops ls st h => mp_likes hm (by omega) (by omega) (fun M2 h2 => h _ M2 h2)
      have wk : ∀ (nx : Nat) (ops : List Instr) (ls st : List q_V), (∀ (v : Int) (M2 : q_M), q_mf M M2 → q_T 1 (d + 10) qP_X6_love nx ops ls (qI v :: st) g M2 Q) → q_S 1 (d + 9) 142 [qR 6 100, qI N, qI B] g M (q_K 1 (d + 10) qP_X6_love nx ops ls st Q) := fun nx ops ls st h => mp_wants hm (by omega) (by omega) (fun M2 h2 => h _ M2 h2)
      by_cases k0 : w = 0
      · simp (disch := omega) only [b_X6_love_0, x_loadR_0, x_loadS_0, x_loadI_1, y_if_eq_t, y_if_eq_f, b_X6_love_8, x_loadI_2, y_if_ne_t, y_if_ne_f, b_X6_love_15, x_iconst, x_ret0, b_X6_love_19, x_loadI_3, b_X6_love_23, x_goto, b_X6_love_32, y_ic_ne_t, y_ic_ne_f, b_X6_love_37, b_X6_love_46, b_X6_love_49, q_isL_I, q_isL_R, q_isL_S, true_and, and_true, and_self, List.length_nil, List.length_cons, Nat.zero_add, x_K, x_Kn, Int.reduceToNat, Nat.reduceAdd, Nat.reduceMul, Nat.reduceLeDiff, Nat.reduceLT, Nat.zero_le, Int.reduceAdd, Int.reduceSub, Int.reduceMul, Int.reduceNeg, q_add_e, q_sub_e, q_mul_e, q_neg_e, q_upd_s, q_upd_n, zr_shr0, zr_shr1, zr_shr2, zr_shr3, zr_shr4, zr_and, zr_dyn8, zr_or, zr_shl, q_cpy_n, y_cpy26, c_X6_isStone, mp_isStone, c, c_X6_isSite, mp_isSite, c2, and_self, if_true, c_X6_likesOf]
        refine lk _ _ _ _ (fun v M2 h2 => ?_)
        simp (disch := omega) only [b_X6_love_0, x_loadR_0, x_loadS_0, x_loadI_1, y_if_eq_t, y_if_eq_f, b_X6_love_8, x_loadI_2, y_if_ne_t, y_if_ne_f, b_X6_love_15, x_iconst, x_ret0, b_X6_love_19, x_loadI_3, b_X6_love_23, x_goto, b_X6_love_32, y_ic_ne_t, y_ic_ne_f, b_X6_love_37, b_X6_love_46, b_X6_love_49, q_isL_I, q_isL_R, q_isL_S, true_and, and_true, and_self, List.length_nil, List.length_cons, Nat.zero_add, x_K, x_Kn, Int.reduceToNat, Nat.reduceAdd, Nat.reduceMul, Nat.reduceLeDiff, Nat.reduceLT, Nat.zero_le, Int.reduceAdd, Int.reduceSub, Int.reduceMul, Int.reduceNeg, q_add_e, q_sub_e, q_mul_e, q_neg_e, q_upd_s, q_upd_n, zr_shr0, zr_shr1, zr_shr2, zr_shr3, zr_shr4, zr_and, zr_dyn8, zr_or, zr_shl, q_cpy_n, y_cpy26]
        exact hq _ _ (q_MI_mq (q_mq_mf h2) hI) (q_mfr_mq (q_mq_mf h2))
      · by_cases k1 : w = 1
        · simp (disch := omega) only [b_X6_love_0, x_loadR_0, x_loadS_0, x_loadI_1, y_if_eq_t, y_if_eq_f, b_X6_love_8, x_loadI_2, y_if_ne_t, y_if_ne_f, b_X6_love_15, x_iconst, x_ret0, b_X6_love_19, x_loadI_3, b_X6_love_23, x_goto, b_X6_love_32, y_ic_ne_t, y_ic_ne_f, b_X6_love_37, b_X6_love_46, b_X6_love_49, q_isL_I, q_isL_R, q_isL_S, true_and, and_true, and_self, List.length_nil, List.length_cons, Nat.zero_add, x_K, x_Kn, Int.reduceToNat, Nat.reduceAdd, Nat.reduceMul, Nat.reduceLeDiff, Nat.reduceLT, Nat.zero_le, Int.reduceAdd, Int.reduceSub, Int.reduceMul, Int.reduceNeg, q_add_e, q_sub_e, q_mul_e, q_neg_e, q_upd_s, q_upd_n, zr_shr0, zr_shr1, zr_shr2, zr_shr3, zr_shr4, zr_and, zr_dyn8, zr_or, zr_shl, q_cpy_n, y_cpy26, c_X6_isStone, mp_isStone, c, c_X6_isSite, mp_isSite, c2, and_self, if_true, c_X6_wantedOf]
          refine wk _ _ _ _ (fun v M2 h2 => ?_)
          simp (disch := omega) only [b_X6_love_0, x_loadR_0, x_loadS_0, x_loadI_1, y_if_eq_t, y_if_eq_f, b_X6_love_8, x_loadI_2, y_if_ne_t, y_if_ne_f, b_X6_love_15, x_iconst, x_ret0, b_X6_love_19, x_loadI_3, b_X6_love_23, x_goto, b_X6_love_32, y_ic_ne_t, y_ic_ne_f, b_X6_love_37, b_X6_love_46, b_X6_love_49, q_isL_I, q_isL_R, q_isL_S, true_and, and_true, and_self, List.length_nil, List.length_cons, Nat.zero_add, x_K, x_Kn, Int.reduceToNat, Nat.reduceAdd, Nat.reduceMul, Nat.reduceLeDiff, Nat.reduceLT, Nat.zero_le, Int.reduceAdd, Int.reduceSub, Int.reduceMul, Int.reduceNeg, q_add_e, q_sub_e, q_mul_e, q_neg_e, q_upd_s, q_upd_n, zr_shr0, zr_shr1, zr_shr2, zr_shr3, zr_shr4, zr_and, zr_dyn8, zr_or, zr_shl, q_cpy_n, y_cpy26]
          exact hq _ _ (q_MI_mq (q_mq_mf h2) hI) (q_mfr_mq (q_mq_mf h2))
        · simp (disch := omega) only [b_X6_love_0, x_loadR_0, x_loadS_0, x_loadI_1, y_if_eq_t, y_if_eq_f, b_X6_love_8, x_loadI_2, y_if_ne_t, y_if_ne_f, b_X6_love_15, x_iconst, x_ret0, b_X6_love_19, x_loadI_3, b_X6_love_23, x_goto, b_X6_love_32, y_ic_ne_t, y_ic_ne_f, b_X6_love_37, b_X6_love_46, b_X6_love_49, q_isL_I, q_isL_R, q_isL_S, true_and, and_true, and_self, List.length_nil, List.length_cons, Nat.zero_add, x_K, x_Kn, Int.reduceToNat, Nat.reduceAdd, Nat.reduceMul, Nat.reduceLeDiff, Nat.reduceLT, Nat.zero_le, Int.reduceAdd, Int.reduceSub, Int.reduceMul, Int.reduceNeg, q_add_e, q_sub_e, q_mul_e, q_neg_e, q_upd_s, q_upd_n, zr_shr0, zr_shr1, zr_shr2, zr_shr3, zr_shr4, zr_and, zr_dyn8, zr_or, zr_shl, q_cpy_n, y_cpy26, c_X6_isStone, mp_isStone, c, c_X6_isSite, mp_isSite, c2, and_self, if_true]
          exact hq _ _ hI q_mfr_rf
    · simp (disch := omega) only [b_X6_love_0, x_loadR_0, x_loadS_0, x_loadI_1, y_if_eq_t, y_if_eq_f, b_X6_love_8, x_loadI_2, y_if_ne_t, y_if_ne_f, b_X6_love_15, x_iconst, x_ret0, b_X6_love_19, x_loadI_3, b_X6_love_23, x_goto, b_X6_love_32, y_ic_ne_t, y_ic_ne_f, b_X6_love_37, b_X6_love_46, b_X6_love_49, q_isL_I, q_isL_R, q_isL_S, true_and, and_true, and_self, List.length_nil, List.length_cons, Nat.zero_add, x_K, x_Kn, Int.reduceToNat, Nat.reduceAdd, Nat.reduceMul, Nat.reduceLeDiff, Nat.reduceLT, Nat.zero_le, Int.reduceAdd, Int.reduceSub, Int.reduceMul, Int.reduceNeg, q_add_e, q_sub_e, q_mul_e, q_neg_e, q_upd_s, q_upd_n, zr_shr0, zr_shr1, zr_shr2, zr_shr3, zr_shr4, zr_and, zr_dyn8, zr_or, zr_shl, q_cpy_n, y_cpy26, c_X6_isStone, mp_isStone, c, c_X6_isSite, mp_isSite, c2, and_self, if_true, if_false]
      exact hq _ _ hI q_mfr_rf
  · simp (disch := omega) only [b_X6_love_0, x_loadR_0, x_loadS_0, x_loadI_1, y_if_eq_t, y_if_eq_f, b_X6_love_8, x_loadI_2, y_if_ne_t, y_if_ne_f, b_X6_love_15, x_iconst, x_ret0, b_X6_love_19, x_loadI_3, b_X6_love_23, x_goto, b_X6_love_32, y_ic_ne_t, y_ic_ne_f, b_X6_love_37, b_X6_love_46, b_X6_love_49, q_isL_I, q_isL_R, q_isL_S, true_and, and_true, and_self, List.length_nil, List.length_cons, Nat.zero_add, x_K, x_Kn, Int.reduceToNat, Nat.reduceAdd, Nat.reduceMul, Nat.reduceLeDiff, Nat.reduceLT, Nat.zero_le, Int.reduceAdd, Int.reduceSub, Int.reduceMul, Int.reduceNeg, q_add_e, q_sub_e, q_mul_e, q_neg_e, q_upd_s, q_upd_n, zr_shr0, zr_shr1, zr_shr2, zr_shr3, zr_shr4, zr_and, zr_dyn8, zr_or, zr_shl, q_cpy_n, y_cpy26, c_X6_isStone, mp_isStone, c, if_false]
    exact hq _ _ hI q_mfr_rf
set_option maxHeartbeats 4000000 in
theorem mw_year {Vt : Nat → Nat → (Nat → Int) → Int} {d tm : Nat} {g : q_G} {M : q_M} {Q : Option q_V → q_G → q_M → Prop} (hI : q_MI Vt tm M) (hq : ∀ (v : Int) (M2 : q_M), q_MI Vt tm M2 → q_mfw M M2 → M2 100 5 = (if M 100 5 < 999 then M 100 5 + 1 else M 100 5) → M2 109 1 = M 109 1 → M2 100 12 = M 100 12 → q_mft M M2 → Q (some (qI v)) g M2) : q_S 1 (d + 10) 152 [qR 6 100] g M Q := by
  have n0 := hI.1.1
  rw [s_X6_year]
  have C := q_MI_mi hI
  have y0 := hI.1.2.1
  have y9 := hI.2.1
  by_cases c : M 100 5 = 999
  · simp (disch := omega) only [b_X6_year_0, x_loadR_0, x_loadS_0, f_6_5, x_iconst, y_ic_ne_t, y_ic_ne_f, b_X6_year_10, x_goto, b_X6_year_15, b_X6_year_19, x_ret0, q_isL_I, q_isL_R, q_isL_S, true_and, and_true, and_self, List.length_nil, List.length_cons, Nat.zero_add, x_K, x_Kn, Int.reduceToNat, Nat.reduceAdd, Nat.reduceMul, Nat.reduceLeDiff, Nat.reduceLT, Nat.zero_le, Int.reduceAdd, Int.reduceSub, Int.reduceMul, Int.reduceNeg, q_add_e, q_sub_e, q_mul_e, q_neg_e, q_upd_s, q_upd_n, zr_shr0, zr_shr1, zr_shr2, zr_shr3, zr_shr4, zr_and, zr_dyn8, zr_or, zr_shl, q_cpy_n, y_cpy26]
    exact hq _ _ hI (fun _ _ _ => rfl) (by rw [if_neg (by omega)]) rfl rfl (fun _ _ _ => rfl)
  · have yk : ∀ (nx : Nat) (ops : List Instr) (ls st : List q_V), (∀ (v : Int) (M2 : q_M), q_ml (q_Vr Vt M) M2 → M2 100 5 = M 100 5 + 1 → mW M2 = (G_year (q_Vr Vt M) (mW M)).2 → q_mz M M2 → q_T 1 (d + 10) qP_X6_year nx ops ls (qI v :: st) g M2 Q) → q_S 1 (d + 9) 151 [qR 6 100] g M (q_K 1 (d + 10) qP_X6_year nx ops ls st Q) := fun nx ops ls st h => mp_year C.1 (by omega) (fun M2 h1 h2 h3 => h _ M2 h1 (G_year_y h2) h2 h3)
    simp (disch := omega) only [b_X6_year_0, x_loadR_0, x_loadS_0, f_6_5, x_iconst, y_ic_ne_t, y_ic_ne_f, b_X6_year_10, x_goto, b_X6_year_15, b_X6_year_19, x_ret0, q_isL_I, q_isL_R, q_isL_S, true_and, and_true, and_self, List.length_nil, List.length_cons, Nat.zero_add, x_K, x_Kn, Int.reduceToNat, Nat.reduceAdd, Nat.reduceMul, Nat.reduceLeDiff, Nat.reduceLT, Nat.zero_le, Int.reduceAdd, Int.reduceSub, Int.reduceMul, Int.reduceNeg, q_add_e, q_sub_e, q_mul_e, q_neg_e, q_upd_s, q_upd_n, zr_shr0, zr_shr1, zr_shr2, zr_shr3, zr_shr4, zr_and, zr_dyn8, zr_or, zr_shl, q_cpy_n, y_cpy26, c_X6_yearOf]
    refine yk _ _ _ _ (fun v M2 m2 y2 w2 h2 => ?_)
    simp (disch := omega) only [b_X6_year_0, x_loadR_0, x_loadS_0, f_6_5, x_iconst, y_ic_ne_t, y_ic_ne_f, b_X6_year_10, x_goto, b_X6_year_15, b_X6_year_19, x_ret0, q_isL_I, q_isL_R, q_isL_S, true_and, and_true, and_self, List.length_nil, List.length_cons, Nat.zero_add, x_K, x_Kn, Int.reduceToNat, Nat.reduceAdd, Nat.reduceMul, Nat.reduceLeDiff, Nat.reduceLT, Nat.zero_le, Int.reduceAdd, Int.reduceSub, Int.reduceMul, Int.reduceNeg, q_add_e, q_sub_e, q_mul_e, q_neg_e, q_upd_s, q_upd_n, zr_shr0, zr_shr1, zr_shr2, zr_shr3, zr_shr4, zr_and, zr_dyn8, zr_or, zr_shl, q_cpy_n, y_cpy26]
    exact hq _ _ (q_MI_yr hI m2 (by omega) w2 h2) (fun a i ha => h2 a i (by omega) (by omega) (by omega) (by omega) (by omega)) (by rw [if_pos (by omega)]; exact y2) (h2 109 1 (by omega) (by omega) (by omega) (by omega) (by omega)) (h2 100 12 (by omega) (by omega) (by omega) (by omega) (by omega)) (fun a i ha => h2 a i (by omega) (by omega) (by omega) (by omega) (by omega))

