section
/-! THE MODEL'S READER: a sign between two, an expression -/
set_option maxHeartbeats 8000000 in
theorem mp_between {d tm s a h o : Nat} {D : Nat → Nat} {g : q_G} {M : q_M} {c : Int} {Q : Option q_V → q_G → q_M → Prop} (ht : M 100 10 = tm) (ht6 : tm < 6) (ha : a + 1 ≤ 160) (hc : q_bi c) (hK : q_eK tm s a 0 h o D M) (hq0 : ∀ M2, q_ufr tm s M M2 → Q (some (qI 0)) g M2) (hq1 : ∀ (M2 : q_M) (h2 o2 : Nat) (D2 : Nat → Nat), q_ufr tm s M M2 → q_eK tm s (a + 1) 1 h2 o2 D2 M2 → Q (some (qI 1)) g M2) : q_S 1 (d + 2) 130 [qR 6 100, qI c] g M Q := by
  have hr := F_rank_b hc
  rw [s_X6_between]
  have aft : ∀ (M2 : q_M) (h2 o2 : Nat) (D2 : Nat → Nat), q_ufr tm s M M2 → q_eK tm s a 0 h2 o2 D2 M2 → q_T 1 (d + 2) qP_X6_between 55 [] [qR 6 100, qI c] [] g M2 Q := by
    intro M2 h2 o2 D2 hf k
    have k1 := k.1
    have k4 := k.2.2.2.1
    rw [b_X6_between_55]
    simp (disch := omega) only [b_X6_between_0, x_loadR_0, x_loadS_0, x_loadI_1, x_iconst, y_ic_ne_t, y_ic_ne_f, b_X6_between_9, x_goto, b_X6_between_13, b_X6_between_17, b_X6_between_28, f_6_25, y_if_le_t, y_if_le_f, b_X6_between_35, f_6_24, x_isub, y_iald_220, b_X6_between_53, x_ret1_0, x_ret1_1, q_isL_I, q_isL_R, q_isL_S, true_and, and_true, and_self, List.length_nil, List.length_cons, Nat.zero_add, x_K, x_Kn, Int.reduceToNat, Nat.reduceAdd, Nat.reduceMul, Nat.reduceLeDiff, Nat.reduceLT, Nat.zero_le, Int.reduceAdd, Int.reduceSub, Int.reduceMul, Int.reduceNeg, q_add_e, q_sub_e, q_mul_e, q_neg_e, q_upd_s, q_upd_n, zr_shr0, zr_shr1, zr_shr2, zr_shr3, zr_shr4, zr_and, zr_dyn8, zr_or, zr_shl, q_cpy_n, y_cpy26, c_X6_holds]
    refine mp_holds (h := h2) k1 (by omega) ?_
    simp (disch := omega) only [b_X6_between_0, x_loadR_0, x_loadS_0, x_loadI_1, x_iconst, y_ic_ne_t, y_ic_ne_f, b_X6_between_9, x_goto, b_X6_between_13, b_X6_between_17, b_X6_between_28, f_6_25, y_if_le_t, y_if_le_f, b_X6_between_35, f_6_24, x_isub, y_iald_220, b_X6_between_53, x_ret1_0, x_ret1_1, q_isL_I, q_isL_R, q_isL_S, true_and, and_true, and_self, List.length_nil, List.length_cons, Nat.zero_add, x_K, x_Kn, Int.reduceToNat, Nat.reduceAdd, Nat.reduceMul, Nat.reduceLeDiff, Nat.reduceLT, Nat.zero_le, Int.reduceAdd, Int.reduceSub, Int.reduceMul, Int.reduceNeg, q_add_e, q_sub_e, q_mul_e, q_neg_e, q_upd_s, q_upd_n, zr_shr0, zr_shr1, zr_shr2, zr_shr3, zr_shr4, zr_and, zr_dyn8, zr_or, zr_shl, q_cpy_n, y_cpy26]
    exact hq1 _ (h2 + 1) o2 D2 (q_ufr_up (q_ufr_up hf (by omega)) (by omega)) (q_eK_hold (c := c) k (Or.inl ⟨hc, rfl, rfl⟩) (by simp (disch := omega) only [q_upd_n, q_upd_s]) (by simp (disch := omega) only [q_upd_n, q_upd_s]) (by simp (disch := omega) only [q_upd_n, q_upd_s]) (fun i => by simp (disch := omega) only [q_upd_n, q_upd_s]) (fun i hi => by simp (disch := omega) only [q_upd_n, q_upd_s]))
  have mid : ∀ (M2 : q_M) (h2 o2 : Nat) (D2 : Nat → Nat), q_ufr tm s M M2 → q_eK tm s a 0 h2 o2 D2 M2 → F_rank c = 4 → q_T 1 (d + 2) qP_X6_between 28 [] [qR 6 100, qI c] [] g M2 Q := by
    intro M2 h2 o2 D2 hf k c4
    have k1 := k.1
    have k4 := k.2.2.2.1
    rw [b_X6_between_28]
    by_cases c5 : h2 = 0
    · simp (disch := omega) only [b_X6_between_0, x_loadR_0, x_loadS_0, x_loadI_1, x_iconst, y_ic_ne_t, y_ic_ne_f, b_X6_between_9, x_goto, b_X6_between_13, b_X6_between_17, f_6_25, y_if_le_t, y_if_le_f, b_X6_between_35, f_6_24, x_isub, y_iald_220, b_X6_between_53, x_ret1_0, x_ret1_1, q_isL_I, q_isL_R, q_isL_S, true_and, and_true, and_self, List.length_nil, List.length_cons, Nat.zero_add, x_K, x_Kn, Int.reduceToNat, Nat.reduceAdd, Nat.reduceMul, Nat.reduceLeDiff, Nat.reduceLT, Nat.zero_le, Int.reduceAdd, Int.reduceSub, Int.reduceMul, Int.reduceNeg, q_add_e, q_sub_e, q_mul_e, q_neg_e, q_upd_s, q_upd_n, zr_shr0, zr_shr1, zr_shr2, zr_shr3, zr_shr4, zr_and, zr_dyn8, zr_or, zr_shl, q_cpy_n, y_cpy26, k1]
      exact aft M2 h2 o2 D2 hf k
    · have t1 : ((h2 : Int) - 1).toNat = h2 - 1 := by omega
      simp (disch := omega) only [b_X6_between_0, x_loadR_0, x_loadS_0, x_loadI_1, x_iconst, y_ic_ne_t, y_ic_ne_f, b_X6_between_9, x_goto, b_X6_between_13, b_X6_between_17, f_6_25, y_if_le_t, y_if_le_f, b_X6_between_35, f_6_24, x_isub, y_iald_220, b_X6_between_53, x_ret1_0, x_ret1_1, q_isL_I, q_isL_R, q_isL_S, true_and, and_true, and_self, List.length_nil, List.length_cons, Nat.zero_add, x_K, x_Kn, Int.reduceToNat, Nat.reduceAdd, Nat.reduceMul, Nat.reduceLeDiff, Nat.reduceLT, Nat.zero_le, Int.reduceAdd, Int.reduceSub, Int.reduceMul, Int.reduceNeg, q_add_e, q_sub_e, q_mul_e, q_neg_e, q_upd_s, q_upd_n, zr_shr0, zr_shr1, zr_shr2, zr_shr3, zr_shr4, zr_and, zr_dyn8, zr_or, zr_shl, q_cpy_n, y_cpy26, k1, t1, c_X6_rank]
      refine mp_rank ?_
      by_cases c6 : F_rank (M2 115 (h2 - 1)) = 4
      · simp (disch := omega) only [b_X6_between_0, x_loadR_0, x_loadS_0, x_loadI_1, x_iconst, y_ic_ne_t, y_ic_ne_f, b_X6_between_9, x_goto, b_X6_between_13, b_X6_between_17, f_6_25, y_if_le_t, y_if_le_f, b_X6_between_35, f_6_24, x_isub, y_iald_220, b_X6_between_53, x_ret1_0, x_ret1_1, q_isL_I, q_isL_R, q_isL_S, true_and, and_true, and_self, List.length_nil, List.length_cons, Nat.zero_add, x_K, x_Kn, Int.reduceToNat, Nat.reduceAdd, Nat.reduceMul, Nat.reduceLeDiff, Nat.reduceLT, Nat.zero_le, Int.reduceAdd, Int.reduceSub, Int.reduceMul, Int.reduceNeg, q_add_e, q_sub_e, q_mul_e, q_neg_e, q_upd_s, q_upd_n, zr_shr0, zr_shr1, zr_shr2, zr_shr3, zr_shr4, zr_and, zr_dyn8, zr_or, zr_shl, q_cpy_n, y_cpy26]
        exact hq0 M2 hf
      · simp (disch := omega) only [b_X6_between_0, x_loadR_0, x_loadS_0, x_loadI_1, x_iconst, y_ic_ne_t, y_ic_ne_f, b_X6_between_9, x_goto, b_X6_between_13, b_X6_between_17, f_6_25, y_if_le_t, y_if_le_f, b_X6_between_35, f_6_24, x_isub, y_iald_220, b_X6_between_53, x_ret1_0, x_ret1_1, q_isL_I, q_isL_R, q_isL_S, true_and, and_true, and_self, List.length_nil, List.length_cons, Nat.zero_add, x_K, x_Kn, Int.reduceToNat, Nat.reduceAdd, Nat.reduceMul, Nat.reduceLeDiff, Nat.reduceLT, Nat.zero_le, Int.reduceAdd, Int.reduceSub, Int.reduceMul, Int.reduceNeg, q_add_e, q_sub_e, q_mul_e, q_neg_e, q_upd_s, q_upd_n, zr_shr0, zr_shr1, zr_shr2, zr_shr3, zr_shr4, zr_and, zr_dyn8, zr_or, zr_shl, q_cpy_n, y_cpy26]
        exact aft M2 h2 o2 D2 hf k
  simp (disch := omega) only [b_X6_between_0, x_loadR_0, x_loadS_0, x_loadI_1, x_iconst, y_ic_ne_t, y_ic_ne_f, b_X6_between_9, x_goto, b_X6_between_13, b_X6_between_17, f_6_25, y_if_le_t, y_if_le_f, b_X6_between_35, f_6_24, x_isub, y_iald_220, b_X6_between_53, x_ret1_0, x_ret1_1, q_isL_I, q_isL_R, q_isL_S, true_and, and_true, and_self, List.length_nil, List.length_cons, Nat.zero_add, x_K, x_Kn, Int.reduceToNat, Nat.reduceAdd, Nat.reduceMul, Nat.reduceLeDiff, Nat.reduceLT, Nat.zero_le, Int.reduceAdd, Int.reduceSub, Int.reduceMul, Int.reduceNeg, q_add_e, q_sub_e, q_mul_e, q_neg_e, q_upd_s, q_upd_n, zr_shr0, zr_shr1, zr_shr2, zr_shr3, zr_shr4, zr_and, zr_dyn8, zr_or, zr_shl, q_cpy_n, y_cpy26, c_X6_rank]
  refine mp_rank ?_
  by_cases c4 : F_rank c = 4
  · simp (disch := omega) only [b_X6_between_0, x_loadR_0, x_loadS_0, x_loadI_1, x_iconst, y_ic_ne_t, y_ic_ne_f, b_X6_between_9, x_goto, b_X6_between_13, b_X6_between_17, f_6_25, y_if_le_t, y_if_le_f, b_X6_between_35, f_6_24, x_isub, y_iald_220, b_X6_between_53, x_ret1_0, x_ret1_1, q_isL_I, q_isL_R, q_isL_S, true_and, and_true, and_self, List.length_nil, List.length_cons, Nat.zero_add, x_K, x_Kn, Int.reduceToNat, Nat.reduceAdd, Nat.reduceMul, Nat.reduceLeDiff, Nat.reduceLT, Nat.zero_le, Int.reduceAdd, Int.reduceSub, Int.reduceMul, Int.reduceNeg, q_add_e, q_sub_e, q_mul_e, q_neg_e, q_upd_s, q_upd_n, zr_shr0, zr_shr1, zr_shr2, zr_shr3, zr_shr4, zr_and, zr_dyn8, zr_or, zr_shl, q_cpy_n, y_cpy26, c_X6_unwinds]
    refine mp_unwinds ht ht6 (by omega) (by omega) hK (fun M2 h2 o2 D2 hf k _ => ?_)
    simp (disch := omega) only [b_X6_between_0, x_loadR_0, x_loadS_0, x_loadI_1, x_iconst, y_ic_ne_t, y_ic_ne_f, b_X6_between_9, x_goto, b_X6_between_13, b_X6_between_17, f_6_25, y_if_le_t, y_if_le_f, b_X6_between_35, f_6_24, x_isub, y_iald_220, b_X6_between_53, x_ret1_0, x_ret1_1, q_isL_I, q_isL_R, q_isL_S, true_and, and_true, and_self, List.length_nil, List.length_cons, Nat.zero_add, x_K, x_Kn, Int.reduceToNat, Nat.reduceAdd, Nat.reduceMul, Nat.reduceLeDiff, Nat.reduceLT, Nat.zero_le, Int.reduceAdd, Int.reduceSub, Int.reduceMul, Int.reduceNeg, q_add_e, q_sub_e, q_mul_e, q_neg_e, q_upd_s, q_upd_n, zr_shr0, zr_shr1, zr_shr2, zr_shr3, zr_shr4, zr_and, zr_dyn8, zr_or, zr_shl, q_cpy_n, y_cpy26, c_X6_rank]
    refine mp_rank ?_
    simp (disch := omega) only [b_X6_between_0, x_loadR_0, x_loadS_0, x_loadI_1, x_iconst, y_ic_ne_t, y_ic_ne_f, b_X6_between_9, x_goto, b_X6_between_13, b_X6_between_17, f_6_25, y_if_le_t, y_if_le_f, b_X6_between_35, f_6_24, x_isub, y_iald_220, b_X6_between_53, x_ret1_0, x_ret1_1, q_isL_I, q_isL_R, q_isL_S, true_and, and_true, and_self, List.length_nil, List.length_cons, Nat.zero_add, x_K, x_Kn, Int.reduceToNat, Nat.reduceAdd, Nat.reduceMul, Nat.reduceLeDiff, Nat.reduceLT, Nat.zero_le, Int.reduceAdd, Int.reduceSub, Int.reduceMul, Int.reduceNeg, q_add_e, q_sub_e, q_mul_e, q_neg_e, q_upd_s, q_upd_n, zr_shr0, zr_shr1, zr_shr2, zr_shr3, zr_shr4, zr_and, zr_dyn8, zr_or, zr_shl, q_cpy_n, y_cpy26]
    exact mid M2 h2 o2 D2 hf k c4
  · simp (disch := omega) only [b_X6_between_0, x_loadR_0, x_loadS_0, x_loadI_1, x_iconst, y_ic_ne_t, y_ic_ne_f, b_X6_between_9, x_goto, b_X6_between_13, b_X6_between_17, f_6_25, y_if_le_t, y_if_le_f, b_X6_between_35, f_6_24, x_isub, y_iald_220, b_X6_between_53, x_ret1_0, x_ret1_1, q_isL_I, q_isL_R, q_isL_S, true_and, and_true, and_self, List.length_nil, List.length_cons, Nat.zero_add, x_K, x_Kn, Int.reduceToNat, Nat.reduceAdd, Nat.reduceMul, Nat.reduceLeDiff, Nat.reduceLT, Nat.zero_le, Int.reduceAdd, Int.reduceSub, Int.reduceMul, Int.reduceNeg, q_add_e, q_sub_e, q_mul_e, q_neg_e, q_upd_s, q_upd_n, zr_shr0, zr_shr1, zr_shr2, zr_shr3, zr_shr4, zr_and, zr_dyn8, zr_or, zr_shl, q_cpy_n, y_cpy26, c_X6_rank]
    refine mp_rank ?_
    simp (disch := omega) only [b_X6_between_0, x_loadR_0, x_loadS_0, x_loadI_1, x_iconst, y_ic_ne_t, y_ic_ne_f, b_X6_between_9, x_goto, b_X6_between_13, b_X6_between_17, f_6_25, y_if_le_t, y_if_le_f, b_X6_between_35, f_6_24, x_isub, y_iald_220, b_X6_between_53, x_ret1_0, x_ret1_1, q_isL_I, q_isL_R, q_isL_S, true_and, and_true, and_self, List.length_nil, List.length_cons, Nat.zero_add, x_K, x_Kn, Int.reduceToNat, Nat.reduceAdd, Nat.reduceMul, Nat.reduceLeDiff, Nat.reduceLT, Nat.zero_le, Int.reduceAdd, Int.reduceSub, Int.reduceMul, Int.reduceNeg, q_add_e, q_sub_e, q_mul_e, q_neg_e, q_upd_s, q_upd_n, zr_shr0, zr_shr1, zr_shr2, zr_shr3, zr_shr4, zr_and, zr_dyn8, zr_or, zr_shl, q_cpy_n, y_cpy26, c_X6_unwinds]
    refine mp_unwinds ht ht6 (by omega) (by omega) hK (fun M2 h2 o2 D2 hf k _ => ?_)
    simp (disch := omega) only [b_X6_between_0, x_loadR_0, x_loadS_0, x_loadI_1, x_iconst, y_ic_ne_t, y_ic_ne_f, b_X6_between_9, x_goto, b_X6_between_13, b_X6_between_17, f_6_25, y_if_le_t, y_if_le_f, b_X6_between_35, f_6_24, x_isub, y_iald_220, b_X6_between_53, x_ret1_0, x_ret1_1, q_isL_I, q_isL_R, q_isL_S, true_and, and_true, and_self, List.length_nil, List.length_cons, Nat.zero_add, x_K, x_Kn, Int.reduceToNat, Nat.reduceAdd, Nat.reduceMul, Nat.reduceLeDiff, Nat.reduceLT, Nat.zero_le, Int.reduceAdd, Int.reduceSub, Int.reduceMul, Int.reduceNeg, q_add_e, q_sub_e, q_mul_e, q_neg_e, q_upd_s, q_upd_n, zr_shr0, zr_shr1, zr_shr2, zr_shr3, zr_shr4, zr_and, zr_dyn8, zr_or, zr_shl, q_cpy_n, y_cpy26, c_X6_rank]
    refine mp_rank ?_
    simp (disch := omega) only [b_X6_between_0, x_loadR_0, x_loadS_0, x_loadI_1, x_iconst, y_ic_ne_t, y_ic_ne_f, b_X6_between_9, x_goto, b_X6_between_13, b_X6_between_17, f_6_25, y_if_le_t, y_if_le_f, b_X6_between_35, f_6_24, x_isub, y_iald_220, b_X6_between_53, x_ret1_0, x_ret1_1, q_isL_I, q_isL_R, q_isL_S, true_and, and_true, and_self, List.length_nil, List.length_cons, Nat.zero_add, x_K, x_Kn, Int.reduceToNat, Nat.reduceAdd, Nat.reduceMul, Nat.reduceLeDiff, Nat.reduceLT, Nat.zero_le, Int.reduceAdd, Int.reduceSub, Int.reduceMul, Int.reduceNeg, q_add_e, q_sub_e, q_mul_e, q_neg_e, q_upd_s, q_upd_n, zr_shr0, zr_shr1, zr_shr2, zr_shr3, zr_shr4, zr_and, zr_dyn8, zr_or, zr_shl, q_cpy_n, y_cpy26]
    exact aft M2 h2 o2 D2 hf k
/-- what reading an expression changes -/
def q_efr (tm s : Nat) (M M2 : q_M) : Prop := ∀ a i, (a = 106 → i < 200 * tm + s ∨ 200 * tm + 200 ≤ i) → (a = 100 → i ≠ 19 ∧ i ≠ 20 ∧ i ≠ 21 ∧ i ≠ 22 ∧ i ≠ 25 ∧ i ≠ 26 ∧ i ≠ 27) → a ≠ 115 → M2 a i = M a i
theorem q_efr_tr {tm s : Nat} {M M2 M3 : q_M} (h : q_efr tm s M M2) (h2 : q_efr tm s M2 M3) : q_efr tm s M M3 := fun a i q1 q2 q3 => (h2 a i q1 q2 q3).trans (h a i q1 q2 q3)
theorem q_efr_u {tm s : Nat} {M M2 : q_M} (h : q_ufr tm s M M2) : q_efr tm s M M2 := fun a i q1 q2 q3 => h a i q1 (fun z => by have := q2 z; omega) q3
theorem q_efr_n {tm s : Nat} {M M2 : q_M} (h : q_nxf M M2) : q_efr tm s M M2 := fun a i q1 q2 q3 => h a i (fun z => by have := q2 z; omega)
theorem q_eK_nxf {tm s a w h o : Nat} {D : Nat → Nat} {M M2 : q_M} (hf : q_nxf M M2) (k : q_eK tm s a w h o D M) : q_eK tm s a w h o D M2 := by
  obtain ⟨k1, k2, k3, k4, k5, k6, k7⟩ := k
  have e15 : M2 115 = M 115 := funext (fun i => hf 115 i (by omega))
  have e6 : (fun i => M2 106 (200 * tm + i)) = (fun i => M 106 (200 * tm + i)) := funext (fun i => hf 106 _ (by omega))
  exact ⟨(hf 100 25 (by omega)).trans k1, (hf 100 27 (by omega)).trans k2, k3, k4, by rw [e15]; exact k5, by rw [e6]; exact k6, by rw [e15]; exact k7⟩
theorem q_eK_le {tm s a a2 w h o : Nat} {D : Nat → Nat} {M : q_M} (ha : a ≤ a2) (k : q_eK tm s a w h o D M) : q_eK tm s a2 w h o D M := ⟨k.1, k.2.1, k.2.2.1, Nat.le_trans k.2.2.2.1 ha, k.2.2.2.2⟩
set_option maxHeartbeats 16000000 in
theorem mp_eRead {d tm s n at0 : Nat} {g : q_G} {M : q_M} {Q : Option q_V → q_G → q_M → Prop} (ht : M 100 10 = tm) (ht6 : tm < 6) (hs : M 100 27 = s) (hn : M 100 7 = n) (hn2 : n ≤ 160) (h19 : M 100 19 = at0) (h0 : at0 ≤ n) (hsa : s ≤ at0) (hq0 : ∀ M2, q_efr tm s M M2 → Q (some (qI 0)) g M2) (hq1 : ∀ (M2 : q_M) (o2 at2 : Nat) (D : Nat → Nat), q_efr tm s M M2 → M2 100 27 = o2 → M2 100 19 = at2 → at2 ≤ n → o2 ≤ at2 → s < o2 → q_wfP (fun i => M2 106 (200 * tm + i)) s o2 D → D o2 = 1 → Q (some (qI 1)) g M2) : q_S 1 (d + 3) 132 [qR 6 100] g M Q := by
  rw [s_X6_eRead]
  have loop : ∀ f at1 : Nat, at1 + f = n → at0 ≤ at1 → ∀ (w h o : Nat) (D : Nat → Nat) (my : Int) (M1 : q_M) (l3 : q_V), q_isL l3 = false → (w = 0 ∨ w = 1) → q_efr tm s M M1 → M1 100 19 = at1 → q_eK tm s at1 w h o D M1 → q_T 1 (d + 3) qP_X6_eRead 14 [] [qR 6 100, qI w, qI my, l3] [] g M1 Q := by
    intro f
    induction f using Nat.strongRecOn with
    | _ f ih =>
    intro at1 hf1 hat w h o D my M1 l3 i3 hw hf e19 hK
    have e10 : M1 100 10 = tm := (hf 100 10 (by omega) (by omega) (by omega)).trans ht
    have e7 : M1 100 7 = n := (hf 100 7 (by omega) (by omega) (by omega)).trans hn
    rw [b_X6_eRead_14]
    simp (disch := omega) only [b_X6_eRead_0, x_loadR_0, x_loadS_0, x_iconst, p_6_25, p_6_26, x_storeI_1, x_storeI_2, x_loadI_1, y_if_eq_t, y_if_eq_f, b_X6_eRead_22, f_6_21, y_ic_eq_t, y_ic_eq_f, b_X6_eRead_30, y_ic_ne_t, y_ic_ne_f, b_X6_eRead_38, b_X6_eRead_47, f_6_22, x_iadd, x_goto, b_X6_eRead_57, b_X6_eRead_61, b_X6_eRead_75, b_X6_eRead_84, x_loadI_2, b_X6_eRead_88, y_if_ne_t, y_if_ne_f, b_X6_eRead_97, x_ret1_0, x_ret1_1, b_X6_eRead_99, b_X6_eRead_108, b_X6_eRead_117, b_X6_eRead_119, b_X6_eRead_124, b_X6_eRead_133, b_X6_eRead_141, b_X6_eRead_143, b_X6_eRead_148, b_X6_eRead_150, b_X6_eRead_159, f_6_25, b_X6_eRead_171, b_X6_eRead_175, b_X6_eRead_176, b_X6_eRead_177, b_X6_eRead_186, b_X6_eRead_198, b_X6_eRead_200, x_dupI, x_dupR, x_isub, f_6_26, b_X6_eRead_229, x_storeI_3, x_loadI_3, b_X6_eRead_239, b_X6_eRead_247, b_X6_eRead_249, y_ic_gt_t, y_ic_gt_f, b_X6_eRead_257, b_X6_eRead_261, b_X6_eRead_262, q_isL_I, q_isL_R, q_isL_S, true_and, and_true, and_self, List.length_nil, List.length_cons, Nat.zero_add, x_K, x_Kn, Int.reduceToNat, Nat.reduceAdd, Nat.reduceMul, Nat.reduceLeDiff, Nat.reduceLT, Nat.zero_le, Int.reduceAdd, Int.reduceSub, Int.reduceMul, Int.reduceNeg, q_add_e, q_sub_e, q_mul_e, q_neg_e, q_upd_s, q_upd_n, zr_shr0, zr_shr1, zr_shr2, zr_shr3, zr_shr4, zr_and, zr_dyn8, zr_or, zr_shl, q_cpy_n, y_cpy26, c_X6_next]
    refine mp_next (d := d + 1) e7 hn2 e19 (by omega) (fun M2 k2 hn3 g19 hk1 hk2 hk3 hk4 hk5 hk6 => ?_)
    have hf2 := q_efr_tr hf (q_efr_n (tm := tm) (s := s) hn3)
    have hK2 := q_eK_nxf hn3 hK
    have g10 : M2 100 10 = tm := (hn3 100 10 (by omega)).trans e10
    have again : M2 100 21 ≠ 0 → ∀ (w2 h2 o2 : Nat) (D2 : Nat → Nat) (my : Int) (M3 : q_M) (l3 : q_V), q_isL l3 = false → (w2 = 0 ∨ w2 = 1) → q_ufr tm s M2 M3 → q_eK tm s (at1 + 1) w2 h2 o2 D2 M3 → q_T 1 (d + 3) qP_X6_eRead 14 [] [qR 6 100, qI w2, qI my, l3] [] g M3 Q := by
      intro hz w2 h2 o2 D2 my M3 l3 i3 hw2 hf3 hK3
      have := hk4 hz
      exact ih (n - k2) (by omega) k2 (by omega) (by omega) w2 h2 o2 D2 my M3 l3 i3 hw2 (q_efr_tr hf2 (q_efr_u hf3)) ((hf3 100 19 (by omega) (by omega) (by omega)).trans g19) (q_eK_le (by omega) hK3)
    have hmt : at1 + 1 ≤ 160 ∨ M2 100 21 = 0 := by
      by_cases z : M2 100 21 = 0
      · exact Or.inr z
      · have := hk4 z
        exact Or.inl (by omega)
    have k1 := hK2.1
    have k27 := hK2.2.1
    have k3 := hK2.2.2.1
    have k4 := hK2.2.2.2.1
    have open1 : ∀ (c my : Int), (c = 0 ∨ q_una c) → M2 100 21 ≠ 0 → w = 1 → ∀ v : Int, q_T 1 (d + 3) qP_X6_eRead 14 [] [qR 6 100, qI 1, qI my, l3] [] g (q_upd (q_upd (q_upd M2 100 26 v) 115 h c) 100 25 ((h : Int) + 1)) Q := by
      intro c my hc hz w1 v
      subst w1
      exact again hz 1 (h + 1) o D my _ l3 i3 (Or.inr rfl) (q_ufr_up (q_ufr_up (q_ufr_up q_ufr_rf (by omega)) (by omega)) (by omega)) (q_eK_hold (c := c) hK2 (Or.inr ⟨hc, rfl⟩) (by simp (disch := omega) only [q_upd_n, q_upd_s]) (by simp (disch := omega) only [q_upd_n, q_upd_s]) (by simp (disch := omega) only [q_upd_n, q_upd_s]) (fun i => by simp (disch := omega) only [q_upd_n, q_upd_s]) (fun i hi => by simp (disch := omega) only [q_upd_n, q_upd_s]))
    rcases hw with w0 | w1
    · subst w0
      by_cases t59 : M2 100 21 = 59
      · simp (disch := omega) only [b_X6_eRead_0, x_loadR_0, x_loadS_0, x_iconst, p_6_25, p_6_26, x_storeI_1, x_storeI_2, x_loadI_1, y_if_eq_t, y_if_eq_f, b_X6_eRead_22, f_6_21, y_ic_eq_t, y_ic_eq_f, b_X6_eRead_30, y_ic_ne_t, y_ic_ne_f, b_X6_eRead_38, b_X6_eRead_47, f_6_22, x_iadd, x_goto, b_X6_eRead_57, b_X6_eRead_61, b_X6_eRead_75, b_X6_eRead_84, x_loadI_2, b_X6_eRead_88, y_if_ne_t, y_if_ne_f, b_X6_eRead_97, x_ret1_0, x_ret1_1, b_X6_eRead_99, b_X6_eRead_108, b_X6_eRead_117, b_X6_eRead_119, b_X6_eRead_124, b_X6_eRead_133, b_X6_eRead_141, b_X6_eRead_143, b_X6_eRead_148, b_X6_eRead_150, b_X6_eRead_159, f_6_25, b_X6_eRead_171, b_X6_eRead_175, b_X6_eRead_176, b_X6_eRead_177, b_X6_eRead_186, b_X6_eRead_198, b_X6_eRead_200, x_dupI, x_dupR, x_isub, f_6_26, b_X6_eRead_229, x_storeI_3, x_loadI_3, b_X6_eRead_239, b_X6_eRead_247, b_X6_eRead_249, y_ic_gt_t, y_ic_gt_f, b_X6_eRead_257, b_X6_eRead_261, b_X6_eRead_262, q_isL_I, q_isL_R, q_isL_S, true_and, and_true, and_self, List.length_nil, List.length_cons, Nat.zero_add, x_K, x_Kn, Int.reduceToNat, Nat.reduceAdd, Nat.reduceMul, Nat.reduceLeDiff, Nat.reduceLT, Nat.zero_le, Int.reduceAdd, Int.reduceSub, Int.reduceMul, Int.reduceNeg, q_add_e, q_sub_e, q_mul_e, q_neg_e, q_upd_s, q_upd_n, zr_shr0, zr_shr1, zr_shr2, zr_shr3, zr_shr4, zr_and, zr_dyn8, zr_or, zr_shl, q_cpy_n, y_cpy26, c_X6_unwinds]
        refine mp_unwinds (d := d + 1) g10 ht6 (show at1 ≤ 160 by omega) (by omega) hK2 (fun M3 h3 o3 D3 hf3 hK3 h3r => ?_)
        have hf4 := q_efr_tr hf2 (q_efr_u hf3)
        by_cases z : h3 = 0
        · subst z
          have z25 : M3 100 25 = 0 := hK3.1
          simp (disch := omega) only [b_X6_eRead_0, x_loadR_0, x_loadS_0, x_iconst, p_6_25, p_6_26, x_storeI_1, x_storeI_2, x_loadI_1, y_if_eq_t, y_if_eq_f, b_X6_eRead_22, f_6_21, y_ic_eq_t, y_ic_eq_f, b_X6_eRead_30, y_ic_ne_t, y_ic_ne_f, b_X6_eRead_38, b_X6_eRead_47, f_6_22, x_iadd, x_goto, b_X6_eRead_57, b_X6_eRead_61, b_X6_eRead_75, b_X6_eRead_84, x_loadI_2, b_X6_eRead_88, y_if_ne_t, y_if_ne_f, b_X6_eRead_97, x_ret1_0, x_ret1_1, b_X6_eRead_99, b_X6_eRead_108, b_X6_eRead_117, b_X6_eRead_119, b_X6_eRead_124, b_X6_eRead_133, b_X6_eRead_141, b_X6_eRead_143, b_X6_eRead_148, b_X6_eRead_150, b_X6_eRead_159, f_6_25, b_X6_eRead_171, b_X6_eRead_175, b_X6_eRead_176, b_X6_eRead_177, b_X6_eRead_186, b_X6_eRead_198, b_X6_eRead_200, x_dupI, x_dupR, x_isub, f_6_26, b_X6_eRead_229, x_storeI_3, x_loadI_3, b_X6_eRead_239, b_X6_eRead_247, b_X6_eRead_249, y_ic_gt_t, y_ic_gt_f, b_X6_eRead_257, b_X6_eRead_261, b_X6_eRead_262, q_isL_I, q_isL_R, q_isL_S, true_and, and_true, and_self, List.length_nil, List.length_cons, Nat.zero_add, x_K, x_Kn, Int.reduceToNat, Nat.reduceAdd, Nat.reduceMul, Nat.reduceLeDiff, Nat.reduceLT, Nat.zero_le, Int.reduceAdd, Int.reduceSub, Int.reduceMul, Int.reduceNeg, q_add_e, q_sub_e, q_mul_e, q_neg_e, q_upd_s, q_upd_n, zr_shr0, zr_shr1, zr_shr2, zr_shr3, zr_shr4, zr_and, zr_dyn8, zr_or, zr_shl, q_cpy_n, y_cpy26]
          obtain ⟨j1, j2, j3, j4, j5, j6, j7⟩ := hK3
          have hD1 : D3 o3 = 1 := by unfold F_bn at j7; omega
          have hso : s < o3 := by
            rcases Nat.lt_or_ge s o3 with z | z
            · exact z
            · have : s = o3 := by omega
              rw [← this, j6.1] at hD1
              omega
          exact hq1 M3 o3 k2 D3 hf4 j2 ((hf3 100 19 (by omega) (by omega) (by omega)).trans g19) (by omega) (by omega) hso j6 hD1
        · have z25 : M3 100 25 ≠ 0 := by rw [hK3.1]; omega
          simp (disch := omega) only [b_X6_eRead_0, x_loadR_0, x_loadS_0, x_iconst, p_6_25, p_6_26, x_storeI_1, x_storeI_2, x_loadI_1, y_if_eq_t, y_if_eq_f, b_X6_eRead_22, f_6_21, y_ic_eq_t, y_ic_eq_f, b_X6_eRead_30, y_ic_ne_t, y_ic_ne_f, b_X6_eRead_38, b_X6_eRead_47, f_6_22, x_iadd, x_goto, b_X6_eRead_57, b_X6_eRead_61, b_X6_eRead_75, b_X6_eRead_84, x_loadI_2, b_X6_eRead_88, y_if_ne_t, y_if_ne_f, b_X6_eRead_97, x_ret1_0, x_ret1_1, b_X6_eRead_99, b_X6_eRead_108, b_X6_eRead_117, b_X6_eRead_119, b_X6_eRead_124, b_X6_eRead_133, b_X6_eRead_141, b_X6_eRead_143, b_X6_eRead_148, b_X6_eRead_150, b_X6_eRead_159, f_6_25, b_X6_eRead_171, b_X6_eRead_175, b_X6_eRead_176, b_X6_eRead_177, b_X6_eRead_186, b_X6_eRead_198, b_X6_eRead_200, x_dupI, x_dupR, x_isub, f_6_26, b_X6_eRead_229, x_storeI_3, x_loadI_3, b_X6_eRead_239, b_X6_eRead_247, b_X6_eRead_249, y_ic_gt_t, y_ic_gt_f, b_X6_eRead_257, b_X6_eRead_261, b_X6_eRead_262, q_isL_I, q_isL_R, q_isL_S, true_and, and_true, and_self, List.length_nil, List.length_cons, Nat.zero_add, x_K, x_Kn, Int.reduceToNat, Nat.reduceAdd, Nat.reduceMul, Nat.reduceLeDiff, Nat.reduceLT, Nat.zero_le, Int.reduceAdd, Int.reduceSub, Int.reduceMul, Int.reduceNeg, q_add_e, q_sub_e, q_mul_e, q_neg_e, q_upd_s, q_upd_n, zr_shr0, zr_shr1, zr_shr2, zr_shr3, zr_shr4, zr_and, zr_dyn8, zr_or, zr_shl, q_cpy_n, y_cpy26]
          exact hq0 M3 hf4
      · by_cases t41 : M2 100 21 = 41
        · simp (disch := omega) only [b_X6_eRead_0, x_loadR_0, x_loadS_0, x_iconst, p_6_25, p_6_26, x_storeI_1, x_storeI_2, x_loadI_1, y_if_eq_t, y_if_eq_f, b_X6_eRead_22, f_6_21, y_ic_eq_t, y_ic_eq_f, b_X6_eRead_30, y_ic_ne_t, y_ic_ne_f, b_X6_eRead_38, b_X6_eRead_47, f_6_22, x_iadd, x_goto, b_X6_eRead_57, b_X6_eRead_61, b_X6_eRead_75, b_X6_eRead_84, x_loadI_2, b_X6_eRead_88, y_if_ne_t, y_if_ne_f, b_X6_eRead_97, x_ret1_0, x_ret1_1, b_X6_eRead_99, b_X6_eRead_108, b_X6_eRead_117, b_X6_eRead_119, b_X6_eRead_124, b_X6_eRead_133, b_X6_eRead_141, b_X6_eRead_143, b_X6_eRead_148, b_X6_eRead_150, b_X6_eRead_159, f_6_25, b_X6_eRead_171, b_X6_eRead_175, b_X6_eRead_176, b_X6_eRead_177, b_X6_eRead_186, b_X6_eRead_198, b_X6_eRead_200, x_dupI, x_dupR, x_isub, f_6_26, b_X6_eRead_229, x_storeI_3, x_loadI_3, b_X6_eRead_239, b_X6_eRead_247, b_X6_eRead_249, y_ic_gt_t, y_ic_gt_f, b_X6_eRead_257, b_X6_eRead_261, b_X6_eRead_262, q_isL_I, q_isL_R, q_isL_S, true_and, and_true, and_self, List.length_nil, List.length_cons, Nat.zero_add, x_K, x_Kn, Int.reduceToNat, Nat.reduceAdd, Nat.reduceMul, Nat.reduceLeDiff, Nat.reduceLT, Nat.zero_le, Int.reduceAdd, Int.reduceSub, Int.reduceMul, Int.reduceNeg, q_add_e, q_sub_e, q_mul_e, q_neg_e, q_upd_s, q_upd_n, zr_shr0, zr_shr1, zr_shr2, zr_shr3, zr_shr4, zr_and, zr_dyn8, zr_or, zr_shl, q_cpy_n, y_cpy26, c_X6_unwinds]
          refine mp_unwinds (d := d + 1) g10 ht6 (show at1 ≤ 160 by omega) (by omega) hK2 (fun M3 h3 o3 D3 hf3 hK3 h3r => ?_)
          have hf4 := q_efr_tr hf2 (q_efr_u hf3)
          by_cases z : h3 = 0
          · subst z
            have z25 : M3 100 25 = 0 := hK3.1
            simp (disch := omega) only [b_X6_eRead_0, x_loadR_0, x_loadS_0, x_iconst, p_6_25, p_6_26, x_storeI_1, x_storeI_2, x_loadI_1, y_if_eq_t, y_if_eq_f, b_X6_eRead_22, f_6_21, y_ic_eq_t, y_ic_eq_f, b_X6_eRead_30, y_ic_ne_t, y_ic_ne_f, b_X6_eRead_38, b_X6_eRead_47, f_6_22, x_iadd, x_goto, b_X6_eRead_57, b_X6_eRead_61, b_X6_eRead_75, b_X6_eRead_84, x_loadI_2, b_X6_eRead_88, y_if_ne_t, y_if_ne_f, b_X6_eRead_97, x_ret1_0, x_ret1_1, b_X6_eRead_99, b_X6_eRead_108, b_X6_eRead_117, b_X6_eRead_119, b_X6_eRead_124, b_X6_eRead_133, b_X6_eRead_141, b_X6_eRead_143, b_X6_eRead_148, b_X6_eRead_150, b_X6_eRead_159, f_6_25, b_X6_eRead_171, b_X6_eRead_175, b_X6_eRead_176, b_X6_eRead_177, b_X6_eRead_186, b_X6_eRead_198, b_X6_eRead_200, x_dupI, x_dupR, x_isub, f_6_26, b_X6_eRead_229, x_storeI_3, x_loadI_3, b_X6_eRead_239, b_X6_eRead_247, b_X6_eRead_249, y_ic_gt_t, y_ic_gt_f, b_X6_eRead_257, b_X6_eRead_261, b_X6_eRead_262, q_isL_I, q_isL_R, q_isL_S, true_and, and_true, and_self, List.length_nil, List.length_cons, Nat.zero_add, x_K, x_Kn, Int.reduceToNat, Nat.reduceAdd, Nat.reduceMul, Nat.reduceLeDiff, Nat.reduceLT, Nat.zero_le, Int.reduceAdd, Int.reduceSub, Int.reduceMul, Int.reduceNeg, q_add_e, q_sub_e, q_mul_e, q_neg_e, q_upd_s, q_upd_n, zr_shr0, zr_shr1, zr_shr2, zr_shr3, zr_shr4, zr_and, zr_dyn8, zr_or, zr_shl, q_cpy_n, y_cpy26]
            exact hq0 M3 hf4
          · obtain ⟨x, rfl⟩ : ∃ x, h3 = x + 1 := ⟨h3 - 1, by omega⟩
            obtain ⟨j1, j2, j3, j4, j5, j6, j7⟩ := hK3
            have hp : M3 115 x = 0 := by
              rcases h3r with z | z
              · omega
              · exact F_rank_0 z
            have z25 : M3 100 25 ≠ 0 := by omega
            have e1 : ((x + 1 : Nat) : Int) - 1 = x := by omega
            have g3 : M3 100 10 = tm := (hf3 100 10 (by omega) (by omega) (by omega)).trans g10
            have hKp : ∀ v : Int, q_eK tm s at1 0 x o3 D3 (q_upd (q_upd M3 100 25 x) 100 26 v) := by
              intro v
              refine ⟨by simp (disch := omega) only [q_upd_n, q_upd_s], by simp (disch := omega) only [q_upd_n]; exact j2, j3, by omega, fun y hy => by simp (disch := omega) only [q_upd_n]; exact j5 y (by omega), ?_, ?_⟩
              · rw [show (fun i => q_upd (q_upd M3 100 25 x) 100 26 v 106 (200 * tm + i)) = (fun i => M3 106 (200 * tm + i)) from funext (fun i => by simp (disch := omega) only [q_upd_n])]
                exact j6
              · rw [F_bn_c (H := M3 115) x (fun y _ => by simp (disch := omega) only [q_upd_n])]
                unfold F_bn at j7
                rw [hp, if_neg (by omega)] at j7
                exact j7
            simp (disch := omega) only [b_X6_eRead_0, x_loadR_0, x_loadS_0, x_iconst, p_6_25, p_6_26, x_storeI_1, x_storeI_2, x_loadI_1, y_if_eq_t, y_if_eq_f, b_X6_eRead_22, f_6_21, y_ic_eq_t, y_ic_eq_f, b_X6_eRead_30, y_ic_ne_t, y_ic_ne_f, b_X6_eRead_38, b_X6_eRead_47, f_6_22, x_iadd, x_goto, b_X6_eRead_57, b_X6_eRead_61, b_X6_eRead_75, b_X6_eRead_84, x_loadI_2, b_X6_eRead_88, y_if_ne_t, y_if_ne_f, b_X6_eRead_97, x_ret1_0, x_ret1_1, b_X6_eRead_99, b_X6_eRead_108, b_X6_eRead_117, b_X6_eRead_119, b_X6_eRead_124, b_X6_eRead_133, b_X6_eRead_141, b_X6_eRead_143, b_X6_eRead_148, b_X6_eRead_150, b_X6_eRead_159, f_6_25, b_X6_eRead_171, b_X6_eRead_175, b_X6_eRead_176, b_X6_eRead_177, b_X6_eRead_186, b_X6_eRead_198, b_X6_eRead_200, x_dupI, x_dupR, x_isub, f_6_26, b_X6_eRead_229, x_storeI_3, x_loadI_3, b_X6_eRead_239, b_X6_eRead_247, b_X6_eRead_249, y_ic_gt_t, y_ic_gt_f, b_X6_eRead_257, b_X6_eRead_261, b_X6_eRead_262, q_isL_I, q_isL_R, q_isL_S, true_and, and_true, and_self, List.length_nil, List.length_cons, Nat.zero_add, x_K, x_Kn, Int.reduceToNat, Nat.reduceAdd, Nat.reduceMul, Nat.reduceLeDiff, Nat.reduceLT, Nat.zero_le, Int.reduceAdd, Int.reduceSub, Int.reduceMul, Int.reduceNeg, q_add_e, q_sub_e, q_mul_e, q_neg_e, q_upd_s, q_upd_n, zr_shr0, zr_shr1, zr_shr2, zr_shr3, zr_shr4, zr_and, zr_dyn8, zr_or, zr_shl, q_cpy_n, y_cpy26, j1, e1, c_X6_unwinds]
            refine mp_unwinds (d := d + 1) (tm := tm) (s := s) (a := at1) (h := x) (o := o3) (D := D3) (by simp (disch := omega) only [q_upd_n]; exact g3) ht6 (by omega) (by omega) (hKp _) (fun M4 h4 o4 D4 hf5 hK4 _ => ?_)
            simp (disch := omega) only [b_X6_eRead_0, x_loadR_0, x_loadS_0, x_iconst, p_6_25, p_6_26, x_storeI_1, x_storeI_2, x_loadI_1, y_if_eq_t, y_if_eq_f, b_X6_eRead_22, f_6_21, y_ic_eq_t, y_ic_eq_f, b_X6_eRead_30, y_ic_ne_t, y_ic_ne_f, b_X6_eRead_38, b_X6_eRead_47, f_6_22, x_iadd, x_goto, b_X6_eRead_57, b_X6_eRead_61, b_X6_eRead_75, b_X6_eRead_84, x_loadI_2, b_X6_eRead_88, y_if_ne_t, y_if_ne_f, b_X6_eRead_97, x_ret1_0, x_ret1_1, b_X6_eRead_99, b_X6_eRead_108, b_X6_eRead_117, b_X6_eRead_119, b_X6_eRead_124, b_X6_eRead_133, b_X6_eRead_141, b_X6_eRead_143, b_X6_eRead_148, b_X6_eRead_150, b_X6_eRead_159, f_6_25, b_X6_eRead_171, b_X6_eRead_175, b_X6_eRead_176, b_X6_eRead_177, b_X6_eRead_186, b_X6_eRead_198, b_X6_eRead_200, x_dupI, x_dupR, x_isub, f_6_26, b_X6_eRead_229, x_storeI_3, x_loadI_3, b_X6_eRead_239, b_X6_eRead_247, b_X6_eRead_249, y_ic_gt_t, y_ic_gt_f, b_X6_eRead_257, b_X6_eRead_261, b_X6_eRead_262, q_isL_I, q_isL_R, q_isL_S, true_and, and_true, and_self, List.length_nil, List.length_cons, Nat.zero_add, x_K, x_Kn, Int.reduceToNat, Nat.reduceAdd, Nat.reduceMul, Nat.reduceLeDiff, Nat.reduceLT, Nat.zero_le, Int.reduceAdd, Int.reduceSub, Int.reduceMul, Int.reduceNeg, q_add_e, q_sub_e, q_mul_e, q_neg_e, q_upd_s, q_upd_n, zr_shr0, zr_shr1, zr_shr2, zr_shr3, zr_shr4, zr_and, zr_dyn8, zr_or, zr_shl, q_cpy_n, y_cpy26]
            exact again (by omega) 0 h4 o4 D4 my M4 l3 i3 (Or.inl rfl) (q_ufr_tr (q_ufr_up (q_ufr_up hf3 (by omega)) (by omega)) hf5) (q_eK_le (by omega) hK4)
        · simp (disch := omega) only [b_X6_eRead_0, x_loadR_0, x_loadS_0, x_iconst, p_6_25, p_6_26, x_storeI_1, x_storeI_2, x_loadI_1, y_if_eq_t, y_if_eq_f, b_X6_eRead_22, f_6_21, y_ic_eq_t, y_ic_eq_f, b_X6_eRead_30, y_ic_ne_t, y_ic_ne_f, b_X6_eRead_38, b_X6_eRead_47, f_6_22, x_iadd, x_goto, b_X6_eRead_57, b_X6_eRead_61, b_X6_eRead_75, b_X6_eRead_84, x_loadI_2, b_X6_eRead_88, y_if_ne_t, y_if_ne_f, b_X6_eRead_97, x_ret1_0, x_ret1_1, b_X6_eRead_99, b_X6_eRead_108, b_X6_eRead_117, b_X6_eRead_119, b_X6_eRead_124, b_X6_eRead_133, b_X6_eRead_141, b_X6_eRead_143, b_X6_eRead_148, b_X6_eRead_150, b_X6_eRead_159, f_6_25, b_X6_eRead_171, b_X6_eRead_175, b_X6_eRead_176, b_X6_eRead_177, b_X6_eRead_186, b_X6_eRead_198, b_X6_eRead_200, x_dupI, x_dupR, x_isub, f_6_26, b_X6_eRead_229, x_storeI_3, x_loadI_3, b_X6_eRead_239, b_X6_eRead_247, b_X6_eRead_249, y_ic_gt_t, y_ic_gt_f, b_X6_eRead_257, b_X6_eRead_261, b_X6_eRead_262, q_isL_I, q_isL_R, q_isL_S, true_and, and_true, and_self, List.length_nil, List.length_cons, Nat.zero_add, x_K, x_Kn, Int.reduceToNat, Nat.reduceAdd, Nat.reduceMul, Nat.reduceLeDiff, Nat.reduceLT, Nat.zero_le, Int.reduceAdd, Int.reduceSub, Int.reduceMul, Int.reduceNeg, q_add_e, q_sub_e, q_mul_e, q_neg_e, q_upd_s, q_upd_n, zr_shr0, zr_shr1, zr_shr2, zr_shr3, zr_shr4, zr_and, zr_dyn8, zr_or, zr_shl, q_cpy_n, y_cpy26, c_X6_signOf]
          refine mp_signOf (fun c hc => ?_)
          rcases hc with hc | ⟨hc, tz⟩
          · subst hc
            simp (disch := omega) only [b_X6_eRead_0, x_loadR_0, x_loadS_0, x_iconst, p_6_25, p_6_26, x_storeI_1, x_storeI_2, x_loadI_1, y_if_eq_t, y_if_eq_f, b_X6_eRead_22, f_6_21, y_ic_eq_t, y_ic_eq_f, b_X6_eRead_30, y_ic_ne_t, y_ic_ne_f, b_X6_eRead_38, b_X6_eRead_47, f_6_22, x_iadd, x_goto, b_X6_eRead_57, b_X6_eRead_61, b_X6_eRead_75, b_X6_eRead_84, x_loadI_2, b_X6_eRead_88, y_if_ne_t, y_if_ne_f, b_X6_eRead_97, x_ret1_0, x_ret1_1, b_X6_eRead_99, b_X6_eRead_108, b_X6_eRead_117, b_X6_eRead_119, b_X6_eRead_124, b_X6_eRead_133, b_X6_eRead_141, b_X6_eRead_143, b_X6_eRead_148, b_X6_eRead_150, b_X6_eRead_159, f_6_25, b_X6_eRead_171, b_X6_eRead_175, b_X6_eRead_176, b_X6_eRead_177, b_X6_eRead_186, b_X6_eRead_198, b_X6_eRead_200, x_dupI, x_dupR, x_isub, f_6_26, b_X6_eRead_229, x_storeI_3, x_loadI_3, b_X6_eRead_239, b_X6_eRead_247, b_X6_eRead_249, y_ic_gt_t, y_ic_gt_f, b_X6_eRead_257, b_X6_eRead_261, b_X6_eRead_262, q_isL_I, q_isL_R, q_isL_S, true_and, and_true, and_self, List.length_nil, List.length_cons, Nat.zero_add, x_K, x_Kn, Int.reduceToNat, Nat.reduceAdd, Nat.reduceMul, Nat.reduceLeDiff, Nat.reduceLT, Nat.zero_le, Int.reduceAdd, Int.reduceSub, Int.reduceMul, Int.reduceNeg, q_add_e, q_sub_e, q_mul_e, q_neg_e, q_upd_s, q_upd_n, zr_shr0, zr_shr1, zr_shr2, zr_shr3, zr_shr4, zr_and, zr_dyn8, zr_or, zr_shl, q_cpy_n, y_cpy26, i3]
            exact hq0 M2 hf2
          · have hcb := hc
            unfold q_bi at hcb
            have hc1 : c ≠ -1 := by omega
            have hle := hk4 tz
            simp (disch := omega) only [b_X6_eRead_0, x_loadR_0, x_loadS_0, x_iconst, p_6_25, p_6_26, x_storeI_1, x_storeI_2, x_loadI_1, y_if_eq_t, y_if_eq_f, b_X6_eRead_22, f_6_21, y_ic_eq_t, y_ic_eq_f, b_X6_eRead_30, y_ic_ne_t, y_ic_ne_f, b_X6_eRead_38, b_X6_eRead_47, f_6_22, x_iadd, x_goto, b_X6_eRead_57, b_X6_eRead_61, b_X6_eRead_75, b_X6_eRead_84, x_loadI_2, b_X6_eRead_88, y_if_ne_t, y_if_ne_f, b_X6_eRead_97, x_ret1_0, x_ret1_1, b_X6_eRead_99, b_X6_eRead_108, b_X6_eRead_117, b_X6_eRead_119, b_X6_eRead_124, b_X6_eRead_133, b_X6_eRead_141, b_X6_eRead_143, b_X6_eRead_148, b_X6_eRead_150, b_X6_eRead_159, f_6_25, b_X6_eRead_171, b_X6_eRead_175, b_X6_eRead_176, b_X6_eRead_177, b_X6_eRead_186, b_X6_eRead_198, b_X6_eRead_200, x_dupI, x_dupR, x_isub, f_6_26, b_X6_eRead_229, x_storeI_3, x_loadI_3, b_X6_eRead_239, b_X6_eRead_247, b_X6_eRead_249, y_ic_gt_t, y_ic_gt_f, b_X6_eRead_257, b_X6_eRead_261, b_X6_eRead_262, q_isL_I, q_isL_R, q_isL_S, true_and, and_true, and_self, List.length_nil, List.length_cons, Nat.zero_add, x_K, x_Kn, Int.reduceToNat, Nat.reduceAdd, Nat.reduceMul, Nat.reduceLeDiff, Nat.reduceLT, Nat.zero_le, Int.reduceAdd, Int.reduceSub, Int.reduceMul, Int.reduceNeg, q_add_e, q_sub_e, q_mul_e, q_neg_e, q_upd_s, q_upd_n, zr_shr0, zr_shr1, zr_shr2, zr_shr3, zr_shr4, zr_and, zr_dyn8, zr_or, zr_shl, q_cpy_n, y_cpy26, i3, c_X6_between]
            refine mp_between (d := d) g10 ht6 (show at1 + 1 ≤ 160 by omega) hc hK2 (fun M3 hf3 => ?_) (fun M3 h3 o3 D3 hf3 hK3 => ?_)
            · simp (disch := omega) only [b_X6_eRead_0, x_loadR_0, x_loadS_0, x_iconst, p_6_25, p_6_26, x_storeI_1, x_storeI_2, x_loadI_1, y_if_eq_t, y_if_eq_f, b_X6_eRead_22, f_6_21, y_ic_eq_t, y_ic_eq_f, b_X6_eRead_30, y_ic_ne_t, y_ic_ne_f, b_X6_eRead_38, b_X6_eRead_47, f_6_22, x_iadd, x_goto, b_X6_eRead_57, b_X6_eRead_61, b_X6_eRead_75, b_X6_eRead_84, x_loadI_2, b_X6_eRead_88, y_if_ne_t, y_if_ne_f, b_X6_eRead_97, x_ret1_0, x_ret1_1, b_X6_eRead_99, b_X6_eRead_108, b_X6_eRead_117, b_X6_eRead_119, b_X6_eRead_124, b_X6_eRead_133, b_X6_eRead_141, b_X6_eRead_143, b_X6_eRead_148, b_X6_eRead_150, b_X6_eRead_159, f_6_25, b_X6_eRead_171, b_X6_eRead_175, b_X6_eRead_176, b_X6_eRead_177, b_X6_eRead_186, b_X6_eRead_198, b_X6_eRead_200, x_dupI, x_dupR, x_isub, f_6_26, b_X6_eRead_229, x_storeI_3, x_loadI_3, b_X6_eRead_239, b_X6_eRead_247, b_X6_eRead_249, y_ic_gt_t, y_ic_gt_f, b_X6_eRead_257, b_X6_eRead_261, b_X6_eRead_262, q_isL_I, q_isL_R, q_isL_S, true_and, and_true, and_self, List.length_nil, List.length_cons, Nat.zero_add, x_K, x_Kn, Int.reduceToNat, Nat.reduceAdd, Nat.reduceMul, Nat.reduceLeDiff, Nat.reduceLT, Nat.zero_le, Int.reduceAdd, Int.reduceSub, Int.reduceMul, Int.reduceNeg, q_add_e, q_sub_e, q_mul_e, q_neg_e, q_upd_s, q_upd_n, zr_shr0, zr_shr1, zr_shr2, zr_shr3, zr_shr4, zr_and, zr_dyn8, zr_or, zr_shl, q_cpy_n, y_cpy26]
              exact hq0 M3 (q_efr_tr hf2 (q_efr_u hf3))
            · by_cases c12 : c ≤ 12
              · simp (disch := omega) only [b_X6_eRead_0, x_loadR_0, x_loadS_0, x_iconst, p_6_25, p_6_26, x_storeI_1, x_storeI_2, x_loadI_1, y_if_eq_t, y_if_eq_f, b_X6_eRead_22, f_6_21, y_ic_eq_t, y_ic_eq_f, b_X6_eRead_30, y_ic_ne_t, y_ic_ne_f, b_X6_eRead_38, b_X6_eRead_47, f_6_22, x_iadd, x_goto, b_X6_eRead_57, b_X6_eRead_61, b_X6_eRead_75, b_X6_eRead_84, x_loadI_2, b_X6_eRead_88, y_if_ne_t, y_if_ne_f, b_X6_eRead_97, x_ret1_0, x_ret1_1, b_X6_eRead_99, b_X6_eRead_108, b_X6_eRead_117, b_X6_eRead_119, b_X6_eRead_124, b_X6_eRead_133, b_X6_eRead_141, b_X6_eRead_143, b_X6_eRead_148, b_X6_eRead_150, b_X6_eRead_159, f_6_25, b_X6_eRead_171, b_X6_eRead_175, b_X6_eRead_176, b_X6_eRead_177, b_X6_eRead_186, b_X6_eRead_198, b_X6_eRead_200, x_dupI, x_dupR, x_isub, f_6_26, b_X6_eRead_229, x_storeI_3, x_loadI_3, b_X6_eRead_239, b_X6_eRead_247, b_X6_eRead_249, y_ic_gt_t, y_ic_gt_f, b_X6_eRead_257, b_X6_eRead_261, b_X6_eRead_262, q_isL_I, q_isL_R, q_isL_S, true_and, and_true, and_self, List.length_nil, List.length_cons, Nat.zero_add, x_K, x_Kn, Int.reduceToNat, Nat.reduceAdd, Nat.reduceMul, Nat.reduceLeDiff, Nat.reduceLT, Nat.zero_le, Int.reduceAdd, Int.reduceSub, Int.reduceMul, Int.reduceNeg, q_add_e, q_sub_e, q_mul_e, q_neg_e, q_upd_s, q_upd_n, zr_shr0, zr_shr1, zr_shr2, zr_shr3, zr_shr4, zr_and, zr_dyn8, zr_or, zr_shl, q_cpy_n, y_cpy26]
                exact again tz 1 h3 o3 D3 1 M3 _ rfl (Or.inr rfl) hf3 hK3
              · simp (disch := omega) only [b_X6_eRead_0, x_loadR_0, x_loadS_0, x_iconst, p_6_25, p_6_26, x_storeI_1, x_storeI_2, x_loadI_1, y_if_eq_t, y_if_eq_f, b_X6_eRead_22, f_6_21, y_ic_eq_t, y_ic_eq_f, b_X6_eRead_30, y_ic_ne_t, y_ic_ne_f, b_X6_eRead_38, b_X6_eRead_47, f_6_22, x_iadd, x_goto, b_X6_eRead_57, b_X6_eRead_61, b_X6_eRead_75, b_X6_eRead_84, x_loadI_2, b_X6_eRead_88, y_if_ne_t, y_if_ne_f, b_X6_eRead_97, x_ret1_0, x_ret1_1, b_X6_eRead_99, b_X6_eRead_108, b_X6_eRead_117, b_X6_eRead_119, b_X6_eRead_124, b_X6_eRead_133, b_X6_eRead_141, b_X6_eRead_143, b_X6_eRead_148, b_X6_eRead_150, b_X6_eRead_159, f_6_25, b_X6_eRead_171, b_X6_eRead_175, b_X6_eRead_176, b_X6_eRead_177, b_X6_eRead_186, b_X6_eRead_198, b_X6_eRead_200, x_dupI, x_dupR, x_isub, f_6_26, b_X6_eRead_229, x_storeI_3, x_loadI_3, b_X6_eRead_239, b_X6_eRead_247, b_X6_eRead_249, y_ic_gt_t, y_ic_gt_f, b_X6_eRead_257, b_X6_eRead_261, b_X6_eRead_262, q_isL_I, q_isL_R, q_isL_S, true_and, and_true, and_self, List.length_nil, List.length_cons, Nat.zero_add, x_K, x_Kn, Int.reduceToNat, Nat.reduceAdd, Nat.reduceMul, Nat.reduceLeDiff, Nat.reduceLT, Nat.zero_le, Int.reduceAdd, Int.reduceSub, Int.reduceMul, Int.reduceNeg, q_add_e, q_sub_e, q_mul_e, q_neg_e, q_upd_s, q_upd_n, zr_shr0, zr_shr1, zr_shr2, zr_shr3, zr_shr4, zr_and, zr_dyn8, zr_or, zr_shl, q_cpy_n, y_cpy26]
                exact again tz 1 h3 o3 D3 0 M3 _ rfl (Or.inr rfl) hf3 hK3
    · subst w1
      by_cases t1 : M2 100 21 = 1
      · have hv := hk5 t1
        have hle := hk4 (by omega)
        simp (disch := omega) only [b_X6_eRead_0, x_loadR_0, x_loadS_0, x_iconst, p_6_25, p_6_26, x_storeI_1, x_storeI_2, x_loadI_1, y_if_eq_t, y_if_eq_f, b_X6_eRead_22, f_6_21, y_ic_eq_t, y_ic_eq_f, b_X6_eRead_30, y_ic_ne_t, y_ic_ne_f, b_X6_eRead_38, b_X6_eRead_47, f_6_22, x_iadd, x_goto, b_X6_eRead_57, b_X6_eRead_61, b_X6_eRead_75, b_X6_eRead_84, x_loadI_2, b_X6_eRead_88, y_if_ne_t, y_if_ne_f, b_X6_eRead_97, x_ret1_0, x_ret1_1, b_X6_eRead_99, b_X6_eRead_108, b_X6_eRead_117, b_X6_eRead_119, b_X6_eRead_124, b_X6_eRead_133, b_X6_eRead_141, b_X6_eRead_143, b_X6_eRead_148, b_X6_eRead_150, b_X6_eRead_159, f_6_25, b_X6_eRead_171, b_X6_eRead_175, b_X6_eRead_176, b_X6_eRead_177, b_X6_eRead_186, b_X6_eRead_198, b_X6_eRead_200, x_dupI, x_dupR, x_isub, f_6_26, b_X6_eRead_229, x_storeI_3, x_loadI_3, b_X6_eRead_239, b_X6_eRead_247, b_X6_eRead_249, y_ic_gt_t, y_ic_gt_f, b_X6_eRead_257, b_X6_eRead_261, b_X6_eRead_262, q_isL_I, q_isL_R, q_isL_S, true_and, and_true, and_self, List.length_nil, List.length_cons, Nat.zero_add, x_K, x_Kn, Int.reduceToNat, Nat.reduceAdd, Nat.reduceMul, Nat.reduceLeDiff, Nat.reduceLT, Nat.zero_le, Int.reduceAdd, Int.reduceSub, Int.reduceMul, Int.reduceNeg, q_add_e, q_sub_e, q_mul_e, q_neg_e, q_upd_s, q_upd_n, zr_shr0, zr_shr1, zr_shr2, zr_shr3, zr_shr4, zr_and, zr_dyn8, zr_or, zr_shl, q_cpy_n, y_cpy26, c_X6_puts]
        refine mp_puts (tm := tm) (o := o) g10 ht6 k27 (by omega) ?_
        simp (disch := omega) only [b_X6_eRead_0, x_loadR_0, x_loadS_0, x_iconst, p_6_25, p_6_26, x_storeI_1, x_storeI_2, x_loadI_1, y_if_eq_t, y_if_eq_f, b_X6_eRead_22, f_6_21, y_ic_eq_t, y_ic_eq_f, b_X6_eRead_30, y_ic_ne_t, y_ic_ne_f, b_X6_eRead_38, b_X6_eRead_47, f_6_22, x_iadd, x_goto, b_X6_eRead_57, b_X6_eRead_61, b_X6_eRead_75, b_X6_eRead_84, x_loadI_2, b_X6_eRead_88, y_if_ne_t, y_if_ne_f, b_X6_eRead_97, x_ret1_0, x_ret1_1, b_X6_eRead_99, b_X6_eRead_108, b_X6_eRead_117, b_X6_eRead_119, b_X6_eRead_124, b_X6_eRead_133, b_X6_eRead_141, b_X6_eRead_143, b_X6_eRead_148, b_X6_eRead_150, b_X6_eRead_159, f_6_25, b_X6_eRead_171, b_X6_eRead_175, b_X6_eRead_176, b_X6_eRead_177, b_X6_eRead_186, b_X6_eRead_198, b_X6_eRead_200, x_dupI, x_dupR, x_isub, f_6_26, b_X6_eRead_229, x_storeI_3, x_loadI_3, b_X6_eRead_239, b_X6_eRead_247, b_X6_eRead_249, y_ic_gt_t, y_ic_gt_f, b_X6_eRead_257, b_X6_eRead_261, b_X6_eRead_262, q_isL_I, q_isL_R, q_isL_S, true_and, and_true, and_self, List.length_nil, List.length_cons, Nat.zero_add, x_K, x_Kn, Int.reduceToNat, Nat.reduceAdd, Nat.reduceMul, Nat.reduceLeDiff, Nat.reduceLT, Nat.zero_le, Int.reduceAdd, Int.reduceSub, Int.reduceMul, Int.reduceNeg, q_add_e, q_sub_e, q_mul_e, q_neg_e, q_upd_s, q_upd_n, zr_shr0, zr_shr1, zr_shr2, zr_shr3, zr_shr4, zr_and, zr_dyn8, zr_or, zr_shl, q_cpy_n, y_cpy26, c_X6_unwinds]
        have hKp := q_eK_put (M2 := q_upd (q_upd M2 106 (200 * tm + o) (100000 + M2 100 22)) 100 27 ((o : Int) + 1)) hK2 (by rw [q_upd_n (by omega), q_upd_s]; unfold q_pu; omega) (by simp (disch := omega) only [q_upd_n]; exact k1) (by rw [q_upd_s]) (fun i hi => by simp (disch := omega) only [q_upd_n]) (fun i => by simp (disch := omega) only [q_upd_n])
        refine mp_unwinds (d := d + 1) (by simp (disch := omega) only [q_upd_n]; exact g10) ht6 (show at1 + 1 ≤ 160 by omega) (by omega) hKp (fun M4 h4 o4 D4 hf5 hK4 _ => ?_)
        simp (disch := omega) only [b_X6_eRead_0, x_loadR_0, x_loadS_0, x_iconst, p_6_25, p_6_26, x_storeI_1, x_storeI_2, x_loadI_1, y_if_eq_t, y_if_eq_f, b_X6_eRead_22, f_6_21, y_ic_eq_t, y_ic_eq_f, b_X6_eRead_30, y_ic_ne_t, y_ic_ne_f, b_X6_eRead_38, b_X6_eRead_47, f_6_22, x_iadd, x_goto, b_X6_eRead_57, b_X6_eRead_61, b_X6_eRead_75, b_X6_eRead_84, x_loadI_2, b_X6_eRead_88, y_if_ne_t, y_if_ne_f, b_X6_eRead_97, x_ret1_0, x_ret1_1, b_X6_eRead_99, b_X6_eRead_108, b_X6_eRead_117, b_X6_eRead_119, b_X6_eRead_124, b_X6_eRead_133, b_X6_eRead_141, b_X6_eRead_143, b_X6_eRead_148, b_X6_eRead_150, b_X6_eRead_159, f_6_25, b_X6_eRead_171, b_X6_eRead_175, b_X6_eRead_176, b_X6_eRead_177, b_X6_eRead_186, b_X6_eRead_198, b_X6_eRead_200, x_dupI, x_dupR, x_isub, f_6_26, b_X6_eRead_229, x_storeI_3, x_loadI_3, b_X6_eRead_239, b_X6_eRead_247, b_X6_eRead_249, y_ic_gt_t, y_ic_gt_f, b_X6_eRead_257, b_X6_eRead_261, b_X6_eRead_262, q_isL_I, q_isL_R, q_isL_S, true_and, and_true, and_self, List.length_nil, List.length_cons, Nat.zero_add, x_K, x_Kn, Int.reduceToNat, Nat.reduceAdd, Nat.reduceMul, Nat.reduceLeDiff, Nat.reduceLT, Nat.zero_le, Int.reduceAdd, Int.reduceSub, Int.reduceMul, Int.reduceNeg, q_add_e, q_sub_e, q_mul_e, q_neg_e, q_upd_s, q_upd_n, zr_shr0, zr_shr1, zr_shr2, zr_shr3, zr_shr4, zr_and, zr_dyn8, zr_or, zr_shl, q_cpy_n, y_cpy26]
        exact again (by omega) 0 h4 o4 D4 my M4 l3 i3 (Or.inl rfl) (q_ufr_tr (q_ufr_up (q_ufr_up q_ufr_rf (by omega)) (by omega)) hf5) hK4
      by_cases t2 : M2 100 21 = 2
      · have hv := hk6 t2
        have hle := hk4 (by omega)
        simp (disch := omega) only [b_X6_eRead_0, x_loadR_0, x_loadS_0, x_iconst, p_6_25, p_6_26, x_storeI_1, x_storeI_2, x_loadI_1, y_if_eq_t, y_if_eq_f, b_X6_eRead_22, f_6_21, y_ic_eq_t, y_ic_eq_f, b_X6_eRead_30, y_ic_ne_t, y_ic_ne_f, b_X6_eRead_38, b_X6_eRead_47, f_6_22, x_iadd, x_goto, b_X6_eRead_57, b_X6_eRead_61, b_X6_eRead_75, b_X6_eRead_84, x_loadI_2, b_X6_eRead_88, y_if_ne_t, y_if_ne_f, b_X6_eRead_97, x_ret1_0, x_ret1_1, b_X6_eRead_99, b_X6_eRead_108, b_X6_eRead_117, b_X6_eRead_119, b_X6_eRead_124, b_X6_eRead_133, b_X6_eRead_141, b_X6_eRead_143, b_X6_eRead_148, b_X6_eRead_150, b_X6_eRead_159, f_6_25, b_X6_eRead_171, b_X6_eRead_175, b_X6_eRead_176, b_X6_eRead_177, b_X6_eRead_186, b_X6_eRead_198, b_X6_eRead_200, x_dupI, x_dupR, x_isub, f_6_26, b_X6_eRead_229, x_storeI_3, x_loadI_3, b_X6_eRead_239, b_X6_eRead_247, b_X6_eRead_249, y_ic_gt_t, y_ic_gt_f, b_X6_eRead_257, b_X6_eRead_261, b_X6_eRead_262, q_isL_I, q_isL_R, q_isL_S, true_and, and_true, and_self, List.length_nil, List.length_cons, Nat.zero_add, x_K, x_Kn, Int.reduceToNat, Nat.reduceAdd, Nat.reduceMul, Nat.reduceLeDiff, Nat.reduceLT, Nat.zero_le, Int.reduceAdd, Int.reduceSub, Int.reduceMul, Int.reduceNeg, q_add_e, q_sub_e, q_mul_e, q_neg_e, q_upd_s, q_upd_n, zr_shr0, zr_shr1, zr_shr2, zr_shr3, zr_shr4, zr_and, zr_dyn8, zr_or, zr_shl, q_cpy_n, y_cpy26, c_X6_puts]
        refine mp_puts (tm := tm) (o := o) g10 ht6 k27 (by omega) ?_
        simp (disch := omega) only [b_X6_eRead_0, x_loadR_0, x_loadS_0, x_iconst, p_6_25, p_6_26, x_storeI_1, x_storeI_2, x_loadI_1, y_if_eq_t, y_if_eq_f, b_X6_eRead_22, f_6_21, y_ic_eq_t, y_ic_eq_f, b_X6_eRead_30, y_ic_ne_t, y_ic_ne_f, b_X6_eRead_38, b_X6_eRead_47, f_6_22, x_iadd, x_goto, b_X6_eRead_57, b_X6_eRead_61, b_X6_eRead_75, b_X6_eRead_84, x_loadI_2, b_X6_eRead_88, y_if_ne_t, y_if_ne_f, b_X6_eRead_97, x_ret1_0, x_ret1_1, b_X6_eRead_99, b_X6_eRead_108, b_X6_eRead_117, b_X6_eRead_119, b_X6_eRead_124, b_X6_eRead_133, b_X6_eRead_141, b_X6_eRead_143, b_X6_eRead_148, b_X6_eRead_150, b_X6_eRead_159, f_6_25, b_X6_eRead_171, b_X6_eRead_175, b_X6_eRead_176, b_X6_eRead_177, b_X6_eRead_186, b_X6_eRead_198, b_X6_eRead_200, x_dupI, x_dupR, x_isub, f_6_26, b_X6_eRead_229, x_storeI_3, x_loadI_3, b_X6_eRead_239, b_X6_eRead_247, b_X6_eRead_249, y_ic_gt_t, y_ic_gt_f, b_X6_eRead_257, b_X6_eRead_261, b_X6_eRead_262, q_isL_I, q_isL_R, q_isL_S, true_and, and_true, and_self, List.length_nil, List.length_cons, Nat.zero_add, x_K, x_Kn, Int.reduceToNat, Nat.reduceAdd, Nat.reduceMul, Nat.reduceLeDiff, Nat.reduceLT, Nat.zero_le, Int.reduceAdd, Int.reduceSub, Int.reduceMul, Int.reduceNeg, q_add_e, q_sub_e, q_mul_e, q_neg_e, q_upd_s, q_upd_n, zr_shr0, zr_shr1, zr_shr2, zr_shr3, zr_shr4, zr_and, zr_dyn8, zr_or, zr_shl, q_cpy_n, y_cpy26, c_X6_unwinds]
        have hKp := q_eK_put (M2 := q_upd (q_upd M2 106 (200 * tm + o) (M2 100 22)) 100 27 ((o : Int) + 1)) hK2 (by rw [q_upd_n (by omega), q_upd_s]; unfold q_pu; omega) (by simp (disch := omega) only [q_upd_n]; exact k1) (by rw [q_upd_s]) (fun i hi => by simp (disch := omega) only [q_upd_n]) (fun i => by simp (disch := omega) only [q_upd_n])
        refine mp_unwinds (d := d + 1) (by simp (disch := omega) only [q_upd_n]; exact g10) ht6 (show at1 + 1 ≤ 160 by omega) (by omega) hKp (fun M4 h4 o4 D4 hf5 hK4 _ => ?_)
        simp (disch := omega) only [b_X6_eRead_0, x_loadR_0, x_loadS_0, x_iconst, p_6_25, p_6_26, x_storeI_1, x_storeI_2, x_loadI_1, y_if_eq_t, y_if_eq_f, b_X6_eRead_22, f_6_21, y_ic_eq_t, y_ic_eq_f, b_X6_eRead_30, y_ic_ne_t, y_ic_ne_f, b_X6_eRead_38, b_X6_eRead_47, f_6_22, x_iadd, x_goto, b_X6_eRead_57, b_X6_eRead_61, b_X6_eRead_75, b_X6_eRead_84, x_loadI_2, b_X6_eRead_88, y_if_ne_t, y_if_ne_f, b_X6_eRead_97, x_ret1_0, x_ret1_1, b_X6_eRead_99, b_X6_eRead_108, b_X6_eRead_117, b_X6_eRead_119, b_X6_eRead_124, b_X6_eRead_133, b_X6_eRead_141, b_X6_eRead_143, b_X6_eRead_148, b_X6_eRead_150, b_X6_eRead_159, f_6_25, b_X6_eRead_171, b_X6_eRead_175, b_X6_eRead_176, b_X6_eRead_177, b_X6_eRead_186, b_X6_eRead_198, b_X6_eRead_200, x_dupI, x_dupR, x_isub, f_6_26, b_X6_eRead_229, x_storeI_3, x_loadI_3, b_X6_eRead_239, b_X6_eRead_247, b_X6_eRead_249, y_ic_gt_t, y_ic_gt_f, b_X6_eRead_257, b_X6_eRead_261, b_X6_eRead_262, q_isL_I, q_isL_R, q_isL_S, true_and, and_true, and_self, List.length_nil, List.length_cons, Nat.zero_add, x_K, x_Kn, Int.reduceToNat, Nat.reduceAdd, Nat.reduceMul, Nat.reduceLeDiff, Nat.reduceLT, Nat.zero_le, Int.reduceAdd, Int.reduceSub, Int.reduceMul, Int.reduceNeg, q_add_e, q_sub_e, q_mul_e, q_neg_e, q_upd_s, q_upd_n, zr_shr0, zr_shr1, zr_shr2, zr_shr3, zr_shr4, zr_and, zr_dyn8, zr_or, zr_shl, q_cpy_n, y_cpy26]
        exact again (by omega) 0 h4 o4 D4 my M4 l3 i3 (Or.inl rfl) (q_ufr_tr (q_ufr_up (q_ufr_up q_ufr_rf (by omega)) (by omega)) hf5) hK4
      have minus : M2 100 21 ≠ 6 ∨ my = 0 → q_T 1 (d + 3) qP_X6_eRead 99 [] [qR 6 100, qI 1, qI my, l3] [] g M2 Q := by
        intro _
        rw [b_X6_eRead_99]
        by_cases t45 : M2 100 21 = 45
        · simp (disch := omega) only [b_X6_eRead_0, x_loadR_0, x_loadS_0, x_iconst, p_6_25, p_6_26, x_storeI_1, x_storeI_2, x_loadI_1, y_if_eq_t, y_if_eq_f, b_X6_eRead_22, f_6_21, y_ic_eq_t, y_ic_eq_f, b_X6_eRead_30, y_ic_ne_t, y_ic_ne_f, b_X6_eRead_38, b_X6_eRead_47, f_6_22, x_iadd, x_goto, b_X6_eRead_57, b_X6_eRead_61, b_X6_eRead_75, b_X6_eRead_84, x_loadI_2, b_X6_eRead_88, y_if_ne_t, y_if_ne_f, b_X6_eRead_97, x_ret1_0, x_ret1_1, b_X6_eRead_99, b_X6_eRead_108, b_X6_eRead_117, b_X6_eRead_119, b_X6_eRead_124, b_X6_eRead_133, b_X6_eRead_141, b_X6_eRead_143, b_X6_eRead_148, b_X6_eRead_150, b_X6_eRead_159, f_6_25, b_X6_eRead_171, b_X6_eRead_175, b_X6_eRead_176, b_X6_eRead_177, b_X6_eRead_186, b_X6_eRead_198, b_X6_eRead_200, x_dupI, x_dupR, x_isub, f_6_26, b_X6_eRead_229, x_storeI_3, x_loadI_3, b_X6_eRead_239, b_X6_eRead_247, b_X6_eRead_249, y_ic_gt_t, y_ic_gt_f, b_X6_eRead_257, b_X6_eRead_261, b_X6_eRead_262, q_isL_I, q_isL_R, q_isL_S, true_and, and_true, and_self, List.length_nil, List.length_cons, Nat.zero_add, x_K, x_Kn, Int.reduceToNat, Nat.reduceAdd, Nat.reduceMul, Nat.reduceLeDiff, Nat.reduceLT, Nat.zero_le, Int.reduceAdd, Int.reduceSub, Int.reduceMul, Int.reduceNeg, q_add_e, q_sub_e, q_mul_e, q_neg_e, q_upd_s, q_upd_n, zr_shr0, zr_shr1, zr_shr2, zr_shr3, zr_shr4, zr_and, zr_dyn8, zr_or, zr_shl, q_cpy_n, y_cpy26, c_X6_opensOne]
          refine mp_opensOne (d := d + 1) k1 (by omega) ?_ (fun v => ?_)
          · simp (disch := omega) only [b_X6_eRead_0, x_loadR_0, x_loadS_0, x_iconst, p_6_25, p_6_26, x_storeI_1, x_storeI_2, x_loadI_1, y_if_eq_t, y_if_eq_f, b_X6_eRead_22, f_6_21, y_ic_eq_t, y_ic_eq_f, b_X6_eRead_30, y_ic_ne_t, y_ic_ne_f, b_X6_eRead_38, b_X6_eRead_47, f_6_22, x_iadd, x_goto, b_X6_eRead_57, b_X6_eRead_61, b_X6_eRead_75, b_X6_eRead_84, x_loadI_2, b_X6_eRead_88, y_if_ne_t, y_if_ne_f, b_X6_eRead_97, x_ret1_0, x_ret1_1, b_X6_eRead_99, b_X6_eRead_108, b_X6_eRead_117, b_X6_eRead_119, b_X6_eRead_124, b_X6_eRead_133, b_X6_eRead_141, b_X6_eRead_143, b_X6_eRead_148, b_X6_eRead_150, b_X6_eRead_159, f_6_25, b_X6_eRead_171, b_X6_eRead_175, b_X6_eRead_176, b_X6_eRead_177, b_X6_eRead_186, b_X6_eRead_198, b_X6_eRead_200, x_dupI, x_dupR, x_isub, f_6_26, b_X6_eRead_229, x_storeI_3, x_loadI_3, b_X6_eRead_239, b_X6_eRead_247, b_X6_eRead_249, y_ic_gt_t, y_ic_gt_f, b_X6_eRead_257, b_X6_eRead_261, b_X6_eRead_262, q_isL_I, q_isL_R, q_isL_S, true_and, and_true, and_self, List.length_nil, List.length_cons, Nat.zero_add, x_K, x_Kn, Int.reduceToNat, Nat.reduceAdd, Nat.reduceMul, Nat.reduceLeDiff, Nat.reduceLT, Nat.zero_le, Int.reduceAdd, Int.reduceSub, Int.reduceMul, Int.reduceNeg, q_add_e, q_sub_e, q_mul_e, q_neg_e, q_upd_s, q_upd_n, zr_shr0, zr_shr1, zr_shr2, zr_shr3, zr_shr4, zr_and, zr_dyn8, zr_or, zr_shl, q_cpy_n, y_cpy26]
            exact hq0 M2 hf2
          · simp (disch := omega) only [b_X6_eRead_0, x_loadR_0, x_loadS_0, x_iconst, p_6_25, p_6_26, x_storeI_1, x_storeI_2, x_loadI_1, y_if_eq_t, y_if_eq_f, b_X6_eRead_22, f_6_21, y_ic_eq_t, y_ic_eq_f, b_X6_eRead_30, y_ic_ne_t, y_ic_ne_f, b_X6_eRead_38, b_X6_eRead_47, f_6_22, x_iadd, x_goto, b_X6_eRead_57, b_X6_eRead_61, b_X6_eRead_75, b_X6_eRead_84, x_loadI_2, b_X6_eRead_88, y_if_ne_t, y_if_ne_f, b_X6_eRead_97, x_ret1_0, x_ret1_1, b_X6_eRead_99, b_X6_eRead_108, b_X6_eRead_117, b_X6_eRead_119, b_X6_eRead_124, b_X6_eRead_133, b_X6_eRead_141, b_X6_eRead_143, b_X6_eRead_148, b_X6_eRead_150, b_X6_eRead_159, f_6_25, b_X6_eRead_171, b_X6_eRead_175, b_X6_eRead_176, b_X6_eRead_177, b_X6_eRead_186, b_X6_eRead_198, b_X6_eRead_200, x_dupI, x_dupR, x_isub, f_6_26, b_X6_eRead_229, x_storeI_3, x_loadI_3, b_X6_eRead_239, b_X6_eRead_247, b_X6_eRead_249, y_ic_gt_t, y_ic_gt_f, b_X6_eRead_257, b_X6_eRead_261, b_X6_eRead_262, q_isL_I, q_isL_R, q_isL_S, true_and, and_true, and_self, List.length_nil, List.length_cons, Nat.zero_add, x_K, x_Kn, Int.reduceToNat, Nat.reduceAdd, Nat.reduceMul, Nat.reduceLeDiff, Nat.reduceLT, Nat.zero_le, Int.reduceAdd, Int.reduceSub, Int.reduceMul, Int.reduceNeg, q_add_e, q_sub_e, q_mul_e, q_neg_e, q_upd_s, q_upd_n, zr_shr0, zr_shr1, zr_shr2, zr_shr3, zr_shr4, zr_and, zr_dyn8, zr_or, zr_shl, q_cpy_n, y_cpy26]
            exact open1 19 0 (Or.inr (Or.inr rfl)) (by omega) rfl v
        · by_cases t40 : M2 100 21 = 40
          · simp (disch := omega) only [b_X6_eRead_0, x_loadR_0, x_loadS_0, x_iconst, p_6_25, p_6_26, x_storeI_1, x_storeI_2, x_loadI_1, y_if_eq_t, y_if_eq_f, b_X6_eRead_22, f_6_21, y_ic_eq_t, y_ic_eq_f, b_X6_eRead_30, y_ic_ne_t, y_ic_ne_f, b_X6_eRead_38, b_X6_eRead_47, f_6_22, x_iadd, x_goto, b_X6_eRead_57, b_X6_eRead_61, b_X6_eRead_75, b_X6_eRead_84, x_loadI_2, b_X6_eRead_88, y_if_ne_t, y_if_ne_f, b_X6_eRead_97, x_ret1_0, x_ret1_1, b_X6_eRead_99, b_X6_eRead_108, b_X6_eRead_117, b_X6_eRead_119, b_X6_eRead_124, b_X6_eRead_133, b_X6_eRead_141, b_X6_eRead_143, b_X6_eRead_148, b_X6_eRead_150, b_X6_eRead_159, f_6_25, b_X6_eRead_171, b_X6_eRead_175, b_X6_eRead_176, b_X6_eRead_177, b_X6_eRead_186, b_X6_eRead_198, b_X6_eRead_200, x_dupI, x_dupR, x_isub, f_6_26, b_X6_eRead_229, x_storeI_3, x_loadI_3, b_X6_eRead_239, b_X6_eRead_247, b_X6_eRead_249, y_ic_gt_t, y_ic_gt_f, b_X6_eRead_257, b_X6_eRead_261, b_X6_eRead_262, q_isL_I, q_isL_R, q_isL_S, true_and, and_true, and_self, List.length_nil, List.length_cons, Nat.zero_add, x_K, x_Kn, Int.reduceToNat, Nat.reduceAdd, Nat.reduceMul, Nat.reduceLeDiff, Nat.reduceLT, Nat.zero_le, Int.reduceAdd, Int.reduceSub, Int.reduceMul, Int.reduceNeg, q_add_e, q_sub_e, q_mul_e, q_neg_e, q_upd_s, q_upd_n, zr_shr0, zr_shr1, zr_shr2, zr_shr3, zr_shr4, zr_and, zr_dyn8, zr_or, zr_shl, q_cpy_n, y_cpy26, c_X6_opensOne]
            refine mp_opensOne (d := d + 1) k1 (by omega) ?_ (fun v => ?_)
            · simp (disch := omega) only [b_X6_eRead_0, x_loadR_0, x_loadS_0, x_iconst, p_6_25, p_6_26, x_storeI_1, x_storeI_2, x_loadI_1, y_if_eq_t, y_if_eq_f, b_X6_eRead_22, f_6_21, y_ic_eq_t, y_ic_eq_f, b_X6_eRead_30, y_ic_ne_t, y_ic_ne_f, b_X6_eRead_38, b_X6_eRead_47, f_6_22, x_iadd, x_goto, b_X6_eRead_57, b_X6_eRead_61, b_X6_eRead_75, b_X6_eRead_84, x_loadI_2, b_X6_eRead_88, y_if_ne_t, y_if_ne_f, b_X6_eRead_97, x_ret1_0, x_ret1_1, b_X6_eRead_99, b_X6_eRead_108, b_X6_eRead_117, b_X6_eRead_119, b_X6_eRead_124, b_X6_eRead_133, b_X6_eRead_141, b_X6_eRead_143, b_X6_eRead_148, b_X6_eRead_150, b_X6_eRead_159, f_6_25, b_X6_eRead_171, b_X6_eRead_175, b_X6_eRead_176, b_X6_eRead_177, b_X6_eRead_186, b_X6_eRead_198, b_X6_eRead_200, x_dupI, x_dupR, x_isub, f_6_26, b_X6_eRead_229, x_storeI_3, x_loadI_3, b_X6_eRead_239, b_X6_eRead_247, b_X6_eRead_249, y_ic_gt_t, y_ic_gt_f, b_X6_eRead_257, b_X6_eRead_261, b_X6_eRead_262, q_isL_I, q_isL_R, q_isL_S, true_and, and_true, and_self, List.length_nil, List.length_cons, Nat.zero_add, x_K, x_Kn, Int.reduceToNat, Nat.reduceAdd, Nat.reduceMul, Nat.reduceLeDiff, Nat.reduceLT, Nat.zero_le, Int.reduceAdd, Int.reduceSub, Int.reduceMul, Int.reduceNeg, q_add_e, q_sub_e, q_mul_e, q_neg_e, q_upd_s, q_upd_n, zr_shr0, zr_shr1, zr_shr2, zr_shr3, zr_shr4, zr_and, zr_dyn8, zr_or, zr_shl, q_cpy_n, y_cpy26]
              exact hq0 M2 hf2
            · simp (disch := omega) only [b_X6_eRead_0, x_loadR_0, x_loadS_0, x_iconst, p_6_25, p_6_26, x_storeI_1, x_storeI_2, x_loadI_1, y_if_eq_t, y_if_eq_f, b_X6_eRead_22, f_6_21, y_ic_eq_t, y_ic_eq_f, b_X6_eRead_30, y_ic_ne_t, y_ic_ne_f, b_X6_eRead_38, b_X6_eRead_47, f_6_22, x_iadd, x_goto, b_X6_eRead_57, b_X6_eRead_61, b_X6_eRead_75, b_X6_eRead_84, x_loadI_2, b_X6_eRead_88, y_if_ne_t, y_if_ne_f, b_X6_eRead_97, x_ret1_0, x_ret1_1, b_X6_eRead_99, b_X6_eRead_108, b_X6_eRead_117, b_X6_eRead_119, b_X6_eRead_124, b_X6_eRead_133, b_X6_eRead_141, b_X6_eRead_143, b_X6_eRead_148, b_X6_eRead_150, b_X6_eRead_159, f_6_25, b_X6_eRead_171, b_X6_eRead_175, b_X6_eRead_176, b_X6_eRead_177, b_X6_eRead_186, b_X6_eRead_198, b_X6_eRead_200, x_dupI, x_dupR, x_isub, f_6_26, b_X6_eRead_229, x_storeI_3, x_loadI_3, b_X6_eRead_239, b_X6_eRead_247, b_X6_eRead_249, y_ic_gt_t, y_ic_gt_f, b_X6_eRead_257, b_X6_eRead_261, b_X6_eRead_262, q_isL_I, q_isL_R, q_isL_S, true_and, and_true, and_self, List.length_nil, List.length_cons, Nat.zero_add, x_K, x_Kn, Int.reduceToNat, Nat.reduceAdd, Nat.reduceMul, Nat.reduceLeDiff, Nat.reduceLT, Nat.zero_le, Int.reduceAdd, Int.reduceSub, Int.reduceMul, Int.reduceNeg, q_add_e, q_sub_e, q_mul_e, q_neg_e, q_upd_s, q_upd_n, zr_shr0, zr_shr1, zr_shr2, zr_shr3, zr_shr4, zr_and, zr_dyn8, zr_or, zr_shl, q_cpy_n, y_cpy26]
              exact open1 0 1 (Or.inl rfl) (by omega) rfl v
          · simp (disch := omega) only [b_X6_eRead_0, x_loadR_0, x_loadS_0, x_iconst, p_6_25, p_6_26, x_storeI_1, x_storeI_2, x_loadI_1, y_if_eq_t, y_if_eq_f, b_X6_eRead_22, f_6_21, y_ic_eq_t, y_ic_eq_f, b_X6_eRead_30, y_ic_ne_t, y_ic_ne_f, b_X6_eRead_38, b_X6_eRead_47, f_6_22, x_iadd, x_goto, b_X6_eRead_57, b_X6_eRead_61, b_X6_eRead_75, b_X6_eRead_84, x_loadI_2, b_X6_eRead_88, y_if_ne_t, y_if_ne_f, b_X6_eRead_97, x_ret1_0, x_ret1_1, b_X6_eRead_99, b_X6_eRead_108, b_X6_eRead_117, b_X6_eRead_119, b_X6_eRead_124, b_X6_eRead_133, b_X6_eRead_141, b_X6_eRead_143, b_X6_eRead_148, b_X6_eRead_150, b_X6_eRead_159, f_6_25, b_X6_eRead_171, b_X6_eRead_175, b_X6_eRead_176, b_X6_eRead_177, b_X6_eRead_186, b_X6_eRead_198, b_X6_eRead_200, x_dupI, x_dupR, x_isub, f_6_26, b_X6_eRead_229, x_storeI_3, x_loadI_3, b_X6_eRead_239, b_X6_eRead_247, b_X6_eRead_249, y_ic_gt_t, y_ic_gt_f, b_X6_eRead_257, b_X6_eRead_261, b_X6_eRead_262, q_isL_I, q_isL_R, q_isL_S, true_and, and_true, and_self, List.length_nil, List.length_cons, Nat.zero_add, x_K, x_Kn, Int.reduceToNat, Nat.reduceAdd, Nat.reduceMul, Nat.reduceLeDiff, Nat.reduceLT, Nat.zero_le, Int.reduceAdd, Int.reduceSub, Int.reduceMul, Int.reduceNeg, q_add_e, q_sub_e, q_mul_e, q_neg_e, q_upd_s, q_upd_n, zr_shr0, zr_shr1, zr_shr2, zr_shr3, zr_shr4, zr_and, zr_dyn8, zr_or, zr_shl, q_cpy_n, y_cpy26]
            exact hq0 M2 hf2
      by_cases t6 : M2 100 21 = 6
      · by_cases m0 : my = 0
        · simp (disch := omega) only [b_X6_eRead_0, x_loadR_0, x_loadS_0, x_iconst, p_6_25, p_6_26, x_storeI_1, x_storeI_2, x_loadI_1, y_if_eq_t, y_if_eq_f, b_X6_eRead_22, f_6_21, y_ic_eq_t, y_ic_eq_f, b_X6_eRead_30, y_ic_ne_t, y_ic_ne_f, b_X6_eRead_38, b_X6_eRead_47, f_6_22, x_iadd, x_goto, b_X6_eRead_57, b_X6_eRead_61, b_X6_eRead_75, b_X6_eRead_84, x_loadI_2, b_X6_eRead_88, y_if_ne_t, y_if_ne_f, b_X6_eRead_97, x_ret1_0, x_ret1_1, b_X6_eRead_108, b_X6_eRead_117, b_X6_eRead_119, b_X6_eRead_124, b_X6_eRead_133, b_X6_eRead_141, b_X6_eRead_143, b_X6_eRead_148, b_X6_eRead_150, b_X6_eRead_159, f_6_25, b_X6_eRead_171, b_X6_eRead_175, b_X6_eRead_176, b_X6_eRead_177, b_X6_eRead_186, b_X6_eRead_198, b_X6_eRead_200, x_dupI, x_dupR, x_isub, f_6_26, b_X6_eRead_229, x_storeI_3, x_loadI_3, b_X6_eRead_239, b_X6_eRead_247, b_X6_eRead_249, y_ic_gt_t, y_ic_gt_f, b_X6_eRead_257, b_X6_eRead_261, b_X6_eRead_262, q_isL_I, q_isL_R, q_isL_S, true_and, and_true, and_self, List.length_nil, List.length_cons, Nat.zero_add, x_K, x_Kn, Int.reduceToNat, Nat.reduceAdd, Nat.reduceMul, Nat.reduceLeDiff, Nat.reduceLT, Nat.zero_le, Int.reduceAdd, Int.reduceSub, Int.reduceMul, Int.reduceNeg, q_add_e, q_sub_e, q_mul_e, q_neg_e, q_upd_s, q_upd_n, zr_shr0, zr_shr1, zr_shr2, zr_shr3, zr_shr4, zr_and, zr_dyn8, zr_or, zr_shl, q_cpy_n, y_cpy26]
          exact minus (Or.inr m0)
        · simp (disch := omega) only [b_X6_eRead_0, x_loadR_0, x_loadS_0, x_iconst, p_6_25, p_6_26, x_storeI_1, x_storeI_2, x_loadI_1, y_if_eq_t, y_if_eq_f, b_X6_eRead_22, f_6_21, y_ic_eq_t, y_ic_eq_f, b_X6_eRead_30, y_ic_ne_t, y_ic_ne_f, b_X6_eRead_38, b_X6_eRead_47, f_6_22, x_iadd, x_goto, b_X6_eRead_57, b_X6_eRead_61, b_X6_eRead_75, b_X6_eRead_84, x_loadI_2, b_X6_eRead_88, y_if_ne_t, y_if_ne_f, b_X6_eRead_97, x_ret1_0, x_ret1_1, b_X6_eRead_108, b_X6_eRead_117, b_X6_eRead_119, b_X6_eRead_124, b_X6_eRead_133, b_X6_eRead_141, b_X6_eRead_143, b_X6_eRead_148, b_X6_eRead_150, b_X6_eRead_159, f_6_25, b_X6_eRead_171, b_X6_eRead_175, b_X6_eRead_176, b_X6_eRead_177, b_X6_eRead_186, b_X6_eRead_198, b_X6_eRead_200, x_dupI, x_dupR, x_isub, f_6_26, b_X6_eRead_229, x_storeI_3, x_loadI_3, b_X6_eRead_239, b_X6_eRead_247, b_X6_eRead_249, y_ic_gt_t, y_ic_gt_f, b_X6_eRead_257, b_X6_eRead_261, b_X6_eRead_262, q_isL_I, q_isL_R, q_isL_S, true_and, and_true, and_self, List.length_nil, List.length_cons, Nat.zero_add, x_K, x_Kn, Int.reduceToNat, Nat.reduceAdd, Nat.reduceMul, Nat.reduceLeDiff, Nat.reduceLT, Nat.zero_le, Int.reduceAdd, Int.reduceSub, Int.reduceMul, Int.reduceNeg, q_add_e, q_sub_e, q_mul_e, q_neg_e, q_upd_s, q_upd_n, zr_shr0, zr_shr1, zr_shr2, zr_shr3, zr_shr4, zr_and, zr_dyn8, zr_or, zr_shl, q_cpy_n, y_cpy26, c_X6_opensOne]
          refine mp_opensOne (d := d + 1) k1 (by omega) ?_ (fun v => ?_)
          · simp (disch := omega) only [b_X6_eRead_0, x_loadR_0, x_loadS_0, x_iconst, p_6_25, p_6_26, x_storeI_1, x_storeI_2, x_loadI_1, y_if_eq_t, y_if_eq_f, b_X6_eRead_22, f_6_21, y_ic_eq_t, y_ic_eq_f, b_X6_eRead_30, y_ic_ne_t, y_ic_ne_f, b_X6_eRead_38, b_X6_eRead_47, f_6_22, x_iadd, x_goto, b_X6_eRead_57, b_X6_eRead_61, b_X6_eRead_75, b_X6_eRead_84, x_loadI_2, b_X6_eRead_88, y_if_ne_t, y_if_ne_f, b_X6_eRead_97, x_ret1_0, x_ret1_1, b_X6_eRead_108, b_X6_eRead_117, b_X6_eRead_119, b_X6_eRead_124, b_X6_eRead_133, b_X6_eRead_141, b_X6_eRead_143, b_X6_eRead_148, b_X6_eRead_150, b_X6_eRead_159, f_6_25, b_X6_eRead_171, b_X6_eRead_175, b_X6_eRead_176, b_X6_eRead_177, b_X6_eRead_186, b_X6_eRead_198, b_X6_eRead_200, x_dupI, x_dupR, x_isub, f_6_26, b_X6_eRead_229, x_storeI_3, x_loadI_3, b_X6_eRead_239, b_X6_eRead_247, b_X6_eRead_249, y_ic_gt_t, y_ic_gt_f, b_X6_eRead_257, b_X6_eRead_261, b_X6_eRead_262, q_isL_I, q_isL_R, q_isL_S, true_and, and_true, and_self, List.length_nil, List.length_cons, Nat.zero_add, x_K, x_Kn, Int.reduceToNat, Nat.reduceAdd, Nat.reduceMul, Nat.reduceLeDiff, Nat.reduceLT, Nat.zero_le, Int.reduceAdd, Int.reduceSub, Int.reduceMul, Int.reduceNeg, q_add_e, q_sub_e, q_mul_e, q_neg_e, q_upd_s, q_upd_n, zr_shr0, zr_shr1, zr_shr2, zr_shr3, zr_shr4, zr_and, zr_dyn8, zr_or, zr_shl, q_cpy_n, y_cpy26]
            exact hq0 M2 hf2
          · simp (disch := omega) only [b_X6_eRead_0, x_loadR_0, x_loadS_0, x_iconst, p_6_25, p_6_26, x_storeI_1, x_storeI_2, x_loadI_1, y_if_eq_t, y_if_eq_f, b_X6_eRead_22, f_6_21, y_ic_eq_t, y_ic_eq_f, b_X6_eRead_30, y_ic_ne_t, y_ic_ne_f, b_X6_eRead_38, b_X6_eRead_47, f_6_22, x_iadd, x_goto, b_X6_eRead_57, b_X6_eRead_61, b_X6_eRead_75, b_X6_eRead_84, x_loadI_2, b_X6_eRead_88, y_if_ne_t, y_if_ne_f, b_X6_eRead_97, x_ret1_0, x_ret1_1, b_X6_eRead_108, b_X6_eRead_117, b_X6_eRead_119, b_X6_eRead_124, b_X6_eRead_133, b_X6_eRead_141, b_X6_eRead_143, b_X6_eRead_148, b_X6_eRead_150, b_X6_eRead_159, f_6_25, b_X6_eRead_171, b_X6_eRead_175, b_X6_eRead_176, b_X6_eRead_177, b_X6_eRead_186, b_X6_eRead_198, b_X6_eRead_200, x_dupI, x_dupR, x_isub, f_6_26, b_X6_eRead_229, x_storeI_3, x_loadI_3, b_X6_eRead_239, b_X6_eRead_247, b_X6_eRead_249, y_ic_gt_t, y_ic_gt_f, b_X6_eRead_257, b_X6_eRead_261, b_X6_eRead_262, q_isL_I, q_isL_R, q_isL_S, true_and, and_true, and_self, List.length_nil, List.length_cons, Nat.zero_add, x_K, x_Kn, Int.reduceToNat, Nat.reduceAdd, Nat.reduceMul, Nat.reduceLeDiff, Nat.reduceLT, Nat.zero_le, Int.reduceAdd, Int.reduceSub, Int.reduceMul, Int.reduceNeg, q_add_e, q_sub_e, q_mul_e, q_neg_e, q_upd_s, q_upd_n, zr_shr0, zr_shr1, zr_shr2, zr_shr3, zr_shr4, zr_and, zr_dyn8, zr_or, zr_shl, q_cpy_n, y_cpy26]
            exact open1 13 my (Or.inr (Or.inl rfl)) (by omega) rfl v
      · simp (disch := omega) only [b_X6_eRead_0, x_loadR_0, x_loadS_0, x_iconst, p_6_25, p_6_26, x_storeI_1, x_storeI_2, x_loadI_1, y_if_eq_t, y_if_eq_f, b_X6_eRead_22, f_6_21, y_ic_eq_t, y_ic_eq_f, b_X6_eRead_30, y_ic_ne_t, y_ic_ne_f, b_X6_eRead_38, b_X6_eRead_47, f_6_22, x_iadd, x_goto, b_X6_eRead_57, b_X6_eRead_61, b_X6_eRead_75, b_X6_eRead_84, x_loadI_2, b_X6_eRead_88, y_if_ne_t, y_if_ne_f, b_X6_eRead_97, x_ret1_0, x_ret1_1, b_X6_eRead_108, b_X6_eRead_117, b_X6_eRead_119, b_X6_eRead_124, b_X6_eRead_133, b_X6_eRead_141, b_X6_eRead_143, b_X6_eRead_148, b_X6_eRead_150, b_X6_eRead_159, f_6_25, b_X6_eRead_171, b_X6_eRead_175, b_X6_eRead_176, b_X6_eRead_177, b_X6_eRead_186, b_X6_eRead_198, b_X6_eRead_200, x_dupI, x_dupR, x_isub, f_6_26, b_X6_eRead_229, x_storeI_3, x_loadI_3, b_X6_eRead_239, b_X6_eRead_247, b_X6_eRead_249, y_ic_gt_t, y_ic_gt_f, b_X6_eRead_257, b_X6_eRead_261, b_X6_eRead_262, q_isL_I, q_isL_R, q_isL_S, true_and, and_true, and_self, List.length_nil, List.length_cons, Nat.zero_add, x_K, x_Kn, Int.reduceToNat, Nat.reduceAdd, Nat.reduceMul, Nat.reduceLeDiff, Nat.reduceLT, Nat.zero_le, Int.reduceAdd, Int.reduceSub, Int.reduceMul, Int.reduceNeg, q_add_e, q_sub_e, q_mul_e, q_neg_e, q_upd_s, q_upd_n, zr_shr0, zr_shr1, zr_shr2, zr_shr3, zr_shr4, zr_and, zr_dyn8, zr_or, zr_shl, q_cpy_n, y_cpy26]
        exact minus (Or.inl t6)
  have hK0 : ∀ v : Int, q_eK tm s at0 1 0 s (fun _ => 0) (q_upd (q_upd M 100 25 0) 100 26 v) := fun v => ⟨by rw [q_upd_n (by omega), q_upd_s]; rfl, by simp (disch := omega) only [q_upd_n]; exact hs, Nat.le_refl _, by omega, fun x hx => absurd hx (by omega), ⟨rfl, fun i h1 h2 => absurd h1 (by omega)⟩, rfl⟩
  simp (disch := omega) only [b_X6_eRead_0, x_loadR_0, x_loadS_0, x_iconst, p_6_25, p_6_26, x_storeI_1, x_storeI_2, x_loadI_1, y_if_eq_t, y_if_eq_f, b_X6_eRead_22, f_6_21, y_ic_eq_t, y_ic_eq_f, b_X6_eRead_30, y_ic_ne_t, y_ic_ne_f, b_X6_eRead_38, b_X6_eRead_47, f_6_22, x_iadd, x_goto, b_X6_eRead_57, b_X6_eRead_61, b_X6_eRead_75, b_X6_eRead_84, x_loadI_2, b_X6_eRead_88, y_if_ne_t, y_if_ne_f, b_X6_eRead_97, x_ret1_0, x_ret1_1, b_X6_eRead_99, b_X6_eRead_108, b_X6_eRead_117, b_X6_eRead_119, b_X6_eRead_124, b_X6_eRead_133, b_X6_eRead_141, b_X6_eRead_143, b_X6_eRead_148, b_X6_eRead_150, b_X6_eRead_159, f_6_25, b_X6_eRead_171, b_X6_eRead_175, b_X6_eRead_176, b_X6_eRead_177, b_X6_eRead_186, b_X6_eRead_198, b_X6_eRead_200, x_dupI, x_dupR, x_isub, f_6_26, b_X6_eRead_229, x_storeI_3, x_loadI_3, b_X6_eRead_239, b_X6_eRead_247, b_X6_eRead_249, y_ic_gt_t, y_ic_gt_f, b_X6_eRead_257, b_X6_eRead_261, b_X6_eRead_262, q_isL_I, q_isL_R, q_isL_S, true_and, and_true, and_self, List.length_nil, List.length_cons, Nat.zero_add, x_K, x_Kn, Int.reduceToNat, Nat.reduceAdd, Nat.reduceMul, Nat.reduceLeDiff, Nat.reduceLT, Nat.zero_le, Int.reduceAdd, Int.reduceSub, Int.reduceMul, Int.reduceNeg, q_add_e, q_sub_e, q_mul_e, q_neg_e, q_upd_s, q_upd_n, zr_shr0, zr_shr1, zr_shr2, zr_shr3, zr_shr4, zr_and, zr_dyn8, zr_or, zr_shl, q_cpy_n, y_cpy26]
  exact loop (n - at0) at0 (by omega) (by omega) 1 0 s (fun _ => 0) 1 _ _ rfl (Or.inr rfl) (q_efr_u (q_ufr_up (q_ufr_up q_ufr_rf (by omega)) (by omega))) (by simp (disch := omega) only [q_upd_n]; exact h19) (hK0 0)
end
section
/-! THE MODEL'S READER: a text -/
def q_tfr (tm : Nat) (M M2 : q_M) : Prop := ∀ a i, (a = 106 → i < 200 * tm ∨ 200 * tm + 200 ≤ i) → (a = 107 → i < 4 * tm ∨ 4 * tm + 4 ≤ i) → (a = 100 → i ≠ 7 ∧ i ≠ 19 ∧ i ≠ 20 ∧ i ≠ 21 ∧ i ≠ 22 ∧ i ≠ 25 ∧ i ≠ 26 ∧ i ≠ 27) → a ≠ 115 → M2 a i = M a i
theorem q_tfr_rf {tm : Nat} {M : q_M} : q_tfr tm M M := fun _ _ _ _ _ _ => rfl
theorem q_tfr_tr {tm : Nat} {M M2 M3 : q_M} (h : q_tfr tm M M2) (h2 : q_tfr tm M2 M3) : q_tfr tm M M3 := fun a i q1 q2 q3 q4 => (h2 a i q1 q2 q3 q4).trans (h a i q1 q2 q3 q4)
theorem q_tfr_e {tm s : Nat} {M M2 : q_M} (h : q_efr tm s M M2) : q_tfr tm M M2 := fun a i q1 q2 q3 q4 => h a i (fun z => by have := q1 z; omega) (fun z => by have := q3 z; omega) q4
theorem q_tfr_n {tm : Nat} {M M2 : q_M} (h : q_nxf M M2) : q_tfr tm M M2 := fun a i q1 q2 q3 q4 => h a i (fun z => by have := q3 z; omega)
theorem q_tfr_up {tm a i : Nat} {v : Int} {M M2 : q_M} (h : q_tfr tm M M2) (hi : (a = 107 ∧ 4 * tm ≤ i ∧ i < 4 * tm + 4) ∨ (a = 100 ∧ (i = 7 ∨ i = 19 ∨ i = 27))) : q_tfr tm M (q_upd M2 a i v) := fun b j q1 q2 q3 q4 => (q_upd_n (by
  by_cases e : b = a
  · exact Or.inr (fun e2 => by subst e; subst e2; omega)
  · exact Or.inl e)).trans (h b j q1 q2 q3 q4)
theorem q_lawT_same {V : Nat → (Nat → Int) → Int} {r : Nat} {M M2 : q_M} (h : ∀ a i, ((a = 106 ∧ 200 * r ≤ i ∧ i < 200 * r + 200) ∨ (a = 107 ∧ 4 * r ≤ i ∧ i < 4 * r + 4)) → M2 a i = M a i) (hT : q_lawT V r M) : q_lawT V r M2 := fun M' h1 h2 => hT M' (fun a i ha => (h1 a i ha).trans (h a i ha)) h2
theorem q_MI_tfr {Vt : Nat → Nat → (Nat → Int) → Int} {tm : Nat} {M M2 : q_M} (hI : q_MI Vt tm M) (h : q_tfr tm M M2) (h7 : 0 ≤ M2 100 7 ∧ M2 100 7 ≤ 160) : q_MI Vt tm M2 := by
  obtain ⟨g1, g2, g3, g4, ⟨t1, t2, t3, t4⟩, g6, g7, g8, g9⟩ := hI
  exact ⟨q_mb_same (fun a i ha => h a i (by omega) (by omega) (by omega) (by omega)) g1, by rw [h 100 5 (by omega) (by omega) (by omega) (by omega)]; exact g2, fun b hb => by rw [h 103 _ (by omega) (by omega) (by omega) (by omega)]; exact g3 b hb, fun s hs => by rw [h 111 _ (by omega) (by omega) (by omega) (by omega)]; exact g4 s hs, ⟨t1, t2, (h 100 10 (by omega) (by omega) (by omega) (by omega)).trans t3, fun t ht => ⟨(t4 t ht).1, q_lawT_same (fun a i ha => h a i (by omega) (by omega) (by omega) (by omega)) (t4 t ht).2⟩⟩, by rw [h 100 11 (by omega) (by omega) (by omega) (by omega)]; exact g6, h7, q_img_same (fun a i ha => h a i (by omega) (by omega) (by omega) (by omega)) g8, by rw [h 100 12 (by omega) (by omega) (by omega) (by omega)]; exact g9⟩
def q_Vadd (Vt : Nat → Nat → (Nat → Int) → Int) (tm : Nat) (V : Nat → (Nat → Int) → Int) : Nat → Nat → (Nat → Int) → Int := fun t => if t = tm then V else Vt t
theorem q_MI_add {Vt : Nat → Nat → (Nat → Int) → Int} {tm : Nat} {M : q_M} (hI : q_MI Vt tm M) (ht : tm < 6) (hw : q_wfT (fun i => M 106 (200 * tm + i)) (fun i => M 107 (4 * tm + i))) : q_MI (q_Vadd Vt tm (q_V1 (fun i => M 106 (200 * tm + i)) (fun i => M 107 (4 * tm + i)))) (tm + 1) (q_upd M 100 10 ((tm : Int) + 1)) := by
  obtain ⟨g1, g2, g3, g4, ⟨t1, t2, t3, t4⟩, g6, g7, g8, g9⟩ := hI
  obtain ⟨i1, i2, i3, i4, i5, i6, i7, i8, i9, i10⟩ := g8
  refine ⟨q_mb_same (fun a i ha => q_upd_n (by omega)) g1, by rw [q_upd_n (by omega)]; exact g2, fun b hb => by rw [q_upd_n (by omega)]; exact g3 b hb, fun s hs => by rw [q_upd_n (by omega)]; exact g4 s hs, ⟨by omega, by omega, by rw [q_upd_s]; omega, fun t h => ?_⟩, by rw [q_upd_n (by omega)]; omega, by rw [q_upd_n (by omega)]; exact g7, q_img_same (M := M) (fun a i ha => q_upd_n (by omega)) ⟨i1, i2, i3, i4, i5, i6, i7, i8, i9, by omega⟩, by rw [q_upd_n (by omega)]; exact g9⟩
  by_cases e : t = tm
  · subst e
    rw [show q_Vadd Vt t (q_V1 (fun i => M 106 (200 * t + i)) (fun i => M 107 (4 * t + i))) t = q_V1 (fun i => M 106 (200 * t + i)) (fun i => M 107 (4 * t + i)) from if_pos rfl]
    exact ⟨q_lawV_1, q_lawT_same (fun a i ha => q_upd_n (by omega)) (q_lawT_of ht hw)⟩
  · rw [show q_Vadd Vt tm (q_V1 (fun i => M 106 (200 * tm + i)) (fun i => M 107 (4 * tm + i))) t = Vt t from if_neg e]
    have hx := t4 t (by omega)
    exact ⟨hx.1, q_lawT_same (fun a i ha => q_upd_n (by omega)) hx.2⟩
theorem q_wfP_c {C C' : Nat → Int} {s o : Nat} {D : Nat → Nat} (hw : q_wfP C s o D) (hc : ∀ i, i < o → C' i = C i) : q_wfP C' s o D := ⟨hw.1, fun i h1 h2 => by rw [hc i h2]; exact hw.2 i h1 h2⟩
end
section
/-! THE CLASS: a text just read is a law -/
theorem q_lawV_of2 {C s : Nat → Int} {len : Nat} (hC : q_cod C len) : q_lawV (q_Vt C s len) := by
  intro part f f' h
  unfold q_Vt
  by_cases c : (s part).toNat ≤ len
  · exact F_val_N hC h (len - (s part).toNat) (s part).toNat 1 _ (by omega)
  · rw [show len - (s part).toNat = 0 by omega, F_val, F_val]
set_option maxHeartbeats 4000000 in
theorem q_lawC_of2 {M : q_M} {ca ta len : Nat} (hca : ca + 1 = ta) (h1 : M ta 1 = ca) (h2 : M ta 2 = ((ta + 1 : Nat) : Int)) (h3 : M ta 3 = ((ta + 2 : Nat) : Int)) (hlen : M ca 1000 = len) (hl2 : len < 100000) (hC : q_cod (M ca) len) (hs : ∀ p, p < 3 → 0 ≤ M (ta + 1) p ∧ M (ta + 1) p ≤ 100000) : q_lawC (q_Vt (M ca) (M (ta + 1)) len) ta M := by
  intro M' hM d g Q part na hp hna hq
  by_cases c : M (ta + 1) part ≤ len
  · have hs2 : ∀ p, p < 3 → 0 ≤ (if p = part then M (ta + 1) p else 0) ∧ (if p = part then M (ta + 1) p else 0) ≤ (len : Int) := by
      intro p hp
      have := hs p hp
      by_cases e : p = part
      · rw [if_pos e, e]; rw [e] at this; omega
      · rw [if_neg e]; omega
    have eS : M' (ta + 1) part = M (ta + 1) part := hM (ta + 1) part (by omega)
    have h0 := hs part hp
    have e1 : M' ta 1 = ca := (hM ta 1 (by omega)).trans h1
    have e2 : M' ta 2 = ((ta + 1 : Nat) : Int) := (hM ta 2 (by omega)).trans h2
    have e3 : M' ta 3 = ((ta + 2 : Nat) : Int) := (hM ta 3 (by omega)).trans h3
    have eC : M' ca = M ca := funext (fun i => hM ca i (by omega))
    have hy2 := q_dynT (k := 23) e2
    have hself : q_sM M' (ta + 2) (M' (ta + 2)) = M' := by
      funext a i
      unfold q_sM
      by_cases c : a = ta + 2
      · rw [if_pos c, c]
      · rw [if_neg c]
    rw [s_X3_value]
    simp (disch := omega) only [b_X3_value_0, x_iconst, x_storeI_3, x_loadR_0, x_loadS_0, f_3_2, x_loadI_1, y_iald_23, y_iald_26, y_iald_60, x_storeI_4, x_loadI_4, f_3_1, x_alen_10, y_alen_180, y_ic_ge_t, y_ic_ge_f, b_X3_value_20, x_iand, x_storeI_5, x_ishr, x_storeI_6, x_loadI_5, y_if_ne_t, y_if_ne_f, b_X3_value_48, x_goto, b_X3_value_51, y_ic_eq_t, y_ic_eq_f, b_X3_value_57, y_ic_ne_t, y_ic_ne_f, b_X3_value_63, x_loadI_3, y_ic_lt_t, y_ic_lt_f, b_X3_value_69, x_ret0, b_X3_value_71, x_iinc_3, f_3_3, b_X3_value_85, x_loadI_6, b_X3_value_90, x_loadR_2, x_loadS_2, b_X3_value_94, y_iast_23, y_iast_26, y_iast_60, b_X3_value_98, b_X3_value_104, b_X3_value_110, b_X3_value_115, b_X3_value_117, x_storeI_7, b_X3_value_136, x_loadI_7, x_ineg, b_X3_value_142, b_X3_value_147, b_X3_value_151, b_X3_value_152, b_X3_value_156, b_X3_value_161, b_X3_value_163, x_iadd, x_storeI_8, tw_0_5, tw_0_6, tw_0_7, tw_0_8, tw_0_9, tw_0_10, tw_0_o, b_X3_value_224, x_loadI_8, x_imul, x_storeI_9, b_X3_value_234, b_X3_value_244, x_isub, b_X3_value_254, b_X3_value_261, b_X3_value_265, b_X3_value_266, b_X3_value_271, b_X3_value_278, b_X3_value_282, b_X3_value_283, b_X3_value_288, y_if_eq_t, y_if_eq_f, b_X3_value_293, b_X3_value_298, b_X3_value_302, b_X3_value_303, b_X3_value_308, b_X3_value_313, b_X3_value_318, b_X3_value_322, b_X3_value_323, b_X3_value_325, x_loadI_9, b_X3_value_333, x_iinc_4, b_X3_value_339, b_X3_value_344, b_X3_value_348, b_X3_value_354, q_isL_I, q_isL_R, q_isL_S, true_and, and_true, and_self, List.length_nil, List.length_cons, Nat.zero_add, x_K, x_Kn, Int.reduceToNat, Nat.reduceAdd, Nat.reduceMul, Nat.reduceLeDiff, Nat.reduceLT, Nat.zero_le, Int.reduceAdd, Int.reduceSub, Int.reduceMul, Int.reduceNeg, q_add_e, q_sub_e, q_mul_e, q_neg_e, q_upd_s, q_upd_n, zr_shr0, zr_shr1, zr_shr2, zr_shr3, zr_shr4, zr_and, zr_dyn8, zr_or, zr_shl, q_cpy_n, y_cpy26, hy2, Int.toNat_natCast, eS]
    have key := sp_valueL (d := d) (g := g) (M := M') (ca := ca) (ta := ta) (sa := ta + 2) (na := na) (len := len) (pt := part) (Q := Q) e1 e3 (by omega) (by omega) (Ne.symm hna) (by rw [eC]; exact hlen) hl2 (by rw [eC]; exact hC) (len - (M (ta + 1) part).toNat) (M (ta + 1) part).toNat (by omega) 1 (M' (ta + 2)) (qS 0) (qS 0) (qS 0) (qS 0) (qS 0) (by omega) (by omega) rfl rfl rfl rfl rfl ?_
    · rw [hself, show (((M (ta + 1) part).toNat : Nat) : Int) = M (ta + 1) part by omega] at key
      exact key
    · intro st2
      have h := hq (q_sM M' (ta + 2) st2) (fun a i ha => q_sM_n ha)
      unfold q_Vt at h
      rw [F_val_st (C := M ca) (N := M' na) (len - (M (ta + 1) part).toNat) (M (ta + 1) part).toNat 1 (fun _ => 0) (M' (ta + 2)) (fun k q1 q2 => absurd q1 (by omega))] at h
      rw [eC]
      exact h
  · have eS : M' (ta + 1) part = M (ta + 1) part := hM (ta + 1) part (by omega)
    have h0 := hs part hp
    have e1 : M' ta 1 = ca := (hM ta 1 (by omega)).trans h1
    have e2 : M' ta 2 = ((ta + 1 : Nat) : Int) := (hM ta 2 (by omega)).trans h2
    have hy1 := q_dynT (k := 10) e1
    have hy2 := q_dynT (k := 23) e2
    have hl : M' ca 1000 = len := (hM ca 1000 (by omega)).trans hlen
    have h := hq M' (fun a i ha => rfl)
    unfold q_Vt at h
    rw [show len - (M (ta + 1) part).toNat = 0 by omega, F_val, if_pos (by omega)] at h
    rw [s_X3_value]
    simp (disch := omega) only [b_X3_value_0, x_iconst, x_storeI_3, x_loadR_0, x_loadS_0, f_3_2, x_loadI_1, y_iald_23, y_iald_26, y_iald_60, x_storeI_4, b_X3_value_10, x_loadI_4, f_3_1, x_alen_10, y_alen_180, y_ic_ge_t, y_ic_ge_f, b_X3_value_20, x_iand, x_storeI_5, x_ishr, x_storeI_6, x_loadI_5, y_if_ne_t, y_if_ne_f, b_X3_value_48, x_goto, b_X3_value_51, y_ic_eq_t, y_ic_eq_f, b_X3_value_57, y_ic_ne_t, y_ic_ne_f, b_X3_value_63, x_loadI_3, y_ic_lt_t, y_ic_lt_f, b_X3_value_69, x_ret0, b_X3_value_71, x_iinc_3, f_3_3, b_X3_value_85, x_loadI_6, b_X3_value_90, x_loadR_2, x_loadS_2, b_X3_value_94, y_iast_23, y_iast_26, y_iast_60, b_X3_value_98, b_X3_value_104, b_X3_value_110, b_X3_value_115, b_X3_value_117, x_storeI_7, b_X3_value_136, x_loadI_7, x_ineg, b_X3_value_142, b_X3_value_147, b_X3_value_151, b_X3_value_152, b_X3_value_156, b_X3_value_161, b_X3_value_163, x_iadd, x_storeI_8, tw_0_5, tw_0_6, tw_0_7, tw_0_8, tw_0_9, tw_0_10, tw_0_o, b_X3_value_224, x_loadI_8, x_imul, x_storeI_9, b_X3_value_234, b_X3_value_244, x_isub, b_X3_value_254, b_X3_value_261, b_X3_value_265, b_X3_value_266, b_X3_value_271, b_X3_value_278, b_X3_value_282, b_X3_value_283, b_X3_value_288, y_if_eq_t, y_if_eq_f, b_X3_value_293, b_X3_value_298, b_X3_value_302, b_X3_value_303, b_X3_value_308, b_X3_value_313, b_X3_value_318, b_X3_value_322, b_X3_value_323, b_X3_value_325, x_loadI_9, b_X3_value_333, x_iinc_4, b_X3_value_339, b_X3_value_344, b_X3_value_348, b_X3_value_354, q_isL_I, q_isL_R, q_isL_S, true_and, and_true, and_self, List.length_nil, List.length_cons, Nat.zero_add, x_K, x_Kn, Int.reduceToNat, Nat.reduceAdd, Nat.reduceMul, Nat.reduceLeDiff, Nat.reduceLT, Nat.zero_le, Int.reduceAdd, Int.reduceSub, Int.reduceMul, Int.reduceNeg, q_add_e, q_sub_e, q_mul_e, q_neg_e, q_upd_s, q_upd_n, zr_shr0, zr_shr1, zr_shr2, zr_shr3, zr_shr4, zr_and, zr_dyn8, zr_or, zr_shl, q_cpy_n, y_cpy26, hy1, hy2, Int.toNat_natCast, eS, hl]
    exact h
end
section
/-! THE CLASS: what stays over calls -/
/-- the model and the script stay, and the years of now and of what is kept -/
def q_cfr (M M2 : q_M) : Prop := ∀ a i, ((100 ≤ a ∧ a < 124) ∨ 1000 ≤ a ∨ (a = 11 ∧ (i = 9 ∨ i = 10)) ∨ (a = 65 ∧ (i = 9 ∨ i = 10)) ∨ (a = 0 ∧ i = 6) ∨ (a = 1 ∧ i = 1) ∨ a = 2) → M2 a i = M a i
/-- the tape, which law stands and is kept, stay -/
def q_cft (M M2 : q_M) : Prop := ∀ a i, ((a = 11 ∧ i = 10) ∨ (a = 65 ∧ i = 10) ∨ (a = 1 ∧ i = 1) ∨ a = 2) → M2 a i = M a i
def q_cfw (M M2 : q_M) : Prop := ∀ a i, ((100 ≤ a ∧ a < 124) ∨ 1000 ≤ a) → M2 a i = M a i
theorem q_cfr_rf {M : q_M} : q_cfr M M := fun _ _ _ => rfl
def q_XI (Vt : Nat → Nat → (Nat → Int) → Int) (tm l sl : Nat) (M : q_M) : Prop := q_txs Vt tm M ∧ l < tm ∧ q_ci (Vt l) M (q_ta l) ∧ (q_rgW M 65 ∧ M 65 9 ≤ 999) ∧ (M 0 6 ≠ 0 → ∃ kl, kl < tm ∧ M 65 10 = q_ta kl) ∧ (0 ≤ M 1 1 ∧ M 1 1 ≤ 160) ∧ sl ≤ 3394 + (tm - 1) * 207
theorem q_ta_b {t : Nat} (h : t < 6) : q_ta t = 8 ∨ (125 ≤ q_ta t ∧ q_ta t ≤ 141 ∧ q_ta t % 4 = 1) := q_ta_tas h
theorem q_rgW_c {M M2 : q_M} {w : Nat} (h : ∀ a i, w ≤ a → a ≤ w + 25 → M2 a i = M a i) (hr : q_rgW M w) : q_rgW M2 w := by
  unfold q_rgW at hr ⊢
  simp (disch := omega) only [h]
  exact hr
theorem q_lawC_c {V : Nat → (Nat → Int) → Int} {ta : Nat} {M M2 : q_M} (h : ∀ a i, (a + 1 = ta ∨ a = ta ∨ a = ta + 1) → M2 a i = M a i) (hl : q_lawC V ta M) : q_lawC V ta M2 := fun M' hM => hl M' (fun a i ha => (hM a i ha).trans (h a i ha))
theorem q_txs_c {Vt : Nat → Nat → (Nat → Int) → Int} {tm : Nat} {M M2 : q_M} (h : ∀ a i, ((a = 0 ∧ i = 2) ∨ a = 5 ∨ (7 ≤ a ∧ a ≤ 9) ∨ (124 ≤ a ∧ a % 4 ≠ 3)) → M2 a i = M a i) (T : q_txs Vt tm M) : q_txs Vt tm M2 := by
  obtain ⟨h1, h2, h3, h4⟩ := T
  refine ⟨h1, h2, (h 0 2 (by omega)).trans h3, fun t ht => ?_⟩
  obtain ⟨a1, a2, a3, a4⟩ := h4 t ht
  have hta := q_ta_b (t := t) (by omega)
  exact ⟨(h 5 t (by omega)).trans a1, (h _ 0 (by omega)).trans a2, a3, q_lawC_c (fun a i ha => h a i (by omega)) a4⟩
/-- the world now has changed, all else stands -/
theorem q_XI_now {Vt : Nat → Nat → (Nat → Int) → Int} {tm l l2 sl : Nat} {M M2 : q_M} (C : q_XI Vt tm l sl M) (hl2 : l2 < tm) (hf : ∀ a i, (a < 10 ∨ (37 < a ∧ a < 100) ∨ (124 ≤ a ∧ a % 4 ≠ 3)) → M2 a i = M a i) (hr : q_rgW M2 11) (hy : M2 11 9 ≤ 999) (hla : M2 11 10 = q_ta l2) (hz : q_z5 M2 11) : q_XI Vt tm l2 sl M2 := by
  obtain ⟨T, hl, ⟨c1, c2, c3, c4, c5, c6, c7⟩, k1, k2, k3, k4⟩ := C
  have hT6 := T.2.1
  have T2 := q_txs_c (M2 := M2) (fun a i ha => hf a i (by omega)) T
  have hb := q_ta_b (t := l2) (by omega)
  have hx := T2.2.2.2 l2 hl2
  exact ⟨T2, hl2, ⟨q_ta_tas (by omega), ⟨hr, hx.2.2.1, hx.2.2.2, hla, by omega, by omega⟩, q_rg5_eq (fun a i _ h1 h2 => hf a i (by omega)) c3, hz, q_z5_eq (fun a h1 h2 => hf a 5 (by omega)) c5, hy, fun s hs => by rw [hf _ _ (by omega)]; exact c7 s hs⟩, ⟨q_rgW_c (fun a i h1 h2 => hf a i (by omega)) k1.1, by rw [hf 65 9 (by omega)]; exact k1.2⟩, fun h => by rw [hf 0 6 (by omega)] at h; rw [hf 65 10 (by omega)]; exact k2 h, by rw [hf 1 1 (by omega)]; exact k3, k4⟩
/-- the world now within its bounds by q_wl -/
theorem q_XI_w {Vt : Nat → Nat → (Nat → Int) → Int} {V : Nat → (Nat → Int) → Int} {tm l sl ta : Nat} {M M2 : q_M} (C : q_XI Vt tm l sl M) (hf : ∀ a i, (a < 10 ∨ (37 < a ∧ a < 100) ∨ (124 ≤ a ∧ a % 4 ≠ 3)) → M2 a i = M a i) (hw : q_wl V M2 11 ta) (hta : ta = q_ta l) (hy : M2 11 9 ≤ 999) (hz : ∀ a, 16 ≤ a → a ≤ 27 → M2 a 5 = M a 5) : q_XI Vt tm l sl M2 :=
  q_XI_now C C.2.1 hf hw.1 hy (by rw [hw.2.2.2.1, hta]) (q_z5_eq (fun a h1 h2 => hz a (by omega) (by omega)) C.2.2.1.2.2.2.1)
theorem q_XI_mfw {Vt : Nat → Nat → (Nat → Int) → Int} {tm l sl : Nat} {M M2 : q_M} (h : q_mfw M M2) (C : q_XI Vt tm l sl M) : q_XI Vt tm l sl M2 := by
  have hf : ∀ a i, a < 100 → M2 a i = M a i := fun a i ha => h a i (by omega)
  exact q_XI_now C C.2.1 (fun a i ha => h a i (by omega)) (q_rgW_c (fun a i _ h2 => hf a i (by omega)) C.2.2.1.2.1.1) (by rw [hf 11 9 (by omega)]; exact C.2.2.1.2.2.2.2.2.1) (by rw [hf 11 10 (by omega)]; exact C.2.2.1.2.1.2.2.2.1) (q_z5_eq (fun a h1 h2 => hf a 5 (by omega)) C.2.2.1.2.2.2.1)
theorem q_XI_mfr {Vt : Nat → Nat → (Nat → Int) → Int} {tm l sl : Nat} {M M2 : q_M} (h : q_mfr M M2) (C : q_XI Vt tm l sl M) : q_XI Vt tm l sl M2 := q_XI_mfw (fun a i ha => h a i (by omega)) C
theorem q_XI_tq {Vt : Nat → Nat → (Nat → Int) → Int} {tm l sl : Nat} {M M2 : q_M} (C : q_XI Vt tm l sl M) (h : q_tq M M2) : q_XI Vt tm l sl M2 := by
  obtain ⟨T, hl, C3, k1, k2, k3, k4⟩ := C
  have hf : ∀ a i, 65 ≤ a → a < 100 → M2 a i = M a i := fun a i h1 h2 => h a i (by omega) (by omega) (by omega) (by omega)
  have hg : ∀ a i, a < 10 → M2 a i = M a i := fun a i h1 => h a i (by omega) (by omega) (by omega) (by omega)
  exact ⟨q_txs_tq h T, hl, q_ci_tq h C3, ⟨q_rgW_c (fun a i h1 h2 => hf a i (by omega) (by omega)) k1.1, by rw [hf 65 9 (by omega) (by omega)]; exact k1.2⟩, fun q => by rw [hg 0 6 (by omega)] at q; rw [hf 65 10 (by omega) (by omega)]; exact k2 q, by rw [hg 1 1 (by omega)]; exact k3, k4⟩
theorem q_cfr_tq {M M2 : q_M} (h : q_tq M M2) : q_cfr M M2 := fun a i ha => h a i (by omega) (by omega) (by omega) (by omega)
/-- the sheets have changed, or the tape -/
theorem q_XI_sh {Vt : Nat → Nat → (Nat → Int) → Int} {tm l sl : Nat} {M M2 : q_M} (C : q_XI Vt tm l sl M) (hf : ∀ a i, (a < 1 ∨ (4 < a ∧ a < 92) ∨ 124 ≤ a) → M2 a i = M a i) (h1 : 0 ≤ M2 1 1 ∧ M2 1 1 ≤ 160) (hs : q_shB M2) : q_XI Vt tm l sl M2 := by
  obtain ⟨T, hl, ⟨c1, c2, c3, c4, c5, c6, c7⟩, k1, k2, k3, k4⟩ := C
  have hT6 := T.2.1
  have hb := q_ta_b (t := l) (by omega)
  exact ⟨q_txs_c (fun a i ha => hf a i (by omega)) T, hl, ⟨c1, q_wl_eq (fun a i ha => hf a i (by omega)) c2, q_rg5_eq (fun a i _ h1 h2 => hf a i (by omega)) c3, q_z5_eq (fun a h1 h2 => hf a 5 (by omega)) c4, q_z5_eq (fun a h1 h2 => hf a 5 (by omega)) c5, by rw [hf 11 9 (by omega)]; exact c6, hs⟩, ⟨q_rgW_c (fun a i h1 h2 => hf a i (by omega)) k1.1, by rw [hf 65 9 (by omega)]; exact k1.2⟩, fun h => by rw [hf 0 6 (by omega)] at h; rw [hf 65 10 (by omega)]; exact k2 h, h1, k4⟩
/-- the kept world has changed -/
theorem q_XI_kp {Vt : Nat → Nat → (Nat → Int) → Int} {tm l sl : Nat} {M M2 : q_M} (C : q_XI Vt tm l sl M) (hf : ∀ a i, ((a < 65 ∧ (a = 0 → i ≠ 6)) ∨ (91 < a ∧ a < 100) ∨ 124 ≤ a) → M2 a i = M a i) (hr : q_rgW M2 65) (hy : M2 65 9 ≤ 999) (hk : ∃ kl, kl < tm ∧ M2 65 10 = q_ta kl) : q_XI Vt tm l sl M2 := by
  obtain ⟨T, hl, ⟨c1, c2, c3, c4, c5, c6, c7⟩, k1, k2, k3, k4⟩ := C
  have hT6 := T.2.1
  have hb := q_ta_b (t := l) (by omega)
  exact ⟨q_txs_c (fun a i ha => hf a i (by omega)) T, hl, ⟨c1, q_wl_eq (fun a i ha => hf a i (by omega)) c2, q_rg5_eq (fun a i _ h1 h2 => hf a i (by omega)) c3, q_z5_eq (fun a h1 h2 => hf a 5 (by omega)) c4, q_z5_eq (fun a h1 h2 => hf a 5 (by omega)) c5, by rw [hf 11 9 (by omega)]; exact c6, fun s hs => by rw [hf _ _ (by omega)]; exact c7 s hs⟩, ⟨hr, hy⟩, fun _ => hk, by rw [hf 1 1 (by omega)]; exact k3, k4⟩
end
section
/-! THE CLASS: each call keeps what stays -/
set_option maxHeartbeats 4000000 in
theorem cv_count {Vt : Nat → Nat → (Nat → Int) → Int} {d tm l sl : Nat} {g : q_G} {M : q_M} {wt : Int} {Q : Option q_V → q_G → q_M → Prop} (C : q_XI Vt tm l sl M) (hq : ∀ (v : Int) (l2 : Nat) (M2 : q_M), q_XI Vt tm l2 sl M2 → q_cfr M M2 → Q (some (qI v)) g M2) : q_S 1 (d + 50) 62 [qR 5 0, qI wt] g M Q := by
  have T := C.1
  have c := C.2.2.1
  have w := c.2.1
  have n5 := q_ci_n c
  have tas := c.1
  exact sp_count (d := d + 48) w (hq _ l M C q_cfr_rf)
theorem cv_dawn {Vt : Nat → Nat → (Nat → Int) → Int} {d tm l sl : Nat} {g : q_G} {M : q_M} {v0 : Int} {Q : Option q_V → q_G → q_M → Prop} (C : q_XI Vt tm l sl M) (hq1 : 0 ≤ v0 ∧ v0 ≤ 999 → q_XI Vt tm l sl (q_upd M 11 9 v0) → Q (some (qI (M 11 9))) g (q_upd M 11 9 v0)) (hq2 : ¬(0 ≤ v0 ∧ v0 ≤ 999) → Q (some (qI (-2))) g M) : q_S 1 (d + 50) 63 [qR 5 0, qI v0] g M Q := by
  have w := C.2.2.1.2.1
  by_cases c1 : 0 ≤ v0 ∧ v0 ≤ 999
  · exact sp_dawn c1.1 c1.2 (hq1 c1 (q_XI_w C (fun a i ha => q_upd_n (by omega)) (q_wl_up w (Or.inr (Or.inr (Or.inr ⟨rfl, rfl, c1.1, by omega⟩)))) rfl (by rw [q_upd_s]; exact c1.2) (fun a h1 h2 => q_upd_n (by omega))))
  · exact sp_dawnF (by omega) (hq2 c1)
theorem q_bdM_f {M : q_M} {b a i : Nat} {wt v : Int} (h1 : a ≠ 35) (h2 : a ≠ 30) (h3 : a ≠ 13) (h4 : a ≠ 31) (h5 : a ≠ 32) : q_bdM M b wt v a i = M a i := by
  unfold q_bdM
  split
  · rw [q_mvM_n (by omega), q_upd_n (by omega)]
  · split
    · exact q_upd_n (by omega)
    · split
      · exact q_upd_n (by omega)
      · exact q_upd_n (by omega)
set_option maxHeartbeats 4000000 in
theorem cv_build {Vt : Nat → Nat → (Nat → Int) → Int} {d tm l sl : Nat} {g : q_G} {M : q_M} {b wt v0 : Int} {Q : Option q_V → q_G → q_M → Prop} (C : q_XI Vt tm l sl M) (hq : ∀ (v : Int) (l2 : Nat) (M2 : q_M), q_XI Vt tm l2 sl M2 → q_cfr M M2 → Q (some (qI v)) g M2) : q_S 1 (d + 50) 64 [qR 5 0, qI b, qI wt, qI v0] g M Q := by
  have T := C.1
  have c := C.2.2.1
  have w := c.2.1
  have n5 := q_ci_n c
  have tas := c.1
  by_cases c1 : 0 ≤ b ∧ b < 5
  · obtain ⟨B, rfl⟩ : ∃ B : Nat, b = B := ⟨b.toNat, by omega⟩
    by_cases c2 : wt < 0 ∨ 3 < wt ∨ v0 < 0 ∨ 99 < v0 ∨ (wt = 1 ∧ (5 < v0 ∨ v0 < F_cnt (M (12 + 2)) B (M 12 5).toNat))
    · exact sp_buildG (d := d + 49) (by omega) n5.1 n5.2 c2 (hq _ l M C q_cfr_rf)
    · have hw : q_wl (Vt l) (q_bdM M B wt v0) 11 (q_ta l) := by
        unfold q_bdM
        split
        · exact q_wl_mvM w (by omega) (by omega)
        · split
          · exact q_wl_up2 w (Or.inr (Or.inl ⟨rfl, by omega, by omega⟩))
          · split
            · exact q_wl_up2 w (Or.inr (Or.inr (Or.inl ⟨rfl, by omega, by omega, by omega⟩)))
            · exact q_wl_up w (Or.inr (Or.inr (Or.inl ⟨rfl, by omega, by omega, by omega⟩)))
      exact sp_build (d := d + 48) (by omega) n5.1 n5.2 (by omega) (by omega) (fun z => by omega) (hq _ l _ (q_XI_w C (fun a i ha => q_bdM_f (by omega) (by omega) (by omega) (by omega) (by omega)) hw rfl (by rw [q_bdM_f (by omega) (by omega) (by omega) (by omega) (by omega)]; exact c.2.2.2.2.2.1) (fun a h1 h2 => q_bdM_f (by omega) (by omega) (by omega) (by omega) (by omega))) (fun a i ha => q_bdM_f (by omega) (by omega) (by omega) (by omega) (by omega)))
  · exact sp_buildF (d := d + 49) c1 (hq _ l M C q_cfr_rf)
set_option maxHeartbeats 4000000 in
theorem cv_site {Vt : Nat → Nat → (Nat → Int) → Int} {d tm l sl : Nat} {g : q_G} {M : q_M} {b wt : Int} {Q : Option q_V → q_G → q_M → Prop} (C : q_XI Vt tm l sl M) (hq : ∀ (v : Int) (l2 : Nat) (M2 : q_M), q_XI Vt tm l2 sl M2 → q_cfr M M2 → Q (some (qI v)) g M2) : q_S 1 (d + 50) 65 [qR 5 0, qI b, qI wt] g M Q := by
  have T := C.1
  have c := C.2.2.1
  have w := c.2.1
  have n5 := q_ci_n c
  have tas := c.1
  by_cases c1 : 0 ≤ b ∧ b < 5
  · obtain ⟨B, rfl⟩ : ∃ B : Nat, b = B := ⟨b.toNat, by omega⟩
    rw [sp_site (d := d + 49) (by omega) n5.1 n5.2]
    exact hq _ l M C q_cfr_rf
  · exact sp_siteF (d := d + 49) c1 (hq _ l M C q_cfr_rf)
theorem q_tkM_f {M : q_M} {a i : Nat} {v : Int} (h1 : a ≠ 1) (h2 : a ≠ 2) : q_tkM M v a i = M a i := by
  unfold q_tkM
  rw [q_upd_n (by omega), q_upd_n (by omega)]
theorem q_fedM_f {M : q_M} {x i : Nat} {n a b c d e : Int} (h1 : x ≠ 1) (h2 : x ≠ 2) : q_fedM M n a b c d e x i = M x i := by
  unfold q_fedM
  split
  · rw [q_tkM_f h1 h2]
  · split
    · rw [q_tkM_f h1 h2, q_tkM_f h1 h2]
    · split
      · rw [q_tkM_f h1 h2, q_tkM_f h1 h2, q_tkM_f h1 h2]
      · split
        · rw [q_tkM_f h1 h2, q_tkM_f h1 h2, q_tkM_f h1 h2, q_tkM_f h1 h2]
        · rw [q_tkM_f h1 h2, q_tkM_f h1 h2, q_tkM_f h1 h2, q_tkM_f h1 h2, q_tkM_f h1 h2]
theorem q_fedM_1 {M : q_M} {n a b c d e : Int} (h : 1 ≤ n ∧ n ≤ 5) : q_fedM M n a b c d e 1 1 = M 1 1 + n := by
  unfold q_fedM
  split
  · rw [q_tkM_1]; omega
  · split
    · rw [q_tkM_1, q_tkM_1]; omega
    · split
      · rw [q_tkM_1, q_tkM_1, q_tkM_1]; omega
      · split
        · rw [q_tkM_1, q_tkM_1, q_tkM_1, q_tkM_1]; omega
        · rw [q_tkM_1, q_tkM_1, q_tkM_1, q_tkM_1, q_tkM_1]; omega
theorem q_tkM_T {M : q_M} {T : Nat → Int} {s k : Nat} {v : Nat → Int} {x : Int} (hx : x = v k) (h : M 2 = F_tp T s v k ∧ M 1 1 = ((s + k : Nat) : Int)) : q_tkM M x 2 = F_tp T s v (k + 1) ∧ q_tkM M x 1 1 = ((s + (k + 1) : Nat) : Int) := by
  refine ⟨?_, by rw [q_tkM_1, h.2]; omega⟩
  funext i
  unfold q_tkM
  rw [q_upd_n (by omega), h.2, Int.toNat_natCast, F_tp, ← h.1, ← hx]
  unfold F_u
  by_cases e : i = s + k
  · rw [if_pos e, e, q_upd_s]
  · rw [if_neg e, q_upd_n (by omega)]
theorem q_fedM_T {M : q_M} {n a b c d e : Int} (h : 1 ≤ n ∧ n ≤ 5) (h0 : 0 ≤ M 1 1) : q_fedM M n a b c d e 2 = F_tp (M 2) (M 1 1).toNat (F_vs a b c d e) n.toNat := by
  have z : M 2 = F_tp (M 2) (M 1 1).toNat (F_vs a b c d e) 0 ∧ M 1 1 = (((M 1 1).toNat + 0 : Nat) : Int) := ⟨rfl, by omega⟩
  have z1 := q_tkM_T (x := a) rfl z
  have z2 := q_tkM_T (x := b) rfl z1
  have z3 := q_tkM_T (x := c) rfl z2
  have z4 := q_tkM_T (x := d) rfl z3
  have z5 := q_tkM_T (x := e) rfl z4
  unfold q_fedM
  rcases (show n = 1 ∨ n = 2 ∨ n = 3 ∨ n = 4 ∨ n = 5 by omega) with e | e | e | e | e
  · rw [if_pos e, e]; exact z1.1
  · rw [if_neg (by omega), if_pos e, e]; exact z2.1
  · rw [if_neg (by omega), if_neg (by omega), if_pos e, e]; exact z3.1
  · rw [if_neg (by omega), if_neg (by omega), if_neg (by omega), if_pos e, e]; exact z4.1
  · rw [if_neg (by omega), if_neg (by omega), if_neg (by omega), if_neg (by omega), e]; exact z5.1
theorem cv_feed {Vt : Nat → Nat → (Nat → Int) → Int} {d tm l sl : Nat} {g : q_G} {M : q_M} {n a0 a1 a2 a3 a4 : Int} {Q : Option q_V → q_G → q_M → Prop} (C : q_XI Vt tm l sl M) (hqB : ¬F_fedB n a0 a1 a2 a3 a4 → Q (some (qI (-2))) g M) (hqF : F_fedB n a0 a1 a2 a3 a4 → 160 < M 1 1 + n → Q (some (qI (-4))) g M) (hq : ∀ M2 : q_M, F_fedB n a0 a1 a2 a3 a4 → M 1 1 + n ≤ 160 → q_XI Vt tm l sl M2 → (∀ x i, x ≠ 1 → x ≠ 2 → M2 x i = M x i) → M2 1 1 = M 1 1 + n → M2 2 = F_tp (M 2) (M 1 1).toNat (F_vs a0 a1 a2 a3 a4) n.toNat → Q (some (qI (M 1 1 + n))) g M2) : q_S 1 (d + 50) 66 [qR 5 0, qI n, qI a0, qI a1, qI a2, qI a3, qI a4] g M Q := by
  have c := C.2.2.1
  have k := C.2.2.2.2.2.1
  by_cases h : F_fedB n a0 a1 a2 a3 a4
  · refine sp_feed (dd := d + 49) k.1 k.2 h ?_
    split
    · exact hqF h (by omega)
    · exact hq _ h (by omega) (q_XI_sh C (fun a i ha => q_fedM_f (by omega) (by omega)) (by rw [q_fedM_1 h.1]; have := h.1; omega) (fun s hs => by rw [q_fedM_f (by omega) (by omega)]; exact c.2.2.2.2.2.2 s hs)) (fun x i h1 h2 => q_fedM_f h1 h2) (q_fedM_1 h.1) (q_fedM_T h.1 k.1)
  · exact sp_feedF (dd := d + 49) h (hqB h)
theorem cv_force {Vt : Nat → Nat → (Nat → Int) → Int} {d tm l sl : Nat} {g : q_G} {M : q_M} {t : Int} {Q : Option q_V → q_G → q_M → Prop} (C : q_XI Vt tm l sl M) (hq1 : ∀ n : Nat, t = n → n < tm → q_XI Vt tm n sl (q_upd M 11 10 (q_ta n : Nat)) → Q (some (qI l)) g (q_upd M 11 10 (q_ta n : Nat))) (hq2 : ¬(0 ≤ t ∧ t < tm) → Q (some (qI (-2))) g M) : q_S 1 (d + 50) 68 [qR 5 0, qI t] g M Q := by
  have T := C.1
  have c := C.2.2.1
  have w := c.2.1
  by_cases c1 : 0 ≤ t ∧ t < tm
  · obtain ⟨n, rfl⟩ : ∃ n : Nat, t = n := ⟨t.toNat, by omega⟩
    have hr : q_rgW (q_upd M 11 10 (q_ta n : Nat)) 11 := by
      have hr := w.1
      unfold q_rgW at hr ⊢
      simp (disch := omega) only [q_upd_n]
      exact hr
    exact sp_force T (by omega) C.2.1 w.2.2.2.1 (hq1 n rfl (by omega) (q_XI_now C (by omega) (fun a i ha => q_upd_n (by omega)) hr (by rw [q_upd_n (by omega)]; exact c.2.2.2.2.2.1) q_upd_s (q_z5_eq (fun a h1 h2 => q_upd_n (by omega)) c.2.2.2.1)))
  · exact sp_forceF T.2.2.1 c1 (hq2 c1)
set_option maxHeartbeats 4000000 in
theorem cv_asks {Vt : Nat → Nat → (Nat → Int) → Int} {d tm l sl : Nat} {g : q_G} {M : q_M} {part p b : Int} {Q : Option q_V → q_G → q_M → Prop} (C : q_XI Vt tm l sl M) (hq : ∀ (v : Int) (l2 : Nat) (M2 : q_M), q_XI Vt tm l2 sl M2 → q_cfr M M2 → Q (some (qI v)) g M2) : q_S 1 (d + 50) 69 [qR 5 0, qI part, qI p, qI b] g M Q := by
  have T := C.1
  have c := C.2.2.1
  have w := c.2.1
  have n5 := q_ci_n c
  have tas := c.1
  by_cases c1 : 0 ≤ part ∧ part < 3
  · by_cases c2 : 0 ≤ p ∧ p < M 12 5
    · by_cases c3 : b = -1 ∨ (0 ≤ b ∧ b < 5)
      · obtain ⟨PT, rfl⟩ : ∃ n : Nat, part = n := ⟨part.toNat, by omega⟩
        obtain ⟨P, rfl⟩ : ∃ n : Nat, p = n := ⟨p.toNat, by omega⟩
        exact sp_asks (d := d + 48) w (by omega) (show P < (M 12 5).toNat by omega) c3 (fun M2 h => hq _ l M2 (q_XI_tq C (q_tq_fwd tas h)) (q_cfr_tq (q_tq_fwd tas h)))
      · have c4 : ¬(0 ≤ b ∧ b < 5) := by omega
        rw [s_X5_asks]
        simp (disch := omega) only [b_X5_asks_0, x_loadI_1, y_if_lt_t, y_if_lt_f, b_X5_asks_4, x_iconst, y_ic_ge_t, y_ic_ge_f, b_X5_asks_9, x_loadR_0, x_loadS_0, x_loadI_2, y_if_eq_t, y_if_eq_f, b_X5_asks_17, x_loadI_3, y_ic_eq_t, y_ic_eq_f, b_X5_asks_22, y_if_ne_t, y_if_ne_f, b_X5_asks_29, x_ret0, b_X5_asks_33, f_5_3, y_ic_ne_t, y_ic_ne_f, b_X5_asks_44, x_goto, b_X5_asks_48, b_X5_asks_49, q_isL_I, q_isL_R, q_isL_S, true_and, and_true, and_self, List.length_nil, List.length_cons, Nat.zero_add, x_K, x_Kn, Int.reduceToNat, Nat.reduceAdd, Nat.reduceMul, Nat.reduceLeDiff, Nat.reduceLT, Nat.zero_le, Int.reduceAdd, Int.reduceSub, Int.reduceMul, Int.reduceNeg, q_add_e, q_sub_e, q_mul_e, q_neg_e, q_upd_s, q_upd_n, zr_shr0, zr_shr1, zr_shr2, zr_shr3, zr_shr4, zr_and, zr_dyn8, zr_or, zr_shl, q_cpy_n, y_cpy26, c_X5_isStone, sp_isStone, c_X5_isBuilding, sp_isBuilding, c2, and_self, if_true, c4, if_false]
        exact hq _ l M C q_cfr_rf
    · rw [s_X5_asks]
      simp (disch := omega) only [b_X5_asks_0, x_loadI_1, y_if_lt_t, y_if_lt_f, b_X5_asks_4, x_iconst, y_ic_ge_t, y_ic_ge_f, b_X5_asks_9, x_loadR_0, x_loadS_0, x_loadI_2, y_if_eq_t, y_if_eq_f, b_X5_asks_17, x_loadI_3, y_ic_eq_t, y_ic_eq_f, b_X5_asks_22, y_if_ne_t, y_if_ne_f, b_X5_asks_29, x_ret0, b_X5_asks_33, f_5_3, y_ic_ne_t, y_ic_ne_f, b_X5_asks_44, x_goto, b_X5_asks_48, b_X5_asks_49, q_isL_I, q_isL_R, q_isL_S, true_and, and_true, and_self, List.length_nil, List.length_cons, Nat.zero_add, x_K, x_Kn, Int.reduceToNat, Nat.reduceAdd, Nat.reduceMul, Nat.reduceLeDiff, Nat.reduceLT, Nat.zero_le, Int.reduceAdd, Int.reduceSub, Int.reduceMul, Int.reduceNeg, q_add_e, q_sub_e, q_mul_e, q_neg_e, q_upd_s, q_upd_n, zr_shr0, zr_shr1, zr_shr2, zr_shr3, zr_shr4, zr_and, zr_dyn8, zr_or, zr_shl, q_cpy_n, y_cpy26, c_X5_isStone, sp_isStone, c_X5_isBuilding, sp_isBuilding, c2, if_false]
      exact hq _ l M C q_cfr_rf
  · rw [s_X5_asks]
    by_cases c5 : part < 0
    · simp (disch := omega) only [b_X5_asks_0, x_loadI_1, y_if_lt_t, y_if_lt_f, b_X5_asks_4, x_iconst, y_ic_ge_t, y_ic_ge_f, b_X5_asks_9, x_loadR_0, x_loadS_0, x_loadI_2, y_if_eq_t, y_if_eq_f, b_X5_asks_17, x_loadI_3, y_ic_eq_t, y_ic_eq_f, b_X5_asks_22, y_if_ne_t, y_if_ne_f, b_X5_asks_29, x_ret0, b_X5_asks_33, f_5_3, y_ic_ne_t, y_ic_ne_f, b_X5_asks_44, x_goto, b_X5_asks_48, b_X5_asks_49, q_isL_I, q_isL_R, q_isL_S, true_and, and_true, and_self, List.length_nil, List.length_cons, Nat.zero_add, x_K, x_Kn, Int.reduceToNat, Nat.reduceAdd, Nat.reduceMul, Nat.reduceLeDiff, Nat.reduceLT, Nat.zero_le, Int.reduceAdd, Int.reduceSub, Int.reduceMul, Int.reduceNeg, q_add_e, q_sub_e, q_mul_e, q_neg_e, q_upd_s, q_upd_n, zr_shr0, zr_shr1, zr_shr2, zr_shr3, zr_shr4, zr_and, zr_dyn8, zr_or, zr_shl, q_cpy_n, y_cpy26, c_X5_isStone, sp_isStone, c_X5_isBuilding, sp_isBuilding]
      exact hq _ l M C q_cfr_rf
    · simp (disch := omega) only [b_X5_asks_0, x_loadI_1, y_if_lt_t, y_if_lt_f, b_X5_asks_4, x_iconst, y_ic_ge_t, y_ic_ge_f, b_X5_asks_9, x_loadR_0, x_loadS_0, x_loadI_2, y_if_eq_t, y_if_eq_f, b_X5_asks_17, x_loadI_3, y_ic_eq_t, y_ic_eq_f, b_X5_asks_22, y_if_ne_t, y_if_ne_f, b_X5_asks_29, x_ret0, b_X5_asks_33, f_5_3, y_ic_ne_t, y_ic_ne_f, b_X5_asks_44, x_goto, b_X5_asks_48, b_X5_asks_49, q_isL_I, q_isL_R, q_isL_S, true_and, and_true, and_self, List.length_nil, List.length_cons, Nat.zero_add, x_K, x_Kn, Int.reduceToNat, Nat.reduceAdd, Nat.reduceMul, Nat.reduceLeDiff, Nat.reduceLT, Nat.zero_le, Int.reduceAdd, Int.reduceSub, Int.reduceMul, Int.reduceNeg, q_add_e, q_sub_e, q_mul_e, q_neg_e, q_upd_s, q_upd_n, zr_shr0, zr_shr1, zr_shr2, zr_shr3, zr_shr4, zr_and, zr_dyn8, zr_or, zr_shl, q_cpy_n, y_cpy26, c_X5_isStone, sp_isStone, c_X5_isBuilding, sp_isBuilding]
      exact hq _ l M C q_cfr_rf
theorem q_adM_f {M : q_M} {a i : Nat} {km wh hv : Int} (h : a < 12 ∨ (14 < a ∧ a < 33) ∨ 36 < a) : q_adM M 11 km wh hv a i = M a i := by
  unfold q_adM
  rw [q_upd_n (by omega), q_upd_n (by omega), q_upd_n (by omega), q_upd_n (by omega), q_upd_n (by omega), q_upd_n (by omega)]
theorem q_XI_ad {Vt : Nat → Nat → (Nat → Int) → Int} {tm l sl : Nat} {M : q_M} {km wh hv : Int} (C : q_XI Vt tm l sl M) (h : 0 ≤ km ∧ km < 60 ∧ 0 ≤ wh ∧ wh < 100 ∧ 0 ≤ hv ∧ hv < 100) (h5 : M 12 5 ≠ 5) : q_XI Vt tm l sl (q_adM M 11 km wh hv) ∧ q_cfr M (q_adM M 11 km wh hv) := by
  have n5 := q_ci_n C.2.2.1
  exact ⟨q_XI_w C (fun a i ha => q_adM_f (by omega)) (q_wl_adM C.2.2.1.2.1 (show M 12 5 < 5 by omega) (by omega) (by omega) (by omega) (by omega) (by omega) (by omega)) rfl (by rw [q_adM_f (by omega)]; exact C.2.2.1.2.2.2.2.2.1) (fun a h1 h2 => q_adM_f (by omega)), fun a i ha => q_adM_f (by omega)⟩
set_option maxHeartbeats 4000000 in
theorem cv_stone {Vt : Nat → Nat → (Nat → Int) → Int} {d tm l sl : Nat} {g : q_G} {M : q_M} {km wh hv : Int} {Q : Option q_V → q_G → q_M → Prop} (C : q_XI Vt tm l sl M) (hq : ∀ (v : Int) (l2 : Nat) (M2 : q_M), q_XI Vt tm l2 sl M2 → q_cfr M M2 → Q (some (qI v)) g M2) : q_S 1 (d + 50) 70 [qR 5 0, qI km, qI wh, qI hv] g M Q := by
  have T := C.1
  have c := C.2.2.1
  have w := c.2.1
  have n5 := q_ci_n c
  have tas := c.1
  by_cases h : 0 ≤ km ∧ km < 60 ∧ 0 ≤ wh ∧ wh < 100 ∧ 0 ≤ hv ∧ hv < 100
  · refine sp_stone (d := d + 49) h n5.1 n5.2 ?_
    split
    · exact hq _ l M C q_cfr_rf
    · next h5 =>
      have hx := q_XI_ad C h h5
      exact hq _ l _ hx.1 hx.2
  · exact sp_stoneF (by omega) (hq _ l M C q_cfr_rf)
set_option maxHeartbeats 4000000 in
theorem cv_put {Vt : Nat → Nat → (Nat → Int) → Int} {d tm l sl : Nat} {g : q_G} {M : q_M} {p wt v0 : Int} {Q : Option q_V → q_G → q_M → Prop} (C : q_XI Vt tm l sl M) (hq : ∀ (v : Int) (l2 : Nat) (M2 : q_M), q_XI Vt tm l2 sl M2 → q_cfr M M2 → Q (some (qI v)) g M2) : q_S 1 (d + 50) 71 [qR 5 0, qI p, qI wt, qI v0] g M Q := by
  have T := C.1
  have c := C.2.2.1
  have w := c.2.1
  have n5 := q_ci_n c
  have tas := c.1
  by_cases c1 : 0 ≤ p ∧ p < M 12 5
  · by_cases c2 : wt < 0 ∨ 1 < wt ∨ v0 < 0 ∨ 99 < v0
    · exact sp_putG (d := d + 49) c1 c2 (hq _ l M C q_cfr_rf)
    · obtain ⟨P, rfl⟩ : ∃ n : Nat, p = n := ⟨p.toNat, by omega⟩
      have hp : P < (M 12 5).toNat := by omega
      rcases (show wt = 0 ∨ wt = 1 by omega) with e | e
      · subst e
        exact sp_put0 (d := d + 49) hp n5.2 (by omega) (hq _ l _ (q_XI_w C (fun a i ha => by rw [q_upd_n (by omega), q_upd_n (by omega)]) (q_wl_up (q_wl_up w (Or.inl ⟨rfl, by omega, by omega⟩)) (Or.inr (Or.inl ⟨rfl, by omega, by omega⟩))) rfl (by rw [q_upd_n (by omega), q_upd_n (by omega)]; exact c.2.2.2.2.2.1) (fun a h1 h2 => by rw [q_upd_n (by omega), q_upd_n (by omega)])) (fun a i ha => by rw [q_upd_n (by omega), q_upd_n (by omega)]))
      · subst e
        exact sp_put1 (d := d + 49) hp n5.2 (by omega) (hq _ l _ (q_XI_w C (fun a i ha => by rw [q_upd_n (by omega)]) (q_wl_up2 w (Or.inl ⟨rfl, by omega, by omega⟩)) rfl (by rw [q_upd_n (by omega)]; exact c.2.2.2.2.2.1) (fun a h1 h2 => by rw [q_upd_n (by omega)])) (fun a i ha => by rw [q_upd_n (by omega)]))
  · exact sp_putF (d := d + 49) c1 (hq _ l M C q_cfr_rf)
set_option maxHeartbeats 4000000 in
theorem cv_told {Vt : Nat → Nat → (Nat → Int) → Int} {d tm l sl : Nat} {g : q_G} {M : q_M} {p wt : Int} {Q : Option q_V → q_G → q_M → Prop} (C : q_XI Vt tm l sl M) (hq : ∀ (v : Int) (l2 : Nat) (M2 : q_M), q_XI Vt tm l2 sl M2 → q_cfr M M2 → Q (some (qI v)) g M2) : q_S 1 (d + 50) 72 [qR 5 0, qI p, qI wt] g M Q := by
  have T := C.1
  have c := C.2.2.1
  have w := c.2.1
  have n5 := q_ci_n c
  have tas := c.1
  by_cases c1 : 0 ≤ p ∧ p < M 12 5
  · obtain ⟨P, rfl⟩ : ∃ n : Nat, p = n := ⟨p.toNat, by omega⟩
    exact sp_told (d := d + 46) w (show P < (M 12 5).toNat by omega) (c.2.2.2.1.1 P (by omega)) (fun M2 h => hq _ l M2 (q_XI_tq C (q_tq_tel tas h)) (q_cfr_tq (q_tq_tel tas h)))
  · exact sp_toldF (d := d + 49) c1 (hq _ l M C q_cfr_rf)
set_option maxHeartbeats 4000000 in
theorem cv_love {Vt : Nat → Nat → (Nat → Int) → Int} {d tm l sl : Nat} {g : q_G} {M : q_M} {p b wt : Int} {Q : Option q_V → q_G → q_M → Prop} (C : q_XI Vt tm l sl M) (hq : ∀ (v : Int) (l2 : Nat) (M2 : q_M), q_XI Vt tm l2 sl M2 → q_cfr M M2 → Q (some (qI v)) g M2) : q_S 1 (d + 50) 73 [qR 5 0, qI p, qI b, qI wt] g M Q := by
  have T := C.1
  have c := C.2.2.1
  have w := c.2.1
  have n5 := q_ci_n c
  have tas := c.1
  by_cases c2 : 0 ≤ p ∧ p < M 12 5
  · by_cases c3 : 0 ≤ b ∧ b < 5
    · obtain ⟨P, rfl⟩ : ∃ n : Nat, p = n := ⟨p.toNat, by omega⟩
      obtain ⟨B, rfl⟩ : ∃ n : Nat, b = n := ⟨b.toNat, by omega⟩
      exact sp_love (d := d + 47) w (show P < (M 12 5).toNat by omega) (by omega) (fun M2 h => hq _ l M2 (q_XI_tq C (q_tq_fwd tas h)) (q_cfr_tq (q_tq_fwd tas h)))
    · rw [s_X5_love]
      simp (disch := omega) only [b_X5_love_0, x_loadR_0, x_loadS_0, x_loadI_1, y_if_eq_t, y_if_eq_f, b_X5_love_8, x_loadI_2, y_if_ne_t, y_if_ne_f, b_X5_love_15, x_iconst, x_ret0, b_X5_love_19, x_loadI_3, tw_5_0, tw_5_1, tw_5_o, b_X5_love_48, f_5_3, b_X5_love_58, b_X5_love_68, q_isL_I, q_isL_R, q_isL_S, true_and, and_true, and_self, List.length_nil, List.length_cons, Nat.zero_add, x_K, x_Kn, Int.reduceToNat, Nat.reduceAdd, Nat.reduceMul, Nat.reduceLeDiff, Nat.reduceLT, Nat.zero_le, Int.reduceAdd, Int.reduceSub, Int.reduceMul, Int.reduceNeg, q_add_e, q_sub_e, q_mul_e, q_neg_e, q_upd_s, q_upd_n, zr_shr0, zr_shr1, zr_shr2, zr_shr3, zr_shr4, zr_and, zr_dyn8, zr_or, zr_shl, q_cpy_n, y_cpy26, c_X5_isStone, sp_isStone, c_X5_isBuilding, sp_isBuilding, c2, and_self, if_true, c3, if_false]
      exact hq _ l M C q_cfr_rf
  · rw [s_X5_love]
    simp (disch := omega) only [b_X5_love_0, x_loadR_0, x_loadS_0, x_loadI_1, y_if_eq_t, y_if_eq_f, b_X5_love_8, x_loadI_2, y_if_ne_t, y_if_ne_f, b_X5_love_15, x_iconst, x_ret0, b_X5_love_19, x_loadI_3, tw_5_0, tw_5_1, tw_5_o, b_X5_love_48, f_5_3, b_X5_love_58, b_X5_love_68, q_isL_I, q_isL_R, q_isL_S, true_and, and_true, and_self, List.length_nil, List.length_cons, Nat.zero_add, x_K, x_Kn, Int.reduceToNat, Nat.reduceAdd, Nat.reduceMul, Nat.reduceLeDiff, Nat.reduceLT, Nat.zero_le, Int.reduceAdd, Int.reduceSub, Int.reduceMul, Int.reduceNeg, q_add_e, q_sub_e, q_mul_e, q_neg_e, q_upd_s, q_upd_n, zr_shr0, zr_shr1, zr_shr2, zr_shr3, zr_shr4, zr_and, zr_dyn8, zr_or, zr_shl, q_cpy_n, y_cpy26, c_X5_isStone, sp_isStone, c_X5_isBuilding, sp_isBuilding, c2, if_false]
    exact hq _ l M C q_cfr_rf
set_option maxHeartbeats 4000000 in
theorem cv_year {Vt : Nat → Nat → (Nat → Int) → Int} {d tm l sl : Nat} {g : q_G} {M : q_M} {Q : Option q_V → q_G → q_M → Prop} (C : q_XI Vt tm l sl M) (hq : ∀ (v : Int) (l2 : Nat) (M2 : q_M), q_XI Vt tm l2 sl M2 → q_cfw M M2 → M2 11 9 = (if M 11 9 < 999 then M 11 9 + 1 else M 11 9) → M2 65 9 = M 65 9 → M2 0 6 = M 0 6 → q_cft M M2 → Q (some (qI v)) g M2) : q_S 1 (d + 50) 74 [qR 5 0] g M Q := by
  have T := C.1
  have c := C.2.2.1
  have w := c.2.1
  have n5 := q_ci_n c
  have tas := c.1
  have y9 := c.2.2.2.2.2.1
  by_cases h : M 11 9 < 999
  · refine sp_year (d := d + 45) w c.2.2.2.1.1 h (fun M2 h1 h2 h3 => ?_)
    have hta := q_ta_b (t := l) (by have := T.2.1; have := C.2.1; omega)
    have hy := F_year_y h2
    have hs : ∀ a i, (a ≠ 11 ∨ i ≠ 9) → a ≠ 37 → a ≠ q_ta l + 2 → (i < 5 → a ≠ 14 ∧ a ≠ 32 ∧ a ≠ 35 ∧ (a < 16 ∨ (21 ≤ a ∧ a < 23) ∨ 28 ≤ a)) → M2 a i = M a i := h3
    exact hq _ l M2 (q_XI_w C (fun a i ha => hs a i (by omega) (by omega) (by omega) (fun _ => by omega)) h1 rfl (by omega) (fun a q1 q2 => hs a 5 (by omega) (by omega) (by omega) (fun z => by omega))) (fun a i ha => hs a i (by omega) (by omega) (by omega) (fun _ => by omega)) (by rw [if_pos h]; exact hy) (hs 65 9 (by omega) (by omega) (by omega) (fun _ => by omega)) (hs 0 6 (by omega) (by omega) (by omega) (fun _ => by omega)) (fun a i ha => hs a i (by omega) (by omega) (by omega) (fun _ => by omega))
  · rw [s_X5_year]
    simp (disch := omega) only [b_X5_year_0, x_loadR_0, x_loadS_0, f_5_3, f_4_9, x_iconst, y_ic_lt_t, y_ic_lt_f, b_X5_year_13, x_ret0, b_X5_year_16, q_isL_I, q_isL_R, q_isL_S, true_and, and_true, and_self, List.length_nil, List.length_cons, Nat.zero_add, x_K, x_Kn, Int.reduceToNat, Nat.reduceAdd, Nat.reduceMul, Nat.reduceLeDiff, Nat.reduceLT, Nat.zero_le, Int.reduceAdd, Int.reduceSub, Int.reduceMul, Int.reduceNeg, q_add_e, q_sub_e, q_mul_e, q_neg_e, q_upd_s, q_upd_n, zr_shr0, zr_shr1, zr_shr2, zr_shr3, zr_shr4, zr_and, zr_dyn8, zr_or, zr_shl, q_cpy_n, y_cpy26]
    exact hq _ l M C (fun _ _ _ => rfl) (by rw [if_neg h]) rfl rfl (fun _ _ _ => rfl)
set_option maxHeartbeats 4000000 in
theorem cv_run {Vt : Nat → Nat → (Nat → Int) → Int} {d tm l sl : Nat} {g : q_G} {M : q_M} {n wt : Int} {Q : Option q_V → q_G → q_M → Prop} (C : q_XI Vt tm l sl M) (hq : ∀ (v : Int) (l2 : Nat) (M2 : q_M), q_XI Vt tm l2 sl M2 → q_cfr M M2 → Q (some (qI v)) g M2) (hwt : -2147483648 ≤ wt ∧ wt ≤ 2147483647) : q_S 1 (d + 50) 75 [qR 5 0, qI n, qI wt] g M Q := by
  have T := C.1
  have c := C.2.2.1
  have w := c.2.1
  have n5 := q_ci_n c
  have tas := c.1
  by_cases c1 : 0 ≤ n ∧ n ≤ 40
  · by_cases c2 : wt = 0 ∨ wt = 1 ∨ (0 ≤ wt - 10 ∧ wt - 10 < M 12 5)
    · obtain ⟨N, rfl⟩ : ∃ k : Nat, n = k := ⟨n.toNat, by omega⟩
      exact sp_run (d := d + 45) (q_ci_t c) w c.2.2.1 c.2.2.2.2.1.1 c.2.2.2.2.2.1 (by omega) c2 (fun M2 h h2 h3 => hq _ l M2 (q_XI_tq C (q_tq_th tas h)) (q_cfr_tq (q_tq_th tas h)))
    · by_cases c3 : -2147483638 ≤ wt
      · have c4 : ¬(0 ≤ wt - 10 ∧ wt - 10 < M 12 5) := by omega
        rw [s_X5_run]
        simp (disch := omega) only [b_X5_run_0, x_loadI_1, y_if_lt_t, y_if_lt_f, b_X5_run_4, x_iconst, y_ic_le_t, y_ic_le_f, b_X5_run_10, x_ret0, b_X5_run_13, x_loadI_2, y_if_eq_t, y_if_eq_f, b_X5_run_17, y_ic_ne_t, y_ic_ne_f, b_X5_run_22, x_goto, b_X5_run_26, b_X5_run_27, x_storeI_3, x_loadI_3, y_if_ne_t, y_if_ne_f, b_X5_run_32, x_loadR_0, x_loadS_0, x_isub, b_X5_run_43, b_X5_run_46, f_5_4, f_5_3, x_storeI_4, b_X5_run_60, x_loadI_4, y_ic_ge_t, y_ic_ge_f, b_X5_run_66, x_popI, x_popR, x_iinc_4, b_X5_run_80, b_X5_run_84, b_X5_run_88, f_4_0, b_X5_run_101, b_X5_run_111, b_X5_run_112, f_4_6, y_iald_26, q_isL_I, q_isL_R, q_isL_S, true_and, and_true, and_self, List.length_nil, List.length_cons, Nat.zero_add, x_K, x_Kn, Int.reduceToNat, Nat.reduceAdd, Nat.reduceMul, Nat.reduceLeDiff, Nat.reduceLT, Nat.zero_le, Int.reduceAdd, Int.reduceSub, Int.reduceMul, Int.reduceNeg, q_add_e, q_sub_e, q_mul_e, q_neg_e, q_upd_s, q_upd_n, zr_shr0, zr_shr1, zr_shr2, zr_shr3, zr_shr4, zr_and, zr_dyn8, zr_or, zr_shl, q_cpy_n, y_cpy26, c_X5_isStone, sp_isStone, c4, if_false]
        exact hq _ l M C q_cfr_rf
      · have e : q_sub wt 10 = wt - 10 + 4294967296 := by
          rw [q_sub_b, Int.bmod_def]
          split <;> omega
        have c4 : ¬(0 ≤ wt - 10 + 4294967296 ∧ wt - 10 + 4294967296 < M 12 5) := by omega
        rw [s_X5_run]
        simp (disch := omega) only [b_X5_run_0, x_loadI_1, y_if_lt_t, y_if_lt_f, b_X5_run_4, x_iconst, y_ic_le_t, y_ic_le_f, b_X5_run_10, x_ret0, b_X5_run_13, x_loadI_2, y_if_eq_t, y_if_eq_f, b_X5_run_17, y_ic_ne_t, y_ic_ne_f, b_X5_run_22, x_goto, b_X5_run_26, b_X5_run_27, x_storeI_3, x_loadI_3, y_if_ne_t, y_if_ne_f, b_X5_run_32, x_loadR_0, x_loadS_0, x_isub, b_X5_run_43, b_X5_run_46, f_5_4, f_5_3, x_storeI_4, b_X5_run_60, x_loadI_4, y_ic_ge_t, y_ic_ge_f, b_X5_run_66, x_popI, x_popR, x_iinc_4, b_X5_run_80, b_X5_run_84, b_X5_run_88, f_4_0, b_X5_run_101, b_X5_run_111, b_X5_run_112, f_4_6, y_iald_26, q_isL_I, q_isL_R, q_isL_S, true_and, and_true, and_self, List.length_nil, List.length_cons, Nat.zero_add, x_K, x_Kn, Int.reduceToNat, Nat.reduceAdd, Nat.reduceMul, Nat.reduceLeDiff, Nat.reduceLT, Nat.zero_le, Int.reduceAdd, Int.reduceSub, Int.reduceMul, Int.reduceNeg, q_add_e, q_sub_e, q_mul_e, q_neg_e, q_upd_s, q_upd_n, zr_shr0, zr_shr1, zr_shr2, zr_shr3, zr_shr4, zr_and, zr_dyn8, zr_or, zr_shl, q_cpy_n, y_cpy26, c_X5_isStone, sp_isStone, e, c4, if_false]
        exact hq _ l M C q_cfr_rf
  · rw [s_X5_run]
    by_cases c5 : n < 0
    · simp (disch := omega) only [b_X5_run_0, x_loadI_1, y_if_lt_t, y_if_lt_f, b_X5_run_4, x_iconst, y_ic_le_t, y_ic_le_f, b_X5_run_10, x_ret0, b_X5_run_13, x_loadI_2, y_if_eq_t, y_if_eq_f, b_X5_run_17, y_ic_ne_t, y_ic_ne_f, b_X5_run_22, x_goto, b_X5_run_26, b_X5_run_27, x_storeI_3, x_loadI_3, y_if_ne_t, y_if_ne_f, b_X5_run_32, x_loadR_0, x_loadS_0, x_isub, b_X5_run_43, b_X5_run_46, f_5_4, f_5_3, x_storeI_4, b_X5_run_60, x_loadI_4, y_ic_ge_t, y_ic_ge_f, b_X5_run_66, x_popI, x_popR, x_iinc_4, b_X5_run_80, b_X5_run_84, b_X5_run_88, f_4_0, b_X5_run_101, b_X5_run_111, b_X5_run_112, f_4_6, y_iald_26, q_isL_I, q_isL_R, q_isL_S, true_and, and_true, and_self, List.length_nil, List.length_cons, Nat.zero_add, x_K, x_Kn, Int.reduceToNat, Nat.reduceAdd, Nat.reduceMul, Nat.reduceLeDiff, Nat.reduceLT, Nat.zero_le, Int.reduceAdd, Int.reduceSub, Int.reduceMul, Int.reduceNeg, q_add_e, q_sub_e, q_mul_e, q_neg_e, q_upd_s, q_upd_n, zr_shr0, zr_shr1, zr_shr2, zr_shr3, zr_shr4, zr_and, zr_dyn8, zr_or, zr_shl, q_cpy_n, y_cpy26, c_X5_isStone, sp_isStone]
      exact hq _ l M C q_cfr_rf
    · simp (disch := omega) only [b_X5_run_0, x_loadI_1, y_if_lt_t, y_if_lt_f, b_X5_run_4, x_iconst, y_ic_le_t, y_ic_le_f, b_X5_run_10, x_ret0, b_X5_run_13, x_loadI_2, y_if_eq_t, y_if_eq_f, b_X5_run_17, y_ic_ne_t, y_ic_ne_f, b_X5_run_22, x_goto, b_X5_run_26, b_X5_run_27, x_storeI_3, x_loadI_3, y_if_ne_t, y_if_ne_f, b_X5_run_32, x_loadR_0, x_loadS_0, x_isub, b_X5_run_43, b_X5_run_46, f_5_4, f_5_3, x_storeI_4, b_X5_run_60, x_loadI_4, y_ic_ge_t, y_ic_ge_f, b_X5_run_66, x_popI, x_popR, x_iinc_4, b_X5_run_80, b_X5_run_84, b_X5_run_88, f_4_0, b_X5_run_101, b_X5_run_111, b_X5_run_112, f_4_6, y_iald_26, q_isL_I, q_isL_R, q_isL_S, true_and, and_true, and_self, List.length_nil, List.length_cons, Nat.zero_add, x_K, x_Kn, Int.reduceToNat, Nat.reduceAdd, Nat.reduceMul, Nat.reduceLeDiff, Nat.reduceLT, Nat.zero_le, Int.reduceAdd, Int.reduceSub, Int.reduceMul, Int.reduceNeg, q_add_e, q_sub_e, q_mul_e, q_neg_e, q_upd_s, q_upd_n, zr_shr0, zr_shr1, zr_shr2, zr_shr3, zr_shr4, zr_and, zr_dyn8, zr_or, zr_shl, q_cpy_n, y_cpy26, c_X5_isStone, sp_isStone]
      exact hq _ l M C q_cfr_rf
set_option maxHeartbeats 4000000 in
theorem cv_when {Vt : Nat → Nat → (Nat → Int) → Int} {d tm l sl : Nat} {g : q_G} {M : q_M} {p wt : Int} {Q : Option q_V → q_G → q_M → Prop} (C : q_XI Vt tm l sl M) (hq : ∀ (v : Int) (l2 : Nat) (M2 : q_M), q_XI Vt tm l2 sl M2 → q_cfr M M2 → Q (some (qI v)) g M2) : q_S 1 (d + 50) 76 [qR 5 0, qI p, qI wt] g M Q := by
  have T := C.1
  have c := C.2.2.1
  have w := c.2.1
  have n5 := q_ci_n c
  have tas := c.1
  by_cases c1 : 0 ≤ p ∧ p < M 12 5
  · by_cases c2 : wt = -1 ∨ (0 ≤ wt ∧ wt < 5)
    · obtain ⟨P, rfl⟩ : ∃ k : Nat, p = k := ⟨p.toNat, by omega⟩
      exact sp_when (d := d + 44) (q_ci_t c) w c.2.2.1 c.2.2.2.2.1.1 c.2.2.2.2.2.1 (by omega) c2 (fun M2 h => hq _ l M2 (q_XI_tq C (q_tq_th tas h)) (q_cfr_tq (q_tq_th tas h)))
    · exact sp_whenG (d := d + 49) c1 (by omega) (by omega) (hq _ l M C q_cfr_rf)
  · exact sp_whenF (d := d + 49) c1 (hq _ l M C q_cfr_rf)
set_option maxHeartbeats 4000000 in
theorem cv_peace {Vt : Nat → Nat → (Nat → Int) → Int} {d tm l sl : Nat} {g : q_G} {M : q_M} {wt : Int} {Q : Option q_V → q_G → q_M → Prop} (C : q_XI Vt tm l sl M) (hq : ∀ (v : Int) (l2 : Nat) (M2 : q_M), q_XI Vt tm l2 sl M2 → q_cfr M M2 → Q (some (qI v)) g M2) : q_S 1 (d + 50) 77 [qR 5 0, qI wt] g M Q := by
  have T := C.1
  have c := C.2.2.1
  have w := c.2.1
  have n5 := q_ci_n c
  have tas := c.1
  by_cases c1 : 0 ≤ wt ∧ wt ≤ 2
  · exact sp_peace (d := d + 46) w c.2.2.2.1.1 c.2.2.2.1.2 c1 (fun M2 h _ => hq _ l M2 (q_XI_tq C (q_tq_tel tas h)) (q_cfr_tq (q_tq_tel tas h)))
  · exact sp_peaceF (by omega) (hq _ l M C q_cfr_rf)
set_option maxHeartbeats 4000000 in
theorem cv_court {Vt : Nat → Nat → (Nat → Int) → Int} {d tm l sl : Nat} {g : q_G} {M : q_M} {wt : Int} {Q : Option q_V → q_G → q_M → Prop} (C : q_XI Vt tm l sl M) (hq : ∀ (v : Int) (l2 : Nat) (M2 : q_M), q_XI Vt tm l2 sl M2 → q_cfr M M2 → Q (some (qI v)) g M2) : q_S 1 (d + 50) 78 [qR 5 0, qI wt] g M Q := by
  have T := C.1
  have c := C.2.2.1
  have w := c.2.1
  have n5 := q_ci_n c
  have tas := c.1
  by_cases c1 : 0 ≤ wt ∧ wt ≤ 2
  · refine sp_court (d := d + 45) (q_ci_t c) w c.2.2.1 c.2.2.2.2.1.1 c.2.2.2.2.1.2 c1 (fun M2 M3 h h2 h3 h4 => ?_)
    have hn : M2 39 5 = M 12 5 := by
      have := congrFun (congrFun h2 9) 0
      rw [cW_90, cW_90] at this
      exact this
    have hx : q_tq M M3 := by
      rw [h4]
      exact q_tq_cM (q_tq_th tas h) (q_hi_tr F_fr_hi (F_turn_hi (by omega) 1000 _))
    exact hq _ l M3 (q_XI_tq C hx) (q_cfr_tq hx)
  · exact sp_courtF (by omega) (hq _ l M C q_cfr_rf)
set_option maxHeartbeats 4000000 in
theorem cv_all {Vt : Nat → Nat → (Nat → Int) → Int} {d tm l sl : Nat} {g : q_G} {M : q_M} {wt : Int} {Q : Option q_V → q_G → q_M → Prop} (C : q_XI Vt tm l sl M) (hq : ∀ (v : Int) (l2 : Nat) (M2 : q_M), q_XI Vt tm l2 sl M2 → q_cfr M M2 → Q (some (qI v)) g M2) : q_S 1 (d + 50) 79 [qR 5 0, qI wt] g M Q := by
  have T := C.1
  have c := C.2.2.1
  have w := c.2.1
  have n5 := q_ci_n c
  have tas := c.1
  by_cases c1 : 0 ≤ wt ∧ wt ≤ 4
  · exact sp_all (d := d + 44) c c1 (fun M2 M3 _ h => hq _ l M3 (q_XI_tq C h) (q_cfr_tq h))
  · exact sp_allF (by omega) (hq _ l M C q_cfr_rf)
set_option maxHeartbeats 4000000 in
theorem cv_annex {Vt : Nat → Nat → (Nat → Int) → Int} {d tm l sl : Nat} {g : q_G} {M : q_M} {wt : Int} {Q : Option q_V → q_G → q_M → Prop} (C : q_XI Vt tm l sl M) (hq : ∀ (v : Int) (l2 : Nat) (M2 : q_M), q_XI Vt tm l2 sl M2 → q_cfr M M2 → Q (some (qI v)) g M2) : q_S 1 (d + 50) 80 [qR 5 0, qI wt] g M Q := by
  have T := C.1
  have c := C.2.2.1
  have w := c.2.1
  have n5 := q_ci_n c
  have tas := c.1
  by_cases c1 : 0 ≤ wt ∧ wt ≤ 1
  · exact sp_annex (d := d + 44) c c1 (fun M2 M3 _ h => hq _ l M3 (q_XI_tq C h) (q_cfr_tq h))
  · exact sp_annexF (by omega) (hq _ l M C q_cfr_rf)
set_option maxHeartbeats 4000000 in
theorem cv_cart {Vt : Nat → Nat → (Nat → Int) → Int} {d tm l sl : Nat} {g : q_G} {M : q_M} {p wt : Int} {Q : Option q_V → q_G → q_M → Prop} (C : q_XI Vt tm l sl M) (hq : ∀ (v : Int) (l2 : Nat) (M2 : q_M), q_XI Vt tm l2 sl M2 → q_cfr M M2 → Q (some (qI v)) g M2) : q_S 1 (d + 50) 81 [qR 5 0, qI p, qI wt] g M Q := by
  have T := C.1
  have c := C.2.2.1
  have w := c.2.1
  have n5 := q_ci_n c
  have tas := c.1
  exact sp_cart (d := d + 44) c (fun M2 h => hq _ l M2 (q_XI_tq C h) (q_cfr_tq h))
set_option maxHeartbeats 4000000 in
theorem cv_judge {Vt : Nat → Nat → (Nat → Int) → Int} {d tm l sl : Nat} {g : q_G} {M : q_M} {s p : Int} {Q : Option q_V → q_G → q_M → Prop} (C : q_XI Vt tm l sl M) (hq : ∀ (v : Int) (l2 : Nat) (M2 : q_M), q_XI Vt tm l2 sl M2 → q_cfr M M2 → Q (some (qI v)) g M2) : q_S 1 (d + 50) 83 [qR 5 0, qI s, qI p] g M Q := by
  have T := C.1
  have c := C.2.2.1
  have w := c.2.1
  have n5 := q_ci_n c
  have tas := c.1
  exact sp_judge (d := d + 44) c (fun M2 h => hq _ l M2 (q_XI_tq C h) (q_cfr_tq h))
set_option maxHeartbeats 4000000 in
theorem cv_kinds {Vt : Nat → Nat → (Nat → Int) → Int} {d tm l sl : Nat} {g : q_G} {M : q_M} {s p so : Int} {Q : Option q_V → q_G → q_M → Prop} (C : q_XI Vt tm l sl M) (hq : ∀ (v : Int) (l2 : Nat) (M2 : q_M), q_XI Vt tm l2 sl M2 → q_cfr M M2 → Q (some (qI v)) g M2) : q_S 1 (d + 50) 84 [qR 5 0, qI s, qI p, qI so] g M Q := by
  have T := C.1
  have c := C.2.2.1
  have w := c.2.1
  have n5 := q_ci_n c
  have tas := c.1
  exact sp_kinds (d := d + 44) c (fun M2 h => hq _ l M2 (q_XI_tq C h) (q_cfr_tq h))
set_option maxHeartbeats 4000000 in
theorem cv_states {Vt : Nat → Nat → (Nat → Int) → Int} {d tm l sl : Nat} {g : q_G} {M : q_M} {s p so wt : Int} {Q : Option q_V → q_G → q_M → Prop} (C : q_XI Vt tm l sl M) (hq : ∀ (v : Int) (l2 : Nat) (M2 : q_M), q_XI Vt tm l2 sl M2 → q_cfr M M2 → Q (some (qI v)) g M2) : q_S 1 (d + 50) 85 [qR 5 0, qI s, qI p, qI so, qI wt] g M Q := by
  have T := C.1
  have c := C.2.2.1
  have w := c.2.1
  have n5 := q_ci_n c
  have tas := c.1
  exact sp_states (d := d + 44) c (fun M2 h => hq _ l M2 (q_XI_tq C h) (q_cfr_tq h))
set_option maxHeartbeats 4000000 in
theorem cv_whose {Vt : Nat → Nat → (Nat → Int) → Int} {d tm l sl : Nat} {g : q_G} {M : q_M} {s : Int} {Q : Option q_V → q_G → q_M → Prop} (C : q_XI Vt tm l sl M) (hq : ∀ (v : Int) (l2 : Nat) (M2 : q_M), q_XI Vt tm l2 sl M2 → q_cfr M M2 → Q (some (qI v)) g M2) : q_S 1 (d + 50) 86 [qR 5 0, qI s] g M Q := by
  have T := C.1
  have c := C.2.2.1
  have w := c.2.1
  have n5 := q_ci_n c
  have tas := c.1
  exact sp_whose (d := d + 44) c (fun M2 h => hq _ l M2 (q_XI_tq C h) (q_cfr_tq h))
set_option maxHeartbeats 4000000 in
theorem cv_drawn {Vt : Nat → Nat → (Nat → Int) → Int} {d tm l sl : Nat} {g : q_G} {M : q_M} {seed wt : Int} {Q : Option q_V → q_G → q_M → Prop} (C : q_XI Vt tm l sl M) (hq : ∀ (v : Int) (l2 : Nat) (M2 : q_M), q_XI Vt tm l2 sl M2 → q_cfr M M2 → Q (some (qI v)) g M2) : q_S 1 (d + 50) 89 [qR 5 0, qI seed, qI wt] g M Q := by
  have T := C.1
  have c := C.2.2.1
  have w := c.2.1
  have n5 := q_ci_n c
  have tas := c.1
  exact sp_drawn (d := d + 44) c (fun M2 h => hq _ l M2 (q_XI_tq C h) (q_cfr_tq h))
set_option maxHeartbeats 4000000 in
theorem cv_laws {Vt : Nat → Nat → (Nat → Int) → Int} {d tm l sl : Nat} {g : q_G} {M : q_M} {s p : Int} {Q : Option q_V → q_G → q_M → Prop} (C : q_XI Vt tm l sl M) (hq : ∀ (v : Int) (l2 : Nat) (M2 : q_M), q_XI Vt tm l2 sl M2 → q_cfr M M2 → Q (some (qI v)) g M2) : q_S 1 (d + 50) 87 [qR 5 0, qI s, qI p] g M Q := by
  have T := C.1
  have c := C.2.2.1
  have w := c.2.1
  have n5 := q_ci_n c
  have tas := c.1
  exact sp_laws (d := d + 44) c T (fun M2 h => hq _ l M2 (q_XI_tq C h) (q_cfr_tq h))
set_option maxHeartbeats 4000000 in
theorem cv_odds {Vt : Nat → Nat → (Nat → Int) → Int} {d tm l sl : Nat} {g : q_G} {M : q_M} {seed seeds most part : Int} {Q : Option q_V → q_G → q_M → Prop} (C : q_XI Vt tm l sl M) (hq : ∀ (v : Int) (l2 : Nat) (M2 : q_M), q_XI Vt tm l2 sl M2 → q_cfr M M2 → Q (some (qL v)) g M2) : q_S 1 (d + 50) 90 [qR 5 0, qI seed, qI seeds, qI most, qI part] g M Q := by
  have T := C.1
  have c := C.2.2.1
  have w := c.2.1
  have n5 := q_ci_n c
  have tas := c.1
  exact sp_odds (d := d + 44) c (fun M2 h => hq _ l M2 (q_XI_tq C h) (q_cfr_tq h))
set_option maxHeartbeats 4000000 in
theorem cv_share {Vt : Nat → Nat → (Nat → Int) → Int} {d tm l sl : Nat} {g : q_G} {M : q_M} {part : Int} {Q : Option q_V → q_G → q_M → Prop} (C : q_XI Vt tm l sl M) (hq : ∀ (v : Int) (l2 : Nat) (M2 : q_M), q_XI Vt tm l2 sl M2 → q_cfr M M2 → Q (some (qL v)) g M2) : q_S 1 (d + 50) 82 [qR 5 0, qI part] g M Q := by
  have T := C.1
  have c := C.2.2.1
  have w := c.2.1
  have n5 := q_ci_n c
  have tas := c.1
  exact sp_share (d := d + 49) w (hq _ l M C q_cfr_rf)
theorem q_XI_one {Vt : Nat → Nat → (Nat → Int) → Int} {tm l sl S : Nat} {M M2 : q_M} (C : q_XI Vt tm l sl M) (hS : S < 4) (hf : ∀ a i, a ≠ 6 + (86 + 2 * S) → a ≠ 6 + (86 + 2 * S) + 1 → M2 a i = M a i) (hn : 0 ≤ M2 (6 + (86 + 2 * S)) 2 ∧ M2 (6 + (86 + 2 * S)) 2 ≤ 40) : q_XI Vt tm l sl M2 ∧ q_cfr M M2 := by
  refine ⟨q_XI_sh C (fun a i ha => hf a i (by omega) (by omega)) (by rw [hf 1 1 (by omega) (by omega)]; exact C.2.2.2.2.2.1) (fun s hs => ?_), fun a i ha => hf a i (by omega) (by omega)⟩
  by_cases e : s = S
  · subst e
    exact hn
  · rw [hf _ _ (by omega) (by omega)]
    exact C.2.2.1.2.2.2.2.2.2 s hs
set_option maxHeartbeats 4000000 in
theorem cv_film {Vt : Nat → Nat → (Nat → Int) → Int} {d tm l sl : Nat} {g : q_G} {M : q_M} {s p n : Int} {Q : Option q_V → q_G → q_M → Prop} (C : q_XI Vt tm l sl M) (hq : ∀ (v : Int) (l2 : Nat) (M2 : q_M), q_XI Vt tm l2 sl M2 → q_cfr M M2 → Q (some (qI v)) g M2) : q_S 1 (d + 50) 88 [qR 5 0, qI s, qI p, qI n] g M Q := by
  have T := C.1
  have c := C.2.2.1
  have w := c.2.1
  have n5 := q_ci_n c
  have tas := c.1
  refine sp_film (d := d + 44) c (fun M2 h => ?_)
  have hx : q_XI Vt tm l sl (q_filmM (Vt l) M s p n) ∧ q_cfr M (q_filmM (Vt l) M s p n) := by
    unfold q_filmM
    split
    · exact q_XI_one (S := s.toNat) C (by omega) (fun a i h1 h2 => q_shM_n h1 h2) (by rw [q_shM_2]; omega)
    · exact ⟨C, q_cfr_rf⟩
  exact hq _ l M2 (q_XI_tq hx.1 h) (fun a i ha => (q_cfr_tq h a i ha).trans (hx.2 a i ha))
set_option maxHeartbeats 4000000 in
theorem cv_image {Vt : Nat → Nat → (Nat → Int) → Int} {d tm l sl : Nat} {g : q_G} {M : q_M} {Q : Option q_V → q_G → q_M → Prop} (C : q_XI Vt tm l sl M) (hq : ∀ (v : Int) (l2 : Nat) (M2 : q_M), q_XI Vt tm l2 sl M2 → q_cfw M M2 → M2 11 9 = M 11 9 → M2 65 9 = M 11 9 → M2 0 6 = 1 → (∀ a i, ((a = 11 ∧ i = 10) ∨ (a = 1 ∧ i = 1) ∨ a = 2) → M2 a i = M a i) → M2 65 10 = M 11 10 → Q (some (qI v)) g M2) : q_S 1 (d + 50) 91 [qR 5 0] g M Q := by
  have T := C.1
  have c := C.2.2.1
  have w := c.2.1
  have n5 := q_ci_n c
  have tas := c.1
  have hta := q_ta_b (t := l) (by have := T.2.1; have := C.2.1; omega)
  refine sp_image (d := d + 48) w (fun M2 h => ?_)
  have hw := q_cpd_wl w (q_rg5_of C.2.2.2.1.1) (by omega) h
  have hf : ∀ a i, (a < 65 ∨ 90 < a) → M2 a i = M a i := fun a i ha => h.2.2.2.2 a i (by omega)
  exact hq _ l _ (q_XI_kp C (fun a i ha => by rw [q_upd_n (by omega)]; exact hf a i (by omega)) (q_rgW_c (fun a i h1 h2 => q_upd_n (by omega)) hw.1) (by rw [q_upd_n (by omega), h.2.2.1]; exact c.2.2.2.2.2.1) ⟨l, C.2.1, by rw [q_upd_n (by omega)]; exact hw.2.2.2.1⟩) (fun a i ha => by rw [q_upd_n (by omega)]; exact hf a i (by omega)) (by rw [q_upd_n (by omega)]; exact hf 11 9 (by omega)) (by rw [q_upd_n (by omega)]; exact h.2.2.1) q_upd_s (fun a i ha => by rw [q_upd_n (by omega)]; exact hf a i (by omega)) (by rw [q_upd_n (by omega), hw.2.2.2.1, w.2.2.2.1])
set_option maxHeartbeats 4000000 in
theorem cv_back {Vt : Nat → Nat → (Nat → Int) → Int} {d tm l sl : Nat} {g : q_G} {M : q_M} {Q : Option q_V → q_G → q_M → Prop} (C : q_XI Vt tm l sl M) (hq : ∀ (v : Int) (l2 : Nat) (M2 : q_M), q_XI Vt tm l2 sl M2 → q_cfw M M2 → M2 11 9 = (if M 0 6 = 0 then M 11 9 else M 65 9) → M2 65 9 = M 65 9 → M2 0 6 = M 0 6 → (∀ a i, ((a = 65 ∧ i = 10) ∨ (a = 1 ∧ i = 1) ∨ a = 2) → M2 a i = M a i) → M2 11 10 = (if M 0 6 = 0 then M 11 10 else M 65 10) → Q (some (qI v)) g M2) : q_S 1 (d + 50) 92 [qR 5 0] g M Q := by
  have T := C.1
  have c := C.2.2.1
  have w := c.2.1
  have n5 := q_ci_n c
  have tas := c.1
  by_cases h : M 0 6 = 0
  · exact sp_backF h (hq _ l M C (fun _ _ _ => rfl) (by rw [if_pos h]) rfl rfl (fun _ _ _ => rfl) (by rw [if_pos h]))
  · obtain ⟨kl, hkl, hla⟩ := C.2.2.2.2.1 h
    have hta := q_ta_b (t := kl) (by have := T.2.1; omega)
    have hx := T.2.2.2 kl hkl
    refine sp_back (V := Vt kl) (d := d + 48) h hla (by omega) (fun M2 h2 => ?_)
    have hw := q_cpd_wl (V := Vt kl) (ta := q_ta kl) ⟨C.2.2.2.1.1, hx.2.2.1, hx.2.2.2, hla, by omega, by omega⟩ (q_rg5_of w.1) (by omega) h2
    have hf : ∀ a i, (a < 11 ∨ (14 < a ∧ a < 30) ∨ 36 < a) → M2 a i = M a i := fun a i ha => h2.2.2.2.2 a i (by omega)
    exact hq _ kl M2 (q_XI_now C hkl (fun a i ha => hf a i (by omega)) hw.1 (by rw [h2.2.2.1]; exact C.2.2.2.1.2) hw.2.2.2.1 (q_z5_eq (fun a h3 h4 => hf a 5 (by omega)) c.2.2.2.1)) (fun a i ha => hf a i (by omega)) (by rw [if_neg h]; exact h2.2.2.1) (hf 65 9 (by omega)) (hf 0 6 (by omega)) (fun a i ha => hf a i (by omega)) (by rw [if_neg h, hw.2.2.2.1, hla])
set_option maxHeartbeats 4000000 in
theorem cv_sheet {Vt : Nat → Nat → (Nat → Int) → Int} {d tm l sl : Nat} {g : q_G} {M : q_M} {s so n : Int} {Q : Option q_V → q_G → q_M → Prop} (C : q_XI Vt tm l sl M) (hq : ∀ (l2 : Nat) (M2 : q_M), q_XI Vt tm l2 sl M2 → q_cfr M M2 → Q (some (qI (A_sheet s so n))) g M2) : q_S 1 (d + 50) 93 [qR 5 0, qI s, qI so, qI n] g M Q := by
  have hx : q_XI Vt tm l sl (q_sheetM M s so n) ∧ q_cfr M (q_sheetM M s so n) := by
    unfold q_sheetM
    split
    · next h =>
      unfold A_sheet at h
      exact q_XI_one (S := s.toNat) C (by omega) (fun a i h1 h2 => q_shM_n h1 h2) (by rw [q_shM_2]; omega)
    · exact ⟨C, q_cfr_rf⟩
  exact sp_sheet (d := d + 49) (hq l _ hx.1 hx.2)
set_option maxHeartbeats 4000000 in
theorem cv_cell {Vt : Nat → Nat → (Nat → Int) → Int} {d tm l sl : Nat} {g : q_G} {M : q_M} {s i v0 : Int} {Q : Option q_V → q_G → q_M → Prop} (C : q_XI Vt tm l sl M) (hq : ∀ (v : Int) (l2 : Nat) (M2 : q_M), q_XI Vt tm l2 sl M2 → q_cfr M M2 → Q (some (qI v)) g M2) : q_S 1 (d + 50) 94 [qR 5 0, qI s, qI i, qI v0] g M Q := by
  have T := C.1
  have c := C.2.2.1
  have w := c.2.1
  have n5 := q_ci_n c
  have tas := c.1
  have hx : q_XI Vt tm l sl (q_cellM M s i v0) ∧ q_cfr M (q_cellM M s i v0) := by
    unfold q_cellM
    split
    · next h =>
      unfold A_cell at h
      have hS : s.toNat < 4 := by omega
      exact q_XI_one (S := s.toNat) C hS (fun a i h1 h2 => q_upd_n (by omega)) (by rw [q_upd_n (by omega)]; exact c.2.2.2.2.2.2 _ hS)
    · exact ⟨C, q_cfr_rf⟩
  exact sp_cell (d := d + 49) c.2.2.2.2.2.2 (hq _ l _ hx.1 hx.2)
set_option maxHeartbeats 4000000 in
theorem cv_copy {Vt : Nat → Nat → (Nat → Int) → Int} {d tm l sl : Nat} {g : q_G} {M : q_M} {s i o j n : Int} {Q : Option q_V → q_G → q_M → Prop} (C : q_XI Vt tm l sl M) (hq : ∀ (v : Int) (l2 : Nat) (M2 : q_M), q_XI Vt tm l2 sl M2 → q_cfr M M2 → Q (some (qI v)) g M2) (hn : n ≤ 2147483647) : q_S 1 (d + 50) 95 [qR 5 0, qI s, qI i, qI o, qI j, qI n] g M Q := by
  have T := C.1
  have c := C.2.2.1
  have w := c.2.1
  have n5 := q_ci_n c
  have tas := c.1
  have hx : q_XI Vt tm l sl (q_copyM M s i o j n) ∧ q_cfr M (q_copyM M s i o j n) := by
    unfold q_copyM
    split
    · next h =>
      unfold A_copy at h
      have hS : o.toNat < 4 := by
        split at h
        · omega
        · omega
      refine q_XI_one (S := o.toNat) C hS (fun a i h1 h2 => ?_) ?_
      · unfold q_cpy
        rw [if_neg (fun z => h2 z.1)]
      · unfold q_cpy
        rw [if_neg (fun z => by omega)]
        exact c.2.2.2.2.2.2 _ hS
    · exact ⟨C, q_cfr_rf⟩
  exact sp_copy (d := d + 49) c.2.2.2.2.2.2 hn (hq _ l _ hx.1 hx.2)
theorem q_XI_sb {Vt : Nat → Nat → (Nat → Int) → Int} {tm l sl : Nat} {Cl : Nat → Int} {fr sz : Int} : ∀ (j k : Nat) (came : Int) (M : q_M), q_XI Vt tm l sl M → q_XI Vt tm l sl (q_sb Cl fr sz j k came M).2 ∧ q_cfr M (q_sb Cl fr sz j k came M).2 := by
  intro j
  induction j with
  | zero => intro k came M C; exact ⟨C, q_cfr_rf⟩
  | succ j ih =>
    intro k came M C
    unfold q_sb
    split
    · exact ⟨C, q_cfr_rf⟩
    · split
      · next h =>
        have hx := q_XI_ad C (of_decide_eq_true h.1) h.2
        have hy := ih (k + 1) (came + 1) _ hx.1
        exact ⟨hy.1, fun a i ha => (hy.2 a i ha).trans (hx.2 a i ha)⟩
      · exact ih (k + 1) came M C
set_option maxHeartbeats 4000000 in
theorem cv_stonesBy {Vt : Nat → Nat → (Nat → Int) → Int} {d tm l sl : Nat} {g : q_G} {M : q_M} {s so fr n : Int} {Q : Option q_V → q_G → q_M → Prop} (C : q_XI Vt tm l sl M) (hq : ∀ (v : Int) (l2 : Nat) (M2 : q_M), q_XI Vt tm l2 sl M2 → q_cfr M M2 → Q (some (qI v)) g M2) : q_S 1 (d + 50) 96 [qR 5 0, qI s, qI so, qI fr, qI n] g M Q := by
  have T := C.1
  have c := C.2.2.1
  have w := c.2.1
  have n5 := q_ci_n c
  have tas := c.1
  have hx : q_XI Vt tm l sl (q_stonesBy M s so fr n).2 ∧ q_cfr M (q_stonesBy M s so fr n).2 := by
    unfold q_stonesBy
    split
    · exact ⟨C, q_cfr_rf⟩
    · split
      · exact ⟨C, q_cfr_rf⟩
      · split
        · exact ⟨C, q_cfr_rf⟩
        · split
          · exact ⟨C, q_cfr_rf⟩
          · exact q_XI_sb _ _ _ _ C
  exact sp_stonesBy (d := d + 48) c.2.2.2.2.2.2 n5.1 n5.2 (hq _ l _ hx.1 hx.2)
set_option maxHeartbeats 4000000 in
theorem cv_taken {Vt : Nat → Nat → (Nat → Int) → Int} {d tm l sl : Nat} {g : q_G} {M : q_M} {i k : Int} {Q : Option q_V → q_G → q_M → Prop} (C : q_XI Vt tm l sl M) (hq : ∀ (v : Int) (l2 : Nat) (M2 : q_M), q_XI Vt tm l2 sl M2 → q_cfr M M2 → Q (some (qI v)) g M2) : q_S 1 (d + 50) 97 [qR 5 0, qI i, qI k] g M Q := by
  have T := C.1
  have c := C.2.2.1
  have w := c.2.1
  have n5 := q_ci_n c
  have tas := c.1
  exact sp_taken (d := d + 49) n5.1 n5.2 (hq _ l M C q_cfr_rf)
end
section
/-! THE CLASS: text keeps what stays -/
theorem q_zM_f {M : q_M} {z : q_Z} {s : Nat → Int} {a i : Nat} (h1 : a ≠ 1 ∨ i < 3) (h3 : a ≠ 3) (h4 : a ≠ 4) : q_zM M z s a i = M a i := by
  unfold q_zM
  by_cases e : a = 1
  · subst e
    rw [if_pos rfl, if_neg (by omega), if_neg (by omega), if_neg (by omega), if_neg (by omega), if_neg (by omega), if_neg (by omega)]
  · rw [if_neg e, if_neg h3, if_neg h4]
theorem q_ta_s {j : Nat} : q_ta (j + 1) = 125 + 4 * j := by
  unfold q_ta
  rw [if_neg (by omega)]
  omega
/-- what reading a text leaves as it is -/
def q_cfx (M M2 : q_M) : Prop := ∀ a i, ((100 ≤ a ∧ a < 124) ∨ 1000 ≤ a ∨ (11 ≤ a ∧ a < 100) ∨ (a = 0 ∧ i = 6) ∨ a = 2) → M2 a i = M a i
def q_Tadd (Vt : Nat → Nat → (Nat → Int) → Int) (tm : Nat) (V : Nat → (Nat → Int) → Int) : Nat → Nat → (Nat → Int) → Int := fun t => if t = tm then V else Vt t
set_option maxHeartbeats 4000000 in
theorem q_XI_text {Vt : Nat → Nat → (Nat → Int) → Int} {tm l sl n j : Nat} {M M2 : q_M} {z : q_Z} {s : Nat → Int} (C : q_XI Vt tm l sl M) (htm : tm < 6) (hj : tm = j + 1) (hz : q_zI n z) (hs : ∀ p, p < 3 → 0 ≤ s p ∧ s p ≤ 160) (h : q_mdM (q_zM M z s) M2 j tm z.1 z.2.2.2.2.2.2 s) : ∃ (K S : Nat → Int) (len : Nat), q_XI (q_Tadd Vt tm (q_Vt K S len)) (tm + 1) l (sl + z.1.toNat + 47) (q_upd (q_upd (q_upd M2 5 tm (q_ta tm : Nat)) 0 2 (tm + 1)) 1 1 0) ∧ q_cfx M (q_upd (q_upd (q_upd M2 5 tm (q_ta tm : Nat)) 0 2 (tm + 1)) 1 1 0) ∧ q_cod K len ∧ (∀ i, i < len → K i = z.2.2.2.2.2.2 i) ∧ (∀ p, S p = s p) ∧ (len : Int) = z.1 := by
  obtain ⟨m1, m2, m3, m4, m5, m6, m7, m8⟩ := h
  obtain ⟨T, hl, c, k1, k2, k3, k4⟩ := C
  obtain ⟨T1, T2, T3, T4⟩ := T
  have z1 := hz.1
  have eq5 : q_ta tm = 125 + 4 * j := by rw [hj]; exact q_ta_s
  have zc := hz.2.2.2.2.1
  have eta : q_ta tm = 121 + 4 * tm := by unfold q_ta; rw [if_neg (by omega)]
  have ej : 124 + 4 * j + 1 = q_ta tm := by omega
  generalize hM3 : q_upd (q_upd (q_upd M2 5 tm (q_ta tm : Nat)) 0 2 (tm + 1)) 1 1 0 = M3
  have f3 : ∀ a i, a ≠ 0 → a ≠ 1 → a ≠ 5 → M3 a i = M2 a i := fun a i h1 h2 h3 => by rw [← hM3, q_upd_n (by omega), q_upd_n (by omega), q_upd_n (by omega)]
  have fr : ∀ a i, (5 < a ∧ a < 120 + 4 * tm) ∨ 123 + 4 * tm < a → M3 a i = M a i := fun a i ha => by
    rw [f3 a i (by omega) (by omega) (by omega), m1 a i (by omega), q_zM_f (by omega) (by omega) (by omega)]
  have f5 : ∀ t, M3 5 t = if t = tm then (q_ta tm : Int) else M 5 t := fun t => by
    rw [← hM3, q_upd_n (by omega), q_upd_n (by omega)]
    by_cases e : t = tm
    · rw [if_pos e, e, q_upd_s]
    · rw [if_neg e, q_upd_n (by omega), m1 5 t (by omega), q_zM_f (by omega) (by omega) (by omega)]
  have f06 : M3 0 6 = M 0 6 := by rw [← hM3, q_upd_n (by omega), q_upd_n (by omega), q_upd_n (by omega), m1 0 6 (by omega), q_zM_f (by omega) (by omega) (by omega)]
  have hcod : q_cod (M3 (124 + 4 * j)) z.1.toNat := by
    intro i hi
    rw [f3 _ i (by omega) (by omega) (by omega), m2 i (by omega) (by omega)]
    exact zc i hi
  have hlen : M3 (124 + 4 * j) 1000 = (z.1.toNat : Nat) := by
    rw [f3 _ _ (by omega) (by omega) (by omega), m3]
    omega
  have g0 : ∀ i, M3 (125 + 4 * j) i = M2 (125 + 4 * j) i := fun i => f3 _ _ (by omega) (by omega) (by omega)
  have es : ∀ i, M3 (q_ta tm + 1) i = s i := fun i => by
    rw [show q_ta tm + 1 = 126 + 4 * j by omega, f3 _ _ (by omega) (by omega) (by omega)]
    exact m8 i
  have hlaw : q_lawC (q_Vt (M3 (124 + 4 * j)) (M3 (q_ta tm + 1)) z.1.toNat) (q_ta tm) M3 := by
    refine q_lawC_of2 (by omega) ?_ ?_ ?_ hlen (by omega) hcod (fun p hp => by rw [es p]; have := hs p hp; omega)
    · rw [eq5, g0]; exact m5
    · rw [eq5, g0, m6]; omega
    · rw [eq5, g0, m7]; omega
  refine ⟨M3 (124 + 4 * j), M3 (q_ta tm + 1), z.1.toNat, ⟨⟨by omega, by omega, by rw [← hM3, q_upd_n (by omega), q_upd_s]; omega, fun t ht => ?_⟩, by omega, ?_, ⟨q_rgW_c (fun a i h1 h2 => fr a i (by omega)) k1.1, by rw [fr 65 9 (by omega)]; exact k1.2⟩, fun q => ?_, ?_, by omega⟩, fun a i ha => ?_, hcod, fun i hi => ?_, es, by omega⟩
  · by_cases e : t = tm
    · subst e
      rw [f5, if_pos rfl, show q_Tadd Vt t (q_Vt (M3 (124 + 4 * j)) (M3 (q_ta t + 1)) z.1.toNat) t = q_Vt (M3 (124 + 4 * j)) (M3 (q_ta t + 1)) z.1.toNat from if_pos rfl]
      exact ⟨rfl, by rw [eq5, g0]; exact m4, q_lawV_of2 hcod, hlaw⟩
    · have hx := T4 t (by omega)
      have hb := q_ta_b (t := t) (by omega)
      have hb2 : q_ta t < 120 + 4 * tm - 1 := by unfold q_ta; split <;> omega
      rw [f5, if_neg e, show q_Tadd Vt tm (q_Vt (M3 (124 + 4 * j)) (M3 (q_ta tm + 1)) z.1.toNat) t = Vt t from if_neg e]
      exact ⟨hx.1, by rw [fr _ _ (by omega)]; exact hx.2.1, hx.2.2.1, q_lawC_c (fun a i ha => fr a i (by omega)) hx.2.2.2⟩
  · obtain ⟨c1, c2, c3, c4, c5, c6, c7⟩ := c
    have hb := q_ta_b (t := l) (by omega)
    have hb2 : q_ta l < 120 + 4 * tm - 1 := by unfold q_ta; split <;> omega
    rw [show q_Tadd Vt tm (q_Vt (M3 (124 + 4 * j)) (M3 (q_ta tm + 1)) z.1.toNat) l = Vt l from if_neg (by omega)]
    exact ⟨c1, q_wl_eq (fun a i ha => fr a i (by omega)) c2, q_rg5_eq (fun a i _ h1 h2 => fr a i (by omega)) c3, q_z5_eq (fun a h1 h2 => fr a 5 (by omega)) c4, q_z5_eq (fun a h1 h2 => fr a 5 (by omega)) c5, by rw [fr 11 9 (by omega)]; exact c6, fun s2 hs2 => by rw [fr _ _ (by omega)]; exact c7 s2 hs2⟩
  · rw [f06] at q
    obtain ⟨kl, h1, h2⟩ := k2 q
    exact ⟨kl, by omega, by rw [fr 65 10 (by omega)]; exact h2⟩
  · rw [← hM3, q_upd_s]
    omega
  · by_cases e : a = 0
    · have e2 : i = 6 := by omega
      subst e
      subst e2
      exact f06
    · by_cases e2 : a = 2
      · subst e2
        rw [← hM3, q_upd_n (by omega), q_upd_n (by omega), q_upd_n (by omega), m1 2 i (by omega), q_zM_f (by omega) (by omega) (by omega)]
      · exact fr a i (by omega)
  · rw [f3 _ i (by omega) (by omega) (by omega)]
    exact m2 i (by omega) (by omega)
theorem R_st_b {T : Nat → Int} {n : Nat} {z : q_Z} {s : Nat → Int} (h : q_zI n z) : ∀ p, p < 3 → 0 ≤ R_st T n z s p ∧ R_st T n z s p ≤ 160 := by
  intro p hp
  have h1 := (R_ex_I (T := T) (w := -5) h).1
  have i2 : q_zI n (R_z2 T n z) := R_pt_I h
  have h2 := (R_ex_I (T := T) (w := -6) i2).1
  have i3 : q_zI n (R_z3 T n z) := R_pt_I i2
  have h3 := (R_ex_I (T := T) (w := -7) i3).1
  unfold R_st
  rcases (show p = 0 ∨ p = 1 ∨ p = 2 by omega) with e | e | e
  · subst e
    rw [F_u_n (by omega), F_u_n (by omega), F_u_s]
    exact h1
  · subst e
    rw [F_u_n (by omega), F_u_s]
    exact h2
  · subst e
    rw [F_u_s]
    exact h3
end
section
/-! THE FIRST STATE KEEPS BOTH SIDES' BOUNDS -/
def q_rbk (r : q_Row) (lo hi : Int) : Bool := r.1.all (fun x => decide (lo ≤ x ∧ x ≤ hi)) && decide (lo ≤ r.2.1 ∧ r.2.1 ≤ hi) && decide (lo ≤ r.2.2 ∧ r.2.2 ≤ hi)
def q_tbk (a : Nat) (lo hi : Int) : Bool := match q_T0[a]? with
  | some r => q_rbk r lo hi
  | none => false
theorem q_tb {a : Nat} {lo hi : Int} {B : q_M} (h : q_tbk a lo hi = true) (i : Nat) : lo ≤ q_lk q_T0 B a i ∧ q_lk q_T0 B a i ≤ hi := by
  unfold q_tbk at h
  unfold q_lk
  cases e : q_T0[a]? with
  | none => rw [e] at h; cases h
  | some r =>
    rw [e] at h
    simp only [q_rbk, Bool.and_eq_true, List.all_eq_true, decide_eq_true_eq] at h
    obtain ⟨⟨h1, h2⟩, h3⟩ := h
    show lo ≤ q_rg r i ∧ q_rg r i ≤ hi
    unfold q_rg
    split
    · exact h3
    · rw [List.getD_eq_getElem?_getD]
      cases e2 : r.1[i]? with
      | none => exact h2
      | some x => exact h1 x (List.mem_of_getElem? e2)
def q_rowsOk (w : Nat) : Bool := q_tbk (w + 22) 0 5 && q_tbk (w + 23) 0 9 && q_tbk (w + 24) 0 99 && q_tbk (w + 25) 0 99 && q_tbk (w + 3) 0 5 && q_tbk (w + 19) 0 99 && q_tbk (w + 2) 0 6 && q_tbk (w + 20) 0 99 && q_tbk (w + 21) 0 99
theorem q_rgW_0 {w : Nat} {B : q_M} (h : q_rowsOk w = true) (h5 : q_lk q_T0 B (w + 1) 5 = 0) (h9 : q_lk q_T0 B w 9 = 0) (h1 : q_lk q_T0 B (w + 20) 5 = 0) (h2 : q_lk q_T0 B (w + 21) 5 = 0) : q_rgW (q_lk q_T0 B) w := by
  simp only [q_rowsOk, Bool.and_eq_true] at h
  obtain ⟨⟨⟨⟨⟨⟨⟨⟨a1, a2⟩, a3⟩, a4⟩, a5⟩, a6⟩, a7⟩, a8⟩, a9⟩ := h
  exact ⟨by omega, by omega, q_tb a1, q_tb a2, q_tb a3, q_tb a4, q_tb a5, q_tb a6, q_tb a7, q_tb a8, q_tb a9, h1, h2⟩
theorem q_ok_11 : q_rowsOk 11 = true := by decide +kernel
theorem q_ok_38 : q_rowsOk 38 = true := by decide +kernel
theorem q_ok_65 : q_rowsOk 65 = true := by decide +kernel
section FS
variable {B : q_M}
theorem q_first_law : q_lawC (q_Vt (q_lk q_T0 B 7) (q_lk q_T0 B 9) 8) 8 (q_lk q_T0 B) := by
  refine q_lawC_of2 (ca := 7) (len := 8) rfl rfl rfl rfl rfl (by omega) (fun i hi => ?_) (fun p hp => ?_)
  · match i, hi with
    | 0, _ => rw [m_7_0]; decide
    | 1, _ => rw [m_7_1]; decide
    | 2, _ => rw [m_7_2]; decide
    | 3, _ => rw [m_7_3]; decide
    | 4, _ => rw [m_7_4]; decide
    | 5, _ => rw [m_7_5]; decide
    | 6, _ => rw [m_7_6]; decide
    | 7, _ => rw [m_7_7]; decide
    | n + 8, h => omega
  · match p, hp with
    | 0, _ => show 0 ≤ q_lk q_T0 B 9 0 ∧ q_lk q_T0 B 9 0 ≤ 100000; rw [m_9_0]; decide
    | 1, _ => show 0 ≤ q_lk q_T0 B 9 1 ∧ q_lk q_T0 B 9 1 ≤ 100000; rw [m_9_1]; decide
    | 2, _ => show 0 ≤ q_lk q_T0 B 9 2 ∧ q_lk q_T0 B 9 2 ≤ 100000; rw [m_9_2]; decide
    | n + 3, h => omega
theorem q_first_cod : q_cod (q_lk q_T0 B 7) 8 := by
  intro i hi
  match i, hi with
  | 0, _ => rw [m_7_0]; decide
  | 1, _ => rw [m_7_1]; decide
  | 2, _ => rw [m_7_2]; decide
  | 3, _ => rw [m_7_3]; decide
  | 4, _ => rw [m_7_4]; decide
  | 5, _ => rw [m_7_5]; decide
  | 6, _ => rw [m_7_6]; decide
  | 7, _ => rw [m_7_7]; decide
  | n + 8, h => omega
theorem q_first_z5 : q_z5 (q_lk q_T0 B) 11 ∧ q_z5 (q_lk q_T0 B) 38 := by
  refine ⟨⟨fun p hp => ?_, fun p hp => ?_⟩, ⟨fun p hp => ?_, fun p hp => ?_⟩⟩
  all_goals
    match p, hp with
    | 0, _ => rfl
    | 1, _ => rfl
    | 2, _ => rfl
    | 3, _ => rfl
    | 4, _ => rfl
    | n + 5, h => omega
theorem q_first_XI : q_XI (fun _ => q_Vt (q_lk q_T0 B 7) (q_lk q_T0 B 9) 8) 1 0 3394 (q_lk q_T0 B) := by
  have hV := q_lawV_of2 (s := q_lk q_T0 B 9) (q_first_cod (B := B))
  have r11 := q_rgW_0 (B := B) q_ok_11 rfl rfl rfl rfl
  have r38 := q_rgW_0 (B := B) q_ok_38 rfl rfl rfl rfl
  have r65 := q_rgW_0 (B := B) q_ok_65 rfl rfl rfl rfl
  refine ⟨⟨by omega, by omega, rfl, fun t ht => ?_⟩, by omega, ⟨Or.inl rfl, ⟨r11, hV, q_first_law, rfl, by decide, Or.inr (by decide)⟩, q_rg5_of r38, q_first_z5.1, q_first_z5.2, ?_, fun s hs => ?_⟩, ⟨r65, ?_⟩, fun h => absurd rfl h, ⟨?_, ?_⟩, by omega⟩
  · have e : t = 0 := by omega
    subst e
    exact ⟨rfl, rfl, hV, q_first_law⟩
  · rw [m_11_9]; omega
  · match s, hs with
    | 0, _ => show 0 ≤ q_lk q_T0 B 92 2 ∧ q_lk q_T0 B 92 2 ≤ 40; rw [show q_lk q_T0 B 92 2 = 0 from rfl]; decide
    | 1, _ => show 0 ≤ q_lk q_T0 B 94 2 ∧ q_lk q_T0 B 94 2 ≤ 40; rw [show q_lk q_T0 B 94 2 = 0 from rfl]; decide
    | 2, _ => show 0 ≤ q_lk q_T0 B 96 2 ∧ q_lk q_T0 B 96 2 ≤ 40; rw [show q_lk q_T0 B 96 2 = 0 from rfl]; decide
    | 3, _ => show 0 ≤ q_lk q_T0 B 98 2 ∧ q_lk q_T0 B 98 2 ≤ 40; rw [show q_lk q_T0 B 98 2 = 0 from rfl]; decide
    | n + 4, h => omega
  · rw [m_65_9]; omega
  · rw [m_1_1]; omega
  · rw [m_1_1]; omega
theorem q_first_wf : q_wfT (fun i => q_lk q_T0 B 106 (200 * 0 + i)) (fun i => q_lk q_T0 B 107 (4 * 0 + i)) := by
  intro p hp
  have c0 : q_lk q_T0 B 106 (200 * 0 + 0) = 100099 := rfl
  have c1 : q_lk q_T0 B 106 (200 * 0 + 1) = 0 := rfl
  have c2 : q_lk q_T0 B 106 (200 * 0 + 2) = 17 := rfl
  have c3 : q_lk q_T0 B 106 (200 * 0 + 3) = 3 := rfl
  have c4 : q_lk q_T0 B 106 (200 * 0 + 4) = 100009 := rfl
  match p, hp with
  | 0, _ =>
    refine ⟨0, 3, fun i => if i = 0 then 0 else if i = 1 then 1 else if i = 2 then 2 else 1, rfl, rfl, by omega, by omega, ⟨rfl, fun i _ hi => ?_⟩, rfl⟩
    match i, hi with
    | 0, _ => exact Or.inl ⟨by show q_pu (q_lk q_T0 B 106 (200 * 0 + 0)); rw [c0]; unfold q_pu; omega, rfl⟩
    | 1, _ => exact Or.inl ⟨by show q_pu (q_lk q_T0 B 106 (200 * 0 + 1)); rw [c1]; unfold q_pu; omega, rfl⟩
    | 2, _ => exact Or.inr (Or.inr ⟨by show q_bi (q_lk q_T0 B 106 (200 * 0 + 2)); rw [c2]; unfold q_bi; omega, by decide, rfl⟩)
    | n + 3, h => omega
  | 1, _ =>
    refine ⟨3, 4, fun i => i - 3, rfl, rfl, by omega, by omega, ⟨rfl, fun i h0 hi => ?_⟩, rfl⟩
    have e : i = 3 := by omega
    subst e
    exact Or.inl ⟨by show q_pu (q_lk q_T0 B 106 (200 * 0 + 3)); rw [c3]; unfold q_pu; omega, rfl⟩
  | 2, _ =>
    refine ⟨4, 5, fun i => i - 4, rfl, rfl, by omega, by omega, ⟨rfl, fun i h0 hi => ?_⟩, rfl⟩
    have e : i = 4 := by omega
    subst e
    exact Or.inl ⟨by show q_pu (q_lk q_T0 B 106 (200 * 0 + 4)); rw [c4]; unfold q_pu; omega, rfl⟩
  | n + 3, h => omega
end FS
theorem q_ok_m1 : (q_tbk 101 0 5 && q_tbk 102 0 9 && q_tbk 103 0 99 && q_tbk 104 0 4 && q_tbk 108 0 4 && q_tbk 109 0 0 && q_tbk 111 0 40) = true := by decide +kernel
theorem q_first_room {B : q_M} : ∀ i, i < 5 → q_lk q_T0 B 103 (4 * i + 1) = 1 := by
  intro i hi
  match i, hi with
  | 0, _ => rfl
  | 1, _ => rfl
  | 2, _ => rfl
  | 3, _ => rfl
  | 4, _ => rfl
  | n + 5, h => omega
theorem q_first_MI {B : q_M} : q_MI (fun _ => q_V1 (fun i => q_lk q_T0 B 106 (200 * 0 + i)) (fun i => q_lk q_T0 B 107 (4 * 0 + i))) 1 (q_lk q_T0 B) := by
  have h := q_ok_m1
  simp only [Bool.and_eq_true] at h
  obtain ⟨⟨⟨⟨⟨⟨h1, h2⟩, h3⟩, h4⟩, h8⟩, h9⟩, h11⟩ := h
  have b1 := q_tb (B := B) h1
  have b2 := q_tb (B := B) h2
  have b3 := q_tb (B := B) h3
  have b4 := q_tb (B := B) h4
  have b8 := q_tb (B := B) h8
  have b9 := q_tb (B := B) h9
  have b11 := q_tb (B := B) h11
  refine ⟨⟨by rw [m_100_0]; omega, by rw [m_100_5]; omega, fun i _ => b1 i, fun i _ => b2 i, fun i _ => ?_, fun i _ => ?_, fun i _ => ?_, fun i _ => b3 _, fun i hi => by rw [q_first_room i hi]; omega, fun i _ => b3 _, fun i _ => b3 _⟩, by rw [m_100_5]; omega, fun i hi => by rw [q_first_room i hi]; omega, fun s _ => b11 s, ⟨by omega, by omega, rfl, fun t ht => ?_⟩, by rw [m_100_11]; omega, by rw [m_100_7]; omega, ⟨fun i _ => ?_, fun i _ => ?_, fun i _ => ?_, fun i _ => ?_, fun i _ => ?_, fun i _ => ?_, fun i _ => ?_, ?_, ?_, ?_⟩, Or.inl rfl⟩
  · have := b4 (3 * i); omega
  · have := b4 (3 * i + 1); omega
  · have := b4 (3 * i + 2); omega
  · have e : t = 0 := by omega
    subst e
    exact ⟨q_lawV_1, q_lawT_of (by omega) q_first_wf⟩
  · have := b8 (3 * i); omega
  · have := b8 (3 * i + 1); omega
  · have := b8 (3 * i + 2); omega
  · have := b8 (15 + 4 * i); omega
  · have := b8 (15 + (4 * i + 1)); omega
  · have := b8 (15 + (4 * i + 2)); omega
  · have := b8 (15 + (4 * i + 3)); omega
  · have := b9 0; omega
  · have := b9 1; omega
  · have := b9 2; omega
end
section
/-! THE TWO READERS: tokens -/
def L_i (T : Nat → Int) (n a : Nat) : Nat := F_wh F_blk T (n - a) a
def L_t (T : Nat → Int) (n a : Nat) : Int := (R_tk T n (L_i T n a) 0).1
def L_v (T : Nat → Int) (n a : Nat) : Int := (R_tk T n (L_i T n a) 0).2.1
def L_b (T : Nat → Int) (n a : Nat) : Nat := (R_tk T n (L_i T n a) 0).2.2
theorem R_m_any {T : Nat → Int} {i b j : Nat} {t v : Int} {a a' : Int × Int} (h : a.1 = a'.1 ∧ (a.1 ≠ -1 → a.2 = a'.2)) : (R_m T i b j t v a).1 = (R_m T i b j t v a').1 ∧ ((R_m T i b j t v a).1 ≠ -1 → (R_m T i b j t v a).2 = (R_m T i b j t v a').2) := by
  unfold R_m
  split
  · exact ⟨rfl, fun _ => rfl⟩
  · exact h
theorem R_wd_any {T : Nat → Int} {i b : Nat} {v v' : Int} : (R_wd T i b v).1 = (R_wd T i b v').1 ∧ ((R_wd T i b v).1 ≠ -1 → (R_wd T i b v).2 = (R_wd T i b v').2) := by
  unfold R_wd
  exact R_m_any (R_m_any (R_m_any (R_m_any (R_m_any (R_m_any (R_m_any (R_m_any (R_m_any (R_m_any (R_m_any (R_m_any ⟨rfl, fun z => absurd rfl z⟩)))))))))))
theorem R_tk_any {T : Nat → Int} {n i : Nat} {v v' : Int} : (R_tk T n i v).1 = (R_tk T n i v').1 ∧ (((R_tk T n i v).1 = -3 ∨ (R_tk T n i v).1 = -4) → (R_tk T n i v).2.1 = (R_tk T n i v').2.1) ∧ (R_tk T n i v).2.2 = (R_tk T n i v').2.2 := by
  unfold R_tk
  by_cases c1 : n ≤ i
  · rw [if_pos c1, if_pos c1]
    exact ⟨rfl, fun z => absurd z (by show ¬((-2 : Int) = -3 ∨ (-2 : Int) = -4); omega), rfl⟩
  · rw [if_neg c1, if_neg c1]
    by_cases c2 : F_ltr (T i) = true
    · rw [if_pos c2, if_pos c2]
      have h := R_wd_any (T := T) (i := i) (b := F_wh F_ltr T (n - (i + 1)) (i + 1)) (v := v) (v' := v')
      refine ⟨h.1, fun z => h.2 ?_, rfl⟩
      have z : (R_wd T i (F_wh F_ltr T (n - (i + 1)) (i + 1)) v).1 = -3 ∨ (R_wd T i (F_wh F_ltr T (n - (i + 1)) (i + 1)) v).1 = -4 := z
      omega
    · rw [if_neg c2, if_neg c2]
      by_cases c3 : F_dgt (T i) = true
      · rw [if_pos c3, if_pos c3]
        exact ⟨rfl, fun _ => rfl, rfl⟩
      · rw [if_neg c3, if_neg c3]
        refine ⟨rfl, fun z => ?_, rfl⟩
        exfalso
        by_cases c4 : F_sgn (T i) = true
        · rw [if_pos c4] at z
          have h := of_decide_eq_true c4
          have z : T i = -3 ∨ T i = -4 := z
          omega
        · rw [if_neg c4] at z
          have z : (-1 : Int) = -3 ∨ (-1 : Int) = -4 := z
          omega
theorem R_wd_t {T : Nat → Int} {i b : Nat} {v : Int} : -10 ≤ (R_wd T i b v).1 ∧ (R_wd T i b v).1 ≤ -1 ∧ (R_wd T i b v).1 ≠ -2 ∧ (R_wd T i b v).1 ≠ -3 := by
  have st : ∀ {j : Nat} {t w : Int} {a : Int × Int}, (-10 ≤ t ∧ t ≤ -1 ∧ t ≠ -2 ∧ t ≠ -3) → (-10 ≤ a.1 ∧ a.1 ≤ -1 ∧ a.1 ≠ -2 ∧ a.1 ≠ -3) → (-10 ≤ (R_m T i b j t w a).1 ∧ (R_m T i b j t w a).1 ≤ -1 ∧ (R_m T i b j t w a).1 ≠ -2 ∧ (R_m T i b j t w a).1 ≠ -3) := by
    intro j t w a h1 h2
    unfold R_m
    split
    · exact h1
    · exact h2
  unfold R_wd
  refine st ?_ (st ?_ (st ?_ (st ?_ (st ?_ (st ?_ (st ?_ (st ?_ (st ?_ (st ?_ (st ?_ (st ?_ ?_)))))))))))
  all_goals simp
/-- which tokens there are; behind one more is read -/
theorem L_ok {T : Nat → Int} {n a : Nat} (ha : a ≤ n) : a ≤ L_i T n a ∧ L_i T n a ≤ n ∧ L_i T n a ≤ L_b T n a ∧ L_b T n a ≤ n ∧ (L_t T n a ≠ -2 → L_i T n a < L_b T n a) ∧ ((-10 ≤ L_t T n a ∧ L_t T n a ≤ -1) ∨ L_t T n a = 40 ∨ L_t T n a = 41 ∨ L_t T n a = 59 ∨ L_t T n a = 43 ∨ L_t T n a = 45 ∨ L_t T n a = 42 ∨ L_t T n a = 60 ∨ L_t T n a = 61) ∧ (L_t T n a = -3 → 0 ≤ L_v T n a ∧ L_v T n a ≤ 9999) ∧ (L_t T n a = -4 → 0 ≤ L_v T n a ∧ L_v T n a ≤ 5) := by
  have h1 := F_wh_le (P := F_blk) (T := T) (n - a) a
  have h2 : L_i T n a ≤ n := by unfold L_i; omega
  have h3 := R_tk_ok (T := T) (n := n) (i := L_i T n a) (v := 0) h2
  refine ⟨h1.1, h2, h3.2.1, h3.2.2, ?_, ?_, h3.1.1, h3.1.2⟩
  · unfold L_t L_b
    generalize L_i T n a = i
    unfold R_tk
    by_cases c1 : n ≤ i
    · rw [if_pos c1]
      intro z
      exact absurd rfl z
    · rw [if_neg c1]
      intro _
      by_cases c2 : F_ltr (T i) = true
      · rw [if_pos c2]
        have h := F_wh_le (P := F_ltr) (T := T) (n - (i + 1)) (i + 1)
        show i < F_wh F_ltr T (n - (i + 1)) (i + 1)
        omega
      · rw [if_neg c2]
        by_cases c3 : F_dgt (T i) = true
        · rw [if_pos c3]
          show i < F_wh F_dgt T (n - i) i
          obtain ⟨k, hk⟩ : ∃ k, n - i = k + 1 := ⟨n - i - 1, by omega⟩
          rw [hk, F_wh, if_pos c3]
          have h := F_wh_le (P := F_dgt) (T := T) k (i + 1)
          omega
        · rw [if_neg c3]
          show i < i + 1
          omega
  · unfold L_t
    generalize L_i T n a = i
    unfold R_tk
    by_cases c1 : n ≤ i
    · rw [if_pos c1]
      exact Or.inl ⟨by show (-10 : Int) ≤ -2; omega, by show (-2 : Int) ≤ -1; omega⟩
    · rw [if_neg c1]
      by_cases c2 : F_ltr (T i) = true
      · rw [if_pos c2]
        have h := R_wd_t (T := T) (i := i) (b := F_wh F_ltr T (n - (i + 1)) (i + 1)) (v := 0)
        exact Or.inl ⟨h.1, h.2.1⟩
      · rw [if_neg c2]
        by_cases c3 : F_dgt (T i) = true
        · rw [if_pos c3]
          refine Or.inl ?_
          show -10 ≤ (if _ then (-1 : Int) else -3) ∧ (if _ then (-1 : Int) else -3) ≤ -1
          split <;> omega
        · rw [if_neg c3]
          show (-10 ≤ (if F_sgn (T i) = true then T i else -1) ∧ (if F_sgn (T i) = true then T i else -1) ≤ -1) ∨ _
          by_cases c4 : F_sgn (T i) = true
          · have h := of_decide_eq_true c4
            simp only [c4, if_true]
            omega
          · simp only [c4]
            exact Or.inl (by show -10 ≤ (if false = true then T i else -1) ∧ (if false = true then T i else -1) ≤ (-1 : Int); rw [if_neg (by decide)]; omega)
theorem L_end {T : Nat → Int} {n : Nat} : L_t T n n = -2 := by
  unfold L_t L_i
  rw [Nat.sub_self, F_wh]
  unfold R_tk
  rw [if_pos (Nat.le_refl n)]
/-- the reader z holds the token behind a, without a fault -/
def q_tok (T : Nat → Int) (n : Nat) (z : q_Z) (a : Nat) : Prop := z.2.1 = L_t T n a ∧ ((L_t T n a = -3 ∨ L_t T n a = -4) → z.2.2.1 = L_v T n a) ∧ z.2.2.2.1 = L_i T n a ∧ z.2.2.2.2.1 = L_b T n a ∧ z.2.2.2.2.2.1 = -1
theorem R_nx_tk {T : Nat → Int} {n a : Nat} {z : q_Z} (h : q_tok T n z a) : q_tok T n (R_nx T n z) (L_b T n a) ∧ (R_nx T n z).1 = z.1 ∧ (R_nx T n z).2.2.2.2.2.2 = z.2.2.2.2.2.2 := by
  obtain ⟨cn, tok, val, fr, bh, ft, C⟩ := z
  obtain ⟨h1, h2, h3, h4, h5⟩ := h
  simp only at h1 h2 h3 h4 h5
  subst h4
  subst h5
  unfold R_nx
  simp only [Int.toNat_natCast]
  rw [if_neg (by omega)]
  have e := R_tk_any (T := T) (n := n) (i := F_wh F_blk T (n - L_b T n a) (L_b T n a)) (v := val) (v' := 0)
  refine ⟨⟨e.1, fun hz => e.2.1 (by rw [e.1]; exact hz), rfl, ?_, rfl⟩, rfl, rfl⟩
  show (((R_tk T n _ val).2.2 : Nat) : Int) = ((L_b T n (L_b T n a) : Nat) : Int)
  rw [e.2.2]
  rfl
/-- with a fault nothing is read any more -/
def q_fs (z : q_Z) : Prop := 0 ≤ z.2.2.2.2.2.1 ∧ z.2.1 = -1
theorem R_fl_fs {z : q_Z} (h : q_fs z) : q_fs (R_fl z) ∧ (R_fl z).2.2.2.2.2.1 = z.2.2.2.2.2.1 := by
  have e : (R_fl z).2.2.2.2.2.1 = z.2.2.2.2.2.1 := if_neg (by have := h.1; omega)
  exact ⟨⟨by rw [e]; exact h.1, rfl⟩, e⟩
theorem R_fl_tk {T : Nat → Int} {n a : Nat} {z : q_Z} (h : q_tok T n z a) : q_fs (R_fl z) ∧ (R_fl z).2.2.2.2.2.1 = L_i T n a := by
  have e : (R_fl z).2.2.2.2.2.1 = L_i T n a := by
    show (if z.2.2.2.2.2.1 < 0 then z.2.2.2.1 else z.2.2.2.2.2.1) = _
    rw [h.2.2.2.2, if_pos (by omega)]
    exact h.2.2.1
  exact ⟨⟨by rw [e]; omega, rfl⟩, e⟩
theorem R_em_fs {o v : Int} {z : q_Z} (h : q_fs z) : q_fs (R_em o v z) ∧ (R_em o v z).2.2.2.2.2.1 = z.2.2.2.2.2.1 := by
  unfold R_em
  split
  · exact ⟨h, rfl⟩
  · exact ⟨h, rfl⟩
theorem R_ex_fs {T : Nat → Int} {n : Nat} {w : Int} {z : q_Z} (hw : w ≠ -1) (h : q_fs z) : q_fs (R_ex T n w z) ∧ (R_ex T n w z).2.2.2.2.2.1 = z.2.2.2.2.2.1 := by
  unfold R_ex
  rw [if_neg (by rw [h.2]; omega)]
  exact R_fl_fs h
/-- what the class's code means to the model -/
def K_c (x : Int) : Int := if x % 16 = 1 then 100000 + x / 16 else if x % 16 = 2 then x / 16 else if x % 16 = 3 then 19 else if x % 16 = 4 then 13 else if x % 16 = 5 then 18 else if x % 16 = 6 then 16 else if x % 16 = 7 then 17 else if x % 16 = 8 then 14 else if x % 16 = 9 then 15 else if x % 16 = 10 then 12 else if x % 16 = 11 then 11 else -7
/-- the code from b on, as the model has it -/
def K_o (b : Nat) (z : q_Z) : List Int := (List.range (z.1.toNat - b)).map (fun i => K_c (z.2.2.2.2.2.2 (b + i)))
theorem K_same {b : Nat} {z z' : q_Z} (h1 : z'.1 = z.1) (h2 : z'.2.2.2.2.2.2 = z.2.2.2.2.2.2) : K_o b z' = K_o b z := by
  unfold K_o
  rw [h1, h2]
theorem R_em_tk {T : Nat → Int} {n a b : Nat} {z : q_Z} {o v : Int} (h : q_tok T n z a) (hb : (b : Int) ≤ z.1) (hc : z.1 < 160) (hv : 0 ≤ v ∧ v ≤ 9999) (ho : 0 ≤ o ∧ o ≤ 15) : q_tok T n (R_em o v z) a ∧ (R_em o v z).1 = z.1 + 1 ∧ (∀ i : Nat, (i : Int) < z.1 → (R_em o v z).2.2.2.2.2.2 i = z.2.2.2.2.2.2 i) ∧ K_o b (R_em o v z) = K_o b z ++ [K_c (16 * v + o)] := by
  obtain ⟨cn, tok, val, fr, bh, ft, C⟩ := z
  simp only at hb hc
  unfold R_em
  simp only
  rw [if_pos hc]
  refine ⟨h, rfl, fun i hi => ?_, ?_⟩
  · have hi : (i : Int) < cn := hi
    exact if_neg (by omega)
  · unfold K_o
    simp only
    obtain ⟨k, hk⟩ : ∃ k : Nat, cn = b + k := ⟨(cn - b).toNat, by omega⟩
    have e1 : (cn + 1).toNat - b = k + 1 := by omega
    have e2 : cn.toNat - b = k := by omega
    have e3 : cn.toNat = b + k := by omega
    rw [e1, e2, e3, List.range_succ, List.map_append]
    congr 1
    · apply List.map_congr_left
      intro i hi
      have hi := List.mem_range.mp hi
      show K_c (F_u C (b + k) _ (b + i)) = _
      unfold F_u
      rw [if_neg (by omega)]
    · show [K_c (F_u C (b + k) _ (b + k))] = _
      unfold F_u
      rw [if_pos rfl, q_code hv.1 (by omega) ho.1 (by omega)]
end
