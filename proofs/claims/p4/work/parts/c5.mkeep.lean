/-! THE MODEL: a year; what is thought is laid back -/
def q_mz (M M2 : q_M) : Prop := ∀ a i, a ≠ 116 → a ≠ 117 → (a = 104 → 15 ≤ i) → (a = 103 → 20 ≤ i) → (a = 100 → i ≠ 5) → M2 a i = M a i
theorem q_mz_rf {M : q_M} : q_mz M M := fun _ _ _ _ _ _ _ => rfl
theorem q_mz_tr {M M2 M3 : q_M} (h : q_mz M M2) (h2 : q_mz M2 M3) : q_mz M M3 := fun a i h3 h4 h5 h6 h7 => (h2 a i h3 h4 h5 h6 h7).trans (h a i h3 h4 h5 h6 h7)
set_option maxHeartbeats 4000000 in
theorem mp_year {V : Nat → (Nat → Int) → Int} {d : Nat} {g : q_G} {M : q_M} {Q : Option q_V → q_G → q_M → Prop} (hm : q_ml V M) (hy : M 100 5 < 2000) (hq : ∀ M2 : q_M, q_ml V M2 → mW M2 = (G_year V (mW M)).2 → q_mz M M2 → Q (some (qI (G_year V (mW M)).1)) g M2) : q_S 1 (d + 7) 151 [qR 6 100] g M Q := by
  have n0 := hm.1.1
  have y0 := hm.1.2.1
  have hFn : F_n (mW M) = (M 100 0).toNat := rfl
  rw [s_X6_yearOf]
  have loop : ∀ j p : Nat, p + j = (M 100 0).toNat → ∀ M1 : q_M, q_ml V M1 → mW M1 = (G_yr V (mW M) p).2 → q_my M M1 → q_T 1 (d + 7) qP_X6_yearOf 4 [] [qR 6 100, qI (G_yr V (mW M) p).1, qI p] [] g M1 Q := by
    intro j
    induction j with
    | zero =>
      intro p hp M1 m1 w1 f1
      have e : p = (M 100 0).toNat := by omega
      have e0 : M1 100 0 = M 100 0 := f1 _ _ (by omega) (by omega) (by omega) (by omega)
      have e5 : M1 100 5 = M 100 5 := f1 _ _ (by omega) (by omega) (by omega) (by omega)
      have hq2 := hq (q_upd M1 100 5 (M 100 5 + 1)) (q_ml_up m1 (q_ok9 (by omega)) (by omega) (by omega) (by omega))
      unfold G_year at hq2
      rw [hFn, ← e, mW_91] at hq2
      rw [b_X6_yearOf_4]
      simp (disch := omega) only [b_X6_yearOf_0, x_iconst, x_storeI_1, x_storeI_2, x_loadI_2, x_loadR_0, x_loadS_0, f_6_0, y_ic_ge_t, y_ic_ge_f, b_X6_yearOf_12, f_6_4, x_imul, x_iadd, y_iald_35, y_ic_ne_t, y_ic_ne_f, b_X6_yearOf_26, x_loadI_1, y_if_eq_t, y_if_eq_f, b_X6_yearOf_35, x_ishl, x_goto, b_X6_yearOf_41, b_X6_yearOf_42, x_ior, b_X6_yearOf_44, x_iinc_2, b_X6_yearOf_50, x_dupI, x_dupR, f_6_5, p_6_5, x_ret0, q_isL_I, q_isL_R, q_isL_S, true_and, and_true, and_self, List.length_nil, List.length_cons, Nat.zero_add, x_K, x_Kn, Int.reduceToNat, Nat.reduceAdd, Nat.reduceMul, Nat.reduceLeDiff, Nat.reduceLT, Nat.zero_le, Int.reduceAdd, Int.reduceSub, Int.reduceMul, Int.reduceNeg, q_add_e, q_sub_e, q_mul_e, q_neg_e, q_upd_s, q_upd_n, zr_shr0, zr_shr1, zr_shr2, zr_shr3, zr_shr4, zr_and, zr_dyn8, zr_or, zr_shl, q_cpy_n, y_cpy26, e5]
      refine hq2 (by rw [mW_up9, w1]) (fun a i h1 h2 h3 h4 h5 => ?_)
      rw [q_upd_n (by omega)]
      exact f1 a i h1 h2 h3 h4
    | succ j ih =>
      intro p hp M1 m1 w1 f1
      have e0 : M1 100 0 = M 100 0 := f1 _ _ (by omega) (by omega) (by omega) (by omega)
      have hp1 : p < (M1 100 0).toNat := by rw [e0]; omega
      have ih2 := ih (p + 1) (by omega)
      rw [G_yr] at ih2
      have hin : mW M1 4 p = mIn M1 p := mW_4 hp1
      have rin := m1.1.2.2.2.2.2.2.1 p (by omega)
      generalize G_yr V (mW M) p = R at w1 ih2 ⊢
      rw [← w1, hin] at ih2
      rw [b_X6_yearOf_4]
      by_cases c : M1 104 (3 * p + 2) = -1
      · rw [if_pos (show mIn M1 p = 5 from if_pos c)] at ih2
        have turn : ∀ (nx : Nat) (ops : List Instr) (ls st : List q_V), (∀ M2 : q_M, q_ml V M2 → mW M2 = (G_turn V (mW M1) p).2 → q_my M1 M2 → q_T 1 (d + 7) qP_X6_yearOf nx ops ls (qI (if (G_turn V (mW M1) p).1 = true then 1 else 0) :: st) g M2 Q) → q_S 1 (d + 6) 150 [qR 6 100, qI p] g M1 (q_K 1 (d + 7) qP_X6_yearOf nx ops ls st Q) := fun nx ops ls st h => mp_turn m1 hp1 c h
        simp (disch := omega) only [b_X6_yearOf_0, x_iconst, x_storeI_1, x_storeI_2, x_loadI_2, x_loadR_0, x_loadS_0, f_6_0, y_ic_ge_t, y_ic_ge_f, b_X6_yearOf_12, f_6_4, x_imul, x_iadd, y_iald_35, y_ic_ne_t, y_ic_ne_f, b_X6_yearOf_26, x_loadI_1, y_if_eq_t, y_if_eq_f, b_X6_yearOf_35, x_ishl, x_goto, b_X6_yearOf_41, b_X6_yearOf_42, x_ior, b_X6_yearOf_44, x_iinc_2, b_X6_yearOf_50, x_dupI, x_dupR, f_6_5, p_6_5, x_ret0, q_isL_I, q_isL_R, q_isL_S, true_and, and_true, and_self, List.length_nil, List.length_cons, Nat.zero_add, x_K, x_Kn, Int.reduceToNat, Nat.reduceAdd, Nat.reduceMul, Nat.reduceLeDiff, Nat.reduceLT, Nat.zero_le, Int.reduceAdd, Int.reduceSub, Int.reduceMul, Int.reduceNeg, q_add_e, q_sub_e, q_mul_e, q_neg_e, q_upd_s, q_upd_n, zr_shr0, zr_shr1, zr_shr2, zr_shr3, zr_shr4, zr_and, zr_dyn8, zr_or, zr_shl, q_cpy_n, y_cpy26, Int.toNat_natCast, tn_32, c_X6_turnOf]
        refine turn _ _ _ _ (fun M2 m2 w2 f2 => ?_)
        by_cases c2 : (G_turn V (mW M1) p).1 = true
        · rw [if_pos c2] at ih2
          simp (disch := omega) only [b_X6_yearOf_0, x_iconst, x_storeI_1, x_storeI_2, x_loadI_2, x_loadR_0, x_loadS_0, f_6_0, y_ic_ge_t, y_ic_ge_f, b_X6_yearOf_12, f_6_4, x_imul, x_iadd, y_iald_35, y_ic_ne_t, y_ic_ne_f, b_X6_yearOf_26, x_loadI_1, y_if_eq_t, y_if_eq_f, b_X6_yearOf_35, x_ishl, x_goto, b_X6_yearOf_41, b_X6_yearOf_42, x_ior, b_X6_yearOf_44, x_iinc_2, b_X6_yearOf_50, x_dupI, x_dupR, f_6_5, p_6_5, x_ret0, q_isL_I, q_isL_R, q_isL_S, true_and, and_true, and_self, List.length_nil, List.length_cons, Nat.zero_add, x_K, x_Kn, Int.reduceToNat, Nat.reduceAdd, Nat.reduceMul, Nat.reduceLeDiff, Nat.reduceLT, Nat.zero_le, Int.reduceAdd, Int.reduceSub, Int.reduceMul, Int.reduceNeg, q_add_e, q_sub_e, q_mul_e, q_neg_e, q_upd_s, q_upd_n, zr_shr0, zr_shr1, zr_shr2, zr_shr3, zr_shr4, zr_and, zr_dyn8, zr_or, zr_shl, q_cpy_n, y_cpy26, c2, if_true]
          exact ih2 M2 m2 w2 (q_my_tr f1 f2)
        · rw [if_neg c2] at ih2
          simp (disch := omega) only [b_X6_yearOf_0, x_iconst, x_storeI_1, x_storeI_2, x_loadI_2, x_loadR_0, x_loadS_0, f_6_0, y_ic_ge_t, y_ic_ge_f, b_X6_yearOf_12, f_6_4, x_imul, x_iadd, y_iald_35, y_ic_ne_t, y_ic_ne_f, b_X6_yearOf_26, x_loadI_1, y_if_eq_t, y_if_eq_f, b_X6_yearOf_35, x_ishl, x_goto, b_X6_yearOf_41, b_X6_yearOf_42, x_ior, b_X6_yearOf_44, x_iinc_2, b_X6_yearOf_50, x_dupI, x_dupR, f_6_5, p_6_5, x_ret0, q_isL_I, q_isL_R, q_isL_S, true_and, and_true, and_self, List.length_nil, List.length_cons, Nat.zero_add, x_K, x_Kn, Int.reduceToNat, Nat.reduceAdd, Nat.reduceMul, Nat.reduceLeDiff, Nat.reduceLT, Nat.zero_le, Int.reduceAdd, Int.reduceSub, Int.reduceMul, Int.reduceNeg, q_add_e, q_sub_e, q_mul_e, q_neg_e, q_upd_s, q_upd_n, zr_shr0, zr_shr1, zr_shr2, zr_shr3, zr_shr4, zr_and, zr_dyn8, zr_or, zr_shl, q_cpy_n, y_cpy26, c2, Bool.false_eq_true, if_false]
          exact ih2 M2 m2 w2 (q_my_tr f1 f2)
      · rw [if_neg (show ¬mIn M1 p = 5 by unfold mIn; rw [if_neg c]; omega)] at ih2
        simp (disch := omega) only [b_X6_yearOf_0, x_iconst, x_storeI_1, x_storeI_2, x_loadI_2, x_loadR_0, x_loadS_0, f_6_0, y_ic_ge_t, y_ic_ge_f, b_X6_yearOf_12, f_6_4, x_imul, x_iadd, y_iald_35, y_ic_ne_t, y_ic_ne_f, b_X6_yearOf_26, x_loadI_1, y_if_eq_t, y_if_eq_f, b_X6_yearOf_35, x_ishl, x_goto, b_X6_yearOf_41, b_X6_yearOf_42, x_ior, b_X6_yearOf_44, x_iinc_2, b_X6_yearOf_50, x_dupI, x_dupR, f_6_5, p_6_5, x_ret0, q_isL_I, q_isL_R, q_isL_S, true_and, and_true, and_self, List.length_nil, List.length_cons, Nat.zero_add, x_K, x_Kn, Int.reduceToNat, Nat.reduceAdd, Nat.reduceMul, Nat.reduceLeDiff, Nat.reduceLT, Nat.zero_le, Int.reduceAdd, Int.reduceSub, Int.reduceMul, Int.reduceNeg, q_add_e, q_sub_e, q_mul_e, q_neg_e, q_upd_s, q_upd_n, zr_shr0, zr_shr1, zr_shr2, zr_shr3, zr_shr4, zr_and, zr_dyn8, zr_or, zr_shl, q_cpy_n, y_cpy26, Int.toNat_natCast, tn_32]
        exact ih2 M1 m1 w1 f1
  simp (disch := omega) only [b_X6_yearOf_0, x_iconst, x_storeI_1, x_storeI_2, x_loadI_2, x_loadR_0, x_loadS_0, f_6_0, y_ic_ge_t, y_ic_ge_f, b_X6_yearOf_12, f_6_4, x_imul, x_iadd, y_iald_35, y_ic_ne_t, y_ic_ne_f, b_X6_yearOf_26, x_loadI_1, y_if_eq_t, y_if_eq_f, b_X6_yearOf_35, x_ishl, x_goto, b_X6_yearOf_41, b_X6_yearOf_42, x_ior, b_X6_yearOf_44, x_iinc_2, b_X6_yearOf_50, x_dupI, x_dupR, f_6_5, p_6_5, x_ret0, q_isL_I, q_isL_R, q_isL_S, true_and, and_true, and_self, List.length_nil, List.length_cons, Nat.zero_add, x_K, x_Kn, Int.reduceToNat, Nat.reduceAdd, Nat.reduceMul, Nat.reduceLeDiff, Nat.reduceLT, Nat.zero_le, Int.reduceAdd, Int.reduceSub, Int.reduceMul, Int.reduceNeg, q_add_e, q_sub_e, q_mul_e, q_neg_e, q_upd_s, q_upd_n, zr_shr0, zr_shr1, zr_shr2, zr_shr3, zr_shr4, zr_and, zr_dyn8, zr_or, zr_shl, q_cpy_n, y_cpy26]
  exact loop (M 100 0).toNat 0 (by omega) M hm rfl q_my_rf
/-- the cells that hold what is laid back -/
def q_kp (M M2 : q_M) : Prop := (∀ i, i < 15 → M2 118 i = M 104 i) ∧ (∀ i, i < 20 → M2 118 (15 + i) = M 103 i) ∧ M2 118 35 = M 100 5
/-- a thought on M, all but its own cells as before -/
def q_mt (M M2 : q_M) : Prop := q_kp M M2 ∧ ∀ a i, (a < 116 ∨ 124 ≤ a) → (a = 104 → 15 ≤ i) → (a = 103 → 20 ≤ i) → (a = 100 → i ≠ 5 ∧ i ≠ 36) → M2 a i = M a i
theorem q_mt_mz {M M2 M3 : q_M} (h : q_mt M M2) (h2 : q_mz M2 M3) : q_mt M M3 := by
  obtain ⟨⟨k1, k2, k3⟩, h3⟩ := h
  refine ⟨⟨fun i hi => (h2 118 i (by omega) (by omega) (by omega) (by omega) (by omega)).trans (k1 i hi), fun i hi => (h2 118 _ (by omega) (by omega) (by omega) (by omega) (by omega)).trans (k2 i hi), (h2 118 35 (by omega) (by omega) (by omega) (by omega) (by omega)).trans k3⟩, fun a i q1 q2 q3 q4 => (h2 a i (by omega) (by omega) q2 q3 (fun e => (q4 e).1)).trans (h3 a i q1 q2 q3 q4)⟩
/-- what a question leaves in the model -/
def q_mq (M M2 : q_M) : Prop := ∀ a i, (a < 116 ∨ 124 ≤ a) → (a = 100 → i ≠ 36) → M2 a i = M a i
theorem q_mq_rf {M : q_M} : q_mq M M := fun _ _ _ _ => rfl
theorem q_mq_tr {M M2 M3 : q_M} (h : q_mq M M2) (h2 : q_mq M2 M3) : q_mq M M3 := fun a i h3 h4 => (h2 a i h3 h4).trans (h a i h3 h4)
theorem q_mq_mf {M M2 : q_M} (h : q_mf M M2) : q_mq M M2 := fun a i h1 _ => h a i (by omega) (by omega)
theorem q_mq_ml {V : Nat → (Nat → Int) → Int} {M M2 : q_M} (h : q_mq M M2) (hm : q_ml V M) : q_ml V M2 := q_ml_same (fun a i ha => h a i (by omega) (by omega)) hm
theorem q_mq_mW {M M2 : q_M} (h : q_mq M M2) : mW M2 = mW M := mW_same (fun a i ha => h a i (by omega) (by omega))
set_option maxHeartbeats 4000000 in
theorem mp_keeps {d : Nat} {g : q_G} {M M0 : q_M} {Q : Option q_V → q_G → q_M → Prop} (h0 : q_mq M0 M) (hq : ∀ M2 : q_M, q_mt M0 M2 → q_mq M M2 → Q none g M2) : q_S 1 d 154 [qR 6 100] g M Q := by
  rw [s_X6_keeps]
  have l2 : ∀ j k : Nat, k + j = 20 → ∀ M1 : q_M, (∀ a i, a ≠ 118 → M1 a i = M a i) → (∀ i, i < 15 → M1 118 i = M 104 i) → (∀ i, i < k → M1 118 (15 + i) = M 103 i) → q_T 1 d qP_X6_keeps 28 [] [qR 6 100, qI k] [] g M1 Q := by
    intro j
    induction j with
    | zero =>
      intro k hk M1 f1 a1 a2
      have e : k = 20 := by omega
      subst e
      rw [b_X6_keeps_28]
      simp (disch := omega) only [b_X6_keeps_0, x_iconst, x_storeI_1, x_loadI_1, y_ic_ge_t, y_ic_ge_f, b_X6_keeps_8, x_loadR_0, x_loadS_0, f_6_30, f_6_4, y_iald_35, y_iald_40, y_iald_56, y_iast_35, y_iast_40, y_iast_56, x_iinc_1, x_goto, b_X6_keeps_26, b_X6_keeps_34, x_iadd, f_6_3, b_X6_keeps_55, f_6_5, x_vret, q_isL_I, q_isL_R, q_isL_S, true_and, and_true, and_self, List.length_nil, List.length_cons, Nat.zero_add, x_K, x_Kn, Int.reduceToNat, Nat.reduceAdd, Nat.reduceMul, Nat.reduceLeDiff, Nat.reduceLT, Nat.zero_le, Int.reduceAdd, Int.reduceSub, Int.reduceMul, Int.reduceNeg, q_add_e, q_sub_e, q_mul_e, q_neg_e, q_upd_s, q_upd_n, zr_shr0, zr_shr1, zr_shr2, zr_shr3, zr_shr4, zr_and, zr_dyn8, zr_or, zr_shl, q_cpy_n, y_cpy26]
      have f2 : ∀ a i, a ≠ 118 → q_upd M1 118 35 (M1 100 5) a i = M a i := fun a i ha => (q_upd_n (by omega)).trans (f1 a i ha)
      refine hq _ ⟨⟨fun i hi => ?_, fun i hi => ?_, ?_⟩, fun a i q1 q2 q3 q4 => (f2 a i (by omega)).trans (h0 a i q1 (fun e => (q4 e).2))⟩ (fun a i q1 q2 => f2 a i (by omega))
      · rw [q_upd_n (by omega), a1 i hi]
        exact h0 104 i (by omega) (by omega)
      · rw [q_upd_n (by omega), a2 i hi]
        exact h0 103 i (by omega) (by omega)
      · rw [q_upd_s, f1 100 5 (by omega)]
        exact h0 100 5 (by omega) (by omega)
    | succ j ih =>
      intro k hk M1 f1 a1 a2
      have t1 : ((15 : Int) + k).toNat = 15 + k := by omega
      rw [b_X6_keeps_28]
      simp (disch := omega) only [b_X6_keeps_0, x_iconst, x_storeI_1, x_loadI_1, y_ic_ge_t, y_ic_ge_f, b_X6_keeps_8, x_loadR_0, x_loadS_0, f_6_30, f_6_4, y_iald_35, y_iald_40, y_iald_56, y_iast_35, y_iast_40, y_iast_56, x_iinc_1, x_goto, b_X6_keeps_26, b_X6_keeps_34, x_iadd, f_6_3, b_X6_keeps_55, f_6_5, x_vret, q_isL_I, q_isL_R, q_isL_S, true_and, and_true, and_self, List.length_nil, List.length_cons, Nat.zero_add, x_K, x_Kn, Int.reduceToNat, Nat.reduceAdd, Nat.reduceMul, Nat.reduceLeDiff, Nat.reduceLT, Nat.zero_le, Int.reduceAdd, Int.reduceSub, Int.reduceMul, Int.reduceNeg, q_add_e, q_sub_e, q_mul_e, q_neg_e, q_upd_s, q_upd_n, zr_shr0, zr_shr1, zr_shr2, zr_shr3, zr_shr4, zr_and, zr_dyn8, zr_or, zr_shl, q_cpy_n, y_cpy26, Int.toNat_natCast, t1]
      refine ih (k + 1) (by omega) _ (fun a i ha => (q_upd_n (by omega)).trans (f1 a i ha)) (fun i hi => (q_upd_n (by omega)).trans (a1 i hi)) (fun i hi => ?_)
      by_cases e : i = k
      · subst e
        rw [q_upd_s]
        exact f1 103 i (by omega)
      · rw [q_upd_n (by omega)]
        exact a2 i (by omega)
  have l1 : ∀ j k : Nat, k + j = 15 → ∀ M1 : q_M, (∀ a i, a ≠ 118 → M1 a i = M a i) → (∀ i, i < k → M1 118 i = M 104 i) → q_T 1 d qP_X6_keeps 2 [] [qR 6 100, qI k] [] g M1 Q := by
    intro j
    induction j with
    | zero =>
      intro k hk M1 f1 a1
      have e : k = 15 := by omega
      subst e
      rw [b_X6_keeps_2]
      simp (disch := omega) only [b_X6_keeps_0, x_iconst, x_storeI_1, x_loadI_1, y_ic_ge_t, y_ic_ge_f, b_X6_keeps_8, x_loadR_0, x_loadS_0, f_6_30, f_6_4, y_iald_35, y_iald_40, y_iald_56, y_iast_35, y_iast_40, y_iast_56, x_iinc_1, x_goto, b_X6_keeps_26, b_X6_keeps_34, x_iadd, f_6_3, b_X6_keeps_55, f_6_5, x_vret, q_isL_I, q_isL_R, q_isL_S, true_and, and_true, and_self, List.length_nil, List.length_cons, Nat.zero_add, x_K, x_Kn, Int.reduceToNat, Nat.reduceAdd, Nat.reduceMul, Nat.reduceLeDiff, Nat.reduceLT, Nat.zero_le, Int.reduceAdd, Int.reduceSub, Int.reduceMul, Int.reduceNeg, q_add_e, q_sub_e, q_mul_e, q_neg_e, q_upd_s, q_upd_n, zr_shr0, zr_shr1, zr_shr2, zr_shr3, zr_shr4, zr_and, zr_dyn8, zr_or, zr_shl, q_cpy_n, y_cpy26]
      exact l2 20 0 rfl M1 f1 a1 (fun i hi => absurd hi (Nat.not_lt_zero i))
    | succ j ih =>
      intro k hk M1 f1 a1
      rw [b_X6_keeps_2]
      simp (disch := omega) only [b_X6_keeps_0, x_iconst, x_storeI_1, x_loadI_1, y_ic_ge_t, y_ic_ge_f, b_X6_keeps_8, x_loadR_0, x_loadS_0, f_6_30, f_6_4, y_iald_35, y_iald_40, y_iald_56, y_iast_35, y_iast_40, y_iast_56, x_iinc_1, x_goto, b_X6_keeps_26, b_X6_keeps_34, x_iadd, f_6_3, b_X6_keeps_55, f_6_5, x_vret, q_isL_I, q_isL_R, q_isL_S, true_and, and_true, and_self, List.length_nil, List.length_cons, Nat.zero_add, x_K, x_Kn, Int.reduceToNat, Nat.reduceAdd, Nat.reduceMul, Nat.reduceLeDiff, Nat.reduceLT, Nat.zero_le, Int.reduceAdd, Int.reduceSub, Int.reduceMul, Int.reduceNeg, q_add_e, q_sub_e, q_mul_e, q_neg_e, q_upd_s, q_upd_n, zr_shr0, zr_shr1, zr_shr2, zr_shr3, zr_shr4, zr_and, zr_dyn8, zr_or, zr_shl, q_cpy_n, y_cpy26, Int.toNat_natCast]
      refine ih (k + 1) (by omega) _ (fun a i ha => (q_upd_n (by omega)).trans (f1 a i ha)) (fun i hi => ?_)
      by_cases e : i = k
      · subst e
        rw [q_upd_s]
        exact f1 104 i (by omega)
      · rw [q_upd_n (by omega)]
        exact a1 i (by omega)
  simp (disch := omega) only [b_X6_keeps_0, x_iconst, x_storeI_1, x_loadI_1, y_ic_ge_t, y_ic_ge_f, b_X6_keeps_8, x_loadR_0, x_loadS_0, f_6_30, f_6_4, y_iald_35, y_iald_40, y_iald_56, y_iast_35, y_iast_40, y_iast_56, x_iinc_1, x_goto, b_X6_keeps_26, b_X6_keeps_34, x_iadd, f_6_3, b_X6_keeps_55, f_6_5, x_vret, q_isL_I, q_isL_R, q_isL_S, true_and, and_true, and_self, List.length_nil, List.length_cons, Nat.zero_add, x_K, x_Kn, Int.reduceToNat, Nat.reduceAdd, Nat.reduceMul, Nat.reduceLeDiff, Nat.reduceLT, Nat.zero_le, Int.reduceAdd, Int.reduceSub, Int.reduceMul, Int.reduceNeg, q_add_e, q_sub_e, q_mul_e, q_neg_e, q_upd_s, q_upd_n, zr_shr0, zr_shr1, zr_shr2, zr_shr3, zr_shr4, zr_and, zr_dyn8, zr_or, zr_shl, q_cpy_n, y_cpy26]
  exact l1 15 0 rfl M (fun _ _ _ => rfl) (fun i hi => absurd hi (Nat.not_lt_zero i))
set_option maxHeartbeats 4000000 in
theorem mp_lays {d : Nat} {g : q_G} {M M0 : q_M} {Q : Option q_V → q_G → q_M → Prop} (ht : q_mt M0 M) (hq : ∀ M2 : q_M, q_mq M0 M2 → (M2 100 36 = M 100 36) → (∀ i, M2 118 i = M 118 i) → Q none g M2) : q_S 1 d 155 [qR 6 100] g M Q := by
  obtain ⟨⟨k1, k2, k3⟩, h3⟩ := ht
  rw [s_X6_lays]
  have l2 : ∀ j k : Nat, k + j = 20 → ∀ M1 : q_M, (∀ a i, (a = 104 → 15 ≤ i) → (a = 103 → 20 ≤ i) → M1 a i = M a i) → (∀ i, i < 15 → M1 104 i = M0 104 i) → (∀ i, i < k → M1 103 i = M0 103 i) → q_T 1 d qP_X6_lays 28 [] [qR 6 100, qI k] [] g M1 Q := by
    intro j
    induction j with
    | zero =>
      intro k hk M1 f1 a1 a2
      have e : k = 20 := by omega
      subst e
      have e35 : M1 118 35 = M0 100 5 := (f1 118 35 (by omega) (by omega)).trans k3
      rw [b_X6_lays_28]
      simp (disch := omega) only [b_X6_lays_0, x_iconst, x_storeI_1, x_loadI_1, y_ic_ge_t, y_ic_ge_f, b_X6_lays_8, x_loadR_0, x_loadS_0, f_6_4, f_6_30, y_iald_35, y_iald_40, y_iald_56, y_iast_35, y_iast_40, y_iast_56, x_iinc_1, x_goto, b_X6_lays_26, b_X6_lays_34, f_6_3, x_iadd, b_X6_lays_55, p_6_5, x_vret, q_isL_I, q_isL_R, q_isL_S, true_and, and_true, and_self, List.length_nil, List.length_cons, Nat.zero_add, x_K, x_Kn, Int.reduceToNat, Nat.reduceAdd, Nat.reduceMul, Nat.reduceLeDiff, Nat.reduceLT, Nat.zero_le, Int.reduceAdd, Int.reduceSub, Int.reduceMul, Int.reduceNeg, q_add_e, q_sub_e, q_mul_e, q_neg_e, q_upd_s, q_upd_n, zr_shr0, zr_shr1, zr_shr2, zr_shr3, zr_shr4, zr_and, zr_dyn8, zr_or, zr_shl, q_cpy_n, y_cpy26, e35]
      refine hq _ (fun a i q1 q2 => ?_) ?_ (fun i => (q_upd_n (by omega)).trans (f1 118 i (by omega) (by omega)))
      · by_cases c : a = 100 ∧ i = 5
        · obtain ⟨rfl, rfl⟩ := c
          exact q_upd_s
        · rw [q_upd_n (by omega)]
          by_cases c1 : a = 104 ∧ i < 15
          · rw [c1.1]
            exact a1 i c1.2
          · by_cases c2 : a = 103 ∧ i < 20
            · rw [c2.1]
              exact a2 i c2.2
            · exact (f1 a i (by omega) (by omega)).trans (h3 a i q1 (by omega) (by omega) (by omega))
      · rw [q_upd_n (by omega)]
        exact f1 100 36 (by omega) (by omega)
    | succ j ih =>
      intro k hk M1 f1 a1 a2
      have t1 : ((15 : Int) + k).toNat = 15 + k := by omega
      have e1 : M1 118 (15 + k) = M0 103 k := (f1 118 _ (by omega) (by omega)).trans (k2 k (by omega))
      rw [b_X6_lays_28]
      simp (disch := omega) only [b_X6_lays_0, x_iconst, x_storeI_1, x_loadI_1, y_ic_ge_t, y_ic_ge_f, b_X6_lays_8, x_loadR_0, x_loadS_0, f_6_4, f_6_30, y_iald_35, y_iald_40, y_iald_56, y_iast_35, y_iast_40, y_iast_56, x_iinc_1, x_goto, b_X6_lays_26, b_X6_lays_34, f_6_3, x_iadd, b_X6_lays_55, p_6_5, x_vret, q_isL_I, q_isL_R, q_isL_S, true_and, and_true, and_self, List.length_nil, List.length_cons, Nat.zero_add, x_K, x_Kn, Int.reduceToNat, Nat.reduceAdd, Nat.reduceMul, Nat.reduceLeDiff, Nat.reduceLT, Nat.zero_le, Int.reduceAdd, Int.reduceSub, Int.reduceMul, Int.reduceNeg, q_add_e, q_sub_e, q_mul_e, q_neg_e, q_upd_s, q_upd_n, zr_shr0, zr_shr1, zr_shr2, zr_shr3, zr_shr4, zr_and, zr_dyn8, zr_or, zr_shl, q_cpy_n, y_cpy26, Int.toNat_natCast, t1, e1]
      refine ih (k + 1) (by omega) _ (fun a i q1 q2 => (q_upd_n (by omega)).trans (f1 a i q1 q2)) (fun i hi => (q_upd_n (by omega)).trans (a1 i hi)) (fun i hi => ?_)
      by_cases e : i = k
      · subst e
        exact q_upd_s
      · rw [q_upd_n (by omega)]
        exact a2 i (by omega)
  have l1 : ∀ j k : Nat, k + j = 15 → ∀ M1 : q_M, (∀ a i, (a = 104 → 15 ≤ i) → M1 a i = M a i) → (∀ i, i < k → M1 104 i = M0 104 i) → q_T 1 d qP_X6_lays 2 [] [qR 6 100, qI k] [] g M1 Q := by
    intro j
    induction j with
    | zero =>
      intro k hk M1 f1 a1
      have e : k = 15 := by omega
      subst e
      rw [b_X6_lays_2]
      simp (disch := omega) only [b_X6_lays_0, x_iconst, x_storeI_1, x_loadI_1, y_ic_ge_t, y_ic_ge_f, b_X6_lays_8, x_loadR_0, x_loadS_0, f_6_4, f_6_30, y_iald_35, y_iald_40, y_iald_56, y_iast_35, y_iast_40, y_iast_56, x_iinc_1, x_goto, b_X6_lays_26, b_X6_lays_34, f_6_3, x_iadd, b_X6_lays_55, p_6_5, x_vret, q_isL_I, q_isL_R, q_isL_S, true_and, and_true, and_self, List.length_nil, List.length_cons, Nat.zero_add, x_K, x_Kn, Int.reduceToNat, Nat.reduceAdd, Nat.reduceMul, Nat.reduceLeDiff, Nat.reduceLT, Nat.zero_le, Int.reduceAdd, Int.reduceSub, Int.reduceMul, Int.reduceNeg, q_add_e, q_sub_e, q_mul_e, q_neg_e, q_upd_s, q_upd_n, zr_shr0, zr_shr1, zr_shr2, zr_shr3, zr_shr4, zr_and, zr_dyn8, zr_or, zr_shl, q_cpy_n, y_cpy26]
      exact l2 20 0 rfl M1 (fun a i q1 q2 => f1 a i q1) a1 (fun i hi => absurd hi (Nat.not_lt_zero i))
    | succ j ih =>
      intro k hk M1 f1 a1
      have e1 : M1 118 k = M0 104 k := (f1 118 _ (by omega)).trans (k1 k (by omega))
      rw [b_X6_lays_2]
      simp (disch := omega) only [b_X6_lays_0, x_iconst, x_storeI_1, x_loadI_1, y_ic_ge_t, y_ic_ge_f, b_X6_lays_8, x_loadR_0, x_loadS_0, f_6_4, f_6_30, y_iald_35, y_iald_40, y_iald_56, y_iast_35, y_iast_40, y_iast_56, x_iinc_1, x_goto, b_X6_lays_26, b_X6_lays_34, f_6_3, x_iadd, b_X6_lays_55, p_6_5, x_vret, q_isL_I, q_isL_R, q_isL_S, true_and, and_true, and_self, List.length_nil, List.length_cons, Nat.zero_add, x_K, x_Kn, Int.reduceToNat, Nat.reduceAdd, Nat.reduceMul, Nat.reduceLeDiff, Nat.reduceLT, Nat.zero_le, Int.reduceAdd, Int.reduceSub, Int.reduceMul, Int.reduceNeg, q_add_e, q_sub_e, q_mul_e, q_neg_e, q_upd_s, q_upd_n, zr_shr0, zr_shr1, zr_shr2, zr_shr3, zr_shr4, zr_and, zr_dyn8, zr_or, zr_shl, q_cpy_n, y_cpy26, Int.toNat_natCast, e1]
      refine ih (k + 1) (by omega) _ (fun a i q1 => (q_upd_n (by omega)).trans (f1 a i q1)) (fun i hi => ?_)
      by_cases e : i = k
      · subst e
        exact q_upd_s
      · rw [q_upd_n (by omega)]
        exact a1 i (by omega)
  simp (disch := omega) only [b_X6_lays_0, x_iconst, x_storeI_1, x_loadI_1, y_ic_ge_t, y_ic_ge_f, b_X6_lays_8, x_loadR_0, x_loadS_0, f_6_4, f_6_30, y_iald_35, y_iald_40, y_iald_56, y_iast_35, y_iast_40, y_iast_56, x_iinc_1, x_goto, b_X6_lays_26, b_X6_lays_34, f_6_3, x_iadd, b_X6_lays_55, p_6_5, x_vret, q_isL_I, q_isL_R, q_isL_S, true_and, and_true, and_self, List.length_nil, List.length_cons, Nat.zero_add, x_K, x_Kn, Int.reduceToNat, Nat.reduceAdd, Nat.reduceMul, Nat.reduceLeDiff, Nat.reduceLT, Nat.zero_le, Int.reduceAdd, Int.reduceSub, Int.reduceMul, Int.reduceNeg, q_add_e, q_sub_e, q_mul_e, q_neg_e, q_upd_s, q_upd_n, zr_shr0, zr_shr1, zr_shr2, zr_shr3, zr_shr4, zr_and, zr_dyn8, zr_or, zr_shl, q_cpy_n, y_cpy26]
  exact l1 15 0 rfl M (fun _ _ _ => rfl) (fun i hi => absurd hi (Nat.not_lt_zero i))
