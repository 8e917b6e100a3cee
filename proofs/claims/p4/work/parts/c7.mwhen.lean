/-! THE MODEL: when, cart -/
def G_till (V : Nat → (Nat → Int) → Int) (S : q_M) (p : Nat) (b : Int) : Nat → Nat → Int
  | 0, y => if F_hit (G_ys V S y 4 p) b = true then y else -1
  | j + 1, y => if F_hit (G_ys V S y 4 p) b = true then y else G_till V S p b j (y + 1)
set_option maxHeartbeats 4000000 in
theorem mp_whenIn {V : Nat → (Nat → Int) → Int} {d dd : Nat} {g : q_G} {M M1 : q_M} {p : Nat} {b : Int} {P : q_P} {nx : Nat} {ops : List Instr} {ls st : List q_V} {Q : Option q_V → q_G → q_M → Prop} (hm : q_ml V M1) (hy : M1 100 5 ≤ 1500) (hp : p < (M1 100 0).toNat) (hb : b = -1 ∨ (0 ≤ b ∧ b ≤ 4)) (ht : q_mt M M1) (hq : ∀ M2 : q_M, q_mt M M2 → q_T 1 dd P nx ops ls (qI (G_till V (mW M1) p b 60 0) :: st) g M2 Q) : q_S 1 (d + 8) 157 [qR 6 100, qI p, qI b] g M1 (q_K 1 dd P nx ops ls st Q) := by
  have hpush : ∀ (v : Int) (M3 : q_M), q_K 1 dd P nx ops ls st Q (some (qI v)) g M3 = q_T 1 dd P nx ops ls (qI v :: st) g M3 Q := fun _ _ => rfl
  generalize q_K 1 dd P nx ops ls st Q = QQ at hpush ⊢
  have n1 := hm.1.1
  have hp5 : p < 5 := by omega
  rw [s_X6_whenIn]
  have out : ∀ (f : Nat) (k : Int) (l5 : q_V) (M3 : q_M), q_T 1 dd P nx ops ls (qI f :: st) g M3 Q → q_T 1 (d + 8) qP_X6_whenIn 5 [] [qR 6 100, qI p, qI b, qI f, qI k, l5] [] g M3 QQ := by
    intro f k l5 M3 h
    rw [b_X6_whenIn_5]
    by_cases c : 60 < k
    · simp (disch := omega) only [b_X6_whenIn_0, x_iconst, x_storeI_3, x_storeI_4, x_loadI_4, y_ic_gt_t, y_ic_gt_f, b_X6_whenIn_12, x_loadI_3, y_ic_ne_t, y_ic_ne_f, b_X6_whenIn_17, x_loadI_2, b_X6_whenIn_22, x_loadR_0, x_loadS_0, f_6_4, x_loadI_1, x_imul, x_iadd, y_iald_35, y_ic_eq_t, y_ic_eq_f, b_X6_whenIn_36, x_goto, b_X6_whenIn_40, b_X6_whenIn_44, b_X6_whenIn_58, b_X6_whenIn_62, b_X6_whenIn_63, x_storeI_5, x_loadI_5, y_if_eq_t, y_if_eq_f, b_X6_whenIn_70, b_X6_whenIn_75, b_X6_whenIn_76, x_popI, x_popR, x_iinc_4, b_X6_whenIn_88, x_ret0, q_isL_I, q_isL_R, q_isL_S, true_and, and_true, and_self, List.length_nil, List.length_cons, Nat.zero_add, x_K, x_Kn, Int.reduceToNat, Nat.reduceAdd, Nat.reduceMul, Nat.reduceLeDiff, Nat.reduceLT, Nat.zero_le, Int.reduceAdd, Int.reduceSub, Int.reduceMul, Int.reduceNeg, q_add_e, q_sub_e, q_mul_e, q_neg_e, q_upd_s, q_upd_n, zr_shr0, zr_shr1, zr_shr2, zr_shr3, zr_shr4, zr_and, zr_dyn8, zr_or, zr_shl, q_cpy_n, y_cpy26]
      rw [hpush]
      exact h
    · simp (disch := omega) only [b_X6_whenIn_0, x_iconst, x_storeI_3, x_storeI_4, x_loadI_4, y_ic_gt_t, y_ic_gt_f, b_X6_whenIn_12, x_loadI_3, y_ic_ne_t, y_ic_ne_f, b_X6_whenIn_17, x_loadI_2, b_X6_whenIn_22, x_loadR_0, x_loadS_0, f_6_4, x_loadI_1, x_imul, x_iadd, y_iald_35, y_ic_eq_t, y_ic_eq_f, b_X6_whenIn_36, x_goto, b_X6_whenIn_40, b_X6_whenIn_44, b_X6_whenIn_58, b_X6_whenIn_62, b_X6_whenIn_63, x_storeI_5, x_loadI_5, y_if_eq_t, y_if_eq_f, b_X6_whenIn_70, b_X6_whenIn_75, b_X6_whenIn_76, x_popI, x_popR, x_iinc_4, b_X6_whenIn_88, x_ret0, q_isL_I, q_isL_R, q_isL_S, true_and, and_true, and_self, List.length_nil, List.length_cons, Nat.zero_add, x_K, x_Kn, Int.reduceToNat, Nat.reduceAdd, Nat.reduceMul, Nat.reduceLeDiff, Nat.reduceLT, Nat.zero_le, Int.reduceAdd, Int.reduceSub, Int.reduceMul, Int.reduceNeg, q_add_e, q_sub_e, q_mul_e, q_neg_e, q_upd_s, q_upd_n, zr_shr0, zr_shr1, zr_shr2, zr_shr3, zr_shr4, zr_and, zr_dyn8, zr_or, zr_shl, q_cpy_n, y_cpy26]
      rw [hpush]
      exact h
  have loop : ∀ j k : Nat, k + j = 60 → ∀ (M2 : q_M) (l5 : q_V), q_isL l5 = false → q_ml V M2 → mW M2 = G_ys V (mW M1) k → M2 100 5 + j ≤ 1900 → M2 100 0 = M1 100 0 → q_mt M M2 → (∀ M3 : q_M, q_mt M M3 → q_T 1 dd P nx ops ls (qI (G_till V (mW M1) p b j k) :: st) g M3 Q) → q_T 1 (d + 8) qP_X6_whenIn 5 [] [qR 6 100, qI p, qI b, qI (-1), qI k, l5] [] g M2 QQ := by
    have test : ∀ (k : Nat) (M2 : q_M) (l5 : q_V), k ≤ 60 → q_isL l5 = false → q_ml V M2 → mW M2 = G_ys V (mW M1) k → M2 100 0 = M1 100 0 → q_T 1 (d + 8) qP_X6_whenIn 63 [] [qR 6 100, qI p, qI b, qI (-1), qI k, l5] [qI (if F_hit (G_ys V (mW M1) k 4 p) b = true then 1 else 0)] g M2 QQ → q_T 1 (d + 8) qP_X6_whenIn 5 [] [qR 6 100, qI p, qI b, qI (-1), qI k, l5] [] g M2 QQ := by
      intro k M2 l5 hk hl5 m2 w2 e0 h
      have hin : G_ys V (mW M1) k 4 p = mIn M2 p := by rw [← w2]; exact mW_4 (by rw [e0]; exact hp)
      have r6 := m2.1.2.2.2.2.2.2.1 p hp5
      rw [hin] at h
      rw [b_X6_whenIn_5]
      rcases hb with k1 | k1
      · subst k1
        by_cases c : M2 104 (3 * p + 2) = -1
        · rw [if_neg (show ¬F_hit (mIn M2 p) (-1) = true by
            unfold F_hit mIn
            rw [if_pos c]
            simp)] at h
          simp (disch := omega) only [b_X6_whenIn_0, x_iconst, x_storeI_3, x_storeI_4, x_loadI_4, y_ic_gt_t, y_ic_gt_f, b_X6_whenIn_12, x_loadI_3, y_ic_ne_t, y_ic_ne_f, b_X6_whenIn_17, x_loadI_2, b_X6_whenIn_22, x_loadR_0, x_loadS_0, f_6_4, x_loadI_1, x_imul, x_iadd, y_iald_35, y_ic_eq_t, y_ic_eq_f, b_X6_whenIn_36, x_goto, b_X6_whenIn_40, b_X6_whenIn_44, b_X6_whenIn_58, b_X6_whenIn_62, x_storeI_5, x_loadI_5, y_if_eq_t, y_if_eq_f, b_X6_whenIn_70, b_X6_whenIn_75, b_X6_whenIn_76, x_popI, x_popR, x_iinc_4, b_X6_whenIn_88, x_ret0, q_isL_I, q_isL_R, q_isL_S, true_and, and_true, and_self, List.length_nil, List.length_cons, Nat.zero_add, x_K, x_Kn, Int.reduceToNat, Nat.reduceAdd, Nat.reduceMul, Nat.reduceLeDiff, Nat.reduceLT, Nat.zero_le, Int.reduceAdd, Int.reduceSub, Int.reduceMul, Int.reduceNeg, q_add_e, q_sub_e, q_mul_e, q_neg_e, q_upd_s, q_upd_n, zr_shr0, zr_shr1, zr_shr2, zr_shr3, zr_shr4, zr_and, zr_dyn8, zr_or, zr_shl, q_cpy_n, y_cpy26, Int.toNat_natCast, tn_32]
          exact h
        · rw [if_pos (show F_hit (mIn M2 p) (-1) = true by
            refine decide_eq_true (Or.inl ⟨rfl, ?_⟩)
            unfold mIn
            rw [if_neg c]
            omega)] at h
          simp (disch := omega) only [b_X6_whenIn_0, x_iconst, x_storeI_3, x_storeI_4, x_loadI_4, y_ic_gt_t, y_ic_gt_f, b_X6_whenIn_12, x_loadI_3, y_ic_ne_t, y_ic_ne_f, b_X6_whenIn_17, x_loadI_2, b_X6_whenIn_22, x_loadR_0, x_loadS_0, f_6_4, x_loadI_1, x_imul, x_iadd, y_iald_35, y_ic_eq_t, y_ic_eq_f, b_X6_whenIn_36, x_goto, b_X6_whenIn_40, b_X6_whenIn_44, b_X6_whenIn_58, b_X6_whenIn_62, x_storeI_5, x_loadI_5, y_if_eq_t, y_if_eq_f, b_X6_whenIn_70, b_X6_whenIn_75, b_X6_whenIn_76, x_popI, x_popR, x_iinc_4, b_X6_whenIn_88, x_ret0, q_isL_I, q_isL_R, q_isL_S, true_and, and_true, and_self, List.length_nil, List.length_cons, Nat.zero_add, x_K, x_Kn, Int.reduceToNat, Nat.reduceAdd, Nat.reduceMul, Nat.reduceLeDiff, Nat.reduceLT, Nat.zero_le, Int.reduceAdd, Int.reduceSub, Int.reduceMul, Int.reduceNeg, q_add_e, q_sub_e, q_mul_e, q_neg_e, q_upd_s, q_upd_n, zr_shr0, zr_shr1, zr_shr2, zr_shr3, zr_shr4, zr_and, zr_dyn8, zr_or, zr_shl, q_cpy_n, y_cpy26, Int.toNat_natCast, tn_32]
          exact h
      · by_cases c : M2 104 (3 * p + 2) = b
        · rw [if_pos (show F_hit (mIn M2 p) b = true by
            refine decide_eq_true (Or.inr ⟨by omega, ?_⟩)
            unfold mIn
            rw [if_neg (by omega)]
            exact c)] at h
          simp (disch := omega) only [b_X6_whenIn_0, x_iconst, x_storeI_3, x_storeI_4, x_loadI_4, y_ic_gt_t, y_ic_gt_f, b_X6_whenIn_12, x_loadI_3, y_ic_ne_t, y_ic_ne_f, b_X6_whenIn_17, x_loadI_2, b_X6_whenIn_22, x_loadR_0, x_loadS_0, f_6_4, x_loadI_1, x_imul, x_iadd, y_iald_35, y_ic_eq_t, y_ic_eq_f, b_X6_whenIn_36, x_goto, b_X6_whenIn_40, b_X6_whenIn_44, b_X6_whenIn_58, b_X6_whenIn_62, x_storeI_5, x_loadI_5, y_if_eq_t, y_if_eq_f, b_X6_whenIn_70, b_X6_whenIn_75, b_X6_whenIn_76, x_popI, x_popR, x_iinc_4, b_X6_whenIn_88, x_ret0, q_isL_I, q_isL_R, q_isL_S, true_and, and_true, and_self, List.length_nil, List.length_cons, Nat.zero_add, x_K, x_Kn, Int.reduceToNat, Nat.reduceAdd, Nat.reduceMul, Nat.reduceLeDiff, Nat.reduceLT, Nat.zero_le, Int.reduceAdd, Int.reduceSub, Int.reduceMul, Int.reduceNeg, q_add_e, q_sub_e, q_mul_e, q_neg_e, q_upd_s, q_upd_n, zr_shr0, zr_shr1, zr_shr2, zr_shr3, zr_shr4, zr_and, zr_dyn8, zr_or, zr_shl, q_cpy_n, y_cpy26, Int.toNat_natCast, tn_32]
          exact h
        · rw [if_neg (show ¬F_hit (mIn M2 p) b = true by
            intro z
            have z2 := of_decide_eq_true z
            unfold mIn at z2
            split at z2 <;> omega)] at h
          simp (disch := omega) only [b_X6_whenIn_0, x_iconst, x_storeI_3, x_storeI_4, x_loadI_4, y_ic_gt_t, y_ic_gt_f, b_X6_whenIn_12, x_loadI_3, y_ic_ne_t, y_ic_ne_f, b_X6_whenIn_17, x_loadI_2, b_X6_whenIn_22, x_loadR_0, x_loadS_0, f_6_4, x_loadI_1, x_imul, x_iadd, y_iald_35, y_ic_eq_t, y_ic_eq_f, b_X6_whenIn_36, x_goto, b_X6_whenIn_40, b_X6_whenIn_44, b_X6_whenIn_58, b_X6_whenIn_62, x_storeI_5, x_loadI_5, y_if_eq_t, y_if_eq_f, b_X6_whenIn_70, b_X6_whenIn_75, b_X6_whenIn_76, x_popI, x_popR, x_iinc_4, b_X6_whenIn_88, x_ret0, q_isL_I, q_isL_R, q_isL_S, true_and, and_true, and_self, List.length_nil, List.length_cons, Nat.zero_add, x_K, x_Kn, Int.reduceToNat, Nat.reduceAdd, Nat.reduceMul, Nat.reduceLeDiff, Nat.reduceLT, Nat.zero_le, Int.reduceAdd, Int.reduceSub, Int.reduceMul, Int.reduceNeg, q_add_e, q_sub_e, q_mul_e, q_neg_e, q_upd_s, q_upd_n, zr_shr0, zr_shr1, zr_shr2, zr_shr3, zr_shr4, zr_and, zr_dyn8, zr_or, zr_shl, q_cpy_n, y_cpy26, Int.toNat_natCast, tn_32]
          exact h
    intro j
    induction j with
    | zero =>
      intro k hk M2 l5 hl5 m2 w2 y2 e0 t2 hq
      have e : k = 60 := by omega
      subst e
      refine test 60 M2 l5 (by omega) hl5 m2 w2 e0 ?_
      rw [G_till] at hq
      rw [b_X6_whenIn_63]
      by_cases c : F_hit (G_ys V (mW M1) 60 4 p) b = true
      · rw [if_pos c] at hq
        simp (disch := omega) only [b_X6_whenIn_0, x_iconst, x_storeI_3, x_storeI_4, x_loadI_4, y_ic_gt_t, y_ic_gt_f, b_X6_whenIn_12, x_loadI_3, y_ic_ne_t, y_ic_ne_f, b_X6_whenIn_17, x_loadI_2, b_X6_whenIn_22, x_loadR_0, x_loadS_0, f_6_4, x_loadI_1, x_imul, x_iadd, y_iald_35, y_ic_eq_t, y_ic_eq_f, b_X6_whenIn_36, x_goto, b_X6_whenIn_40, b_X6_whenIn_44, b_X6_whenIn_58, b_X6_whenIn_62, b_X6_whenIn_63, x_storeI_5, x_loadI_5, y_if_eq_t, y_if_eq_f, b_X6_whenIn_70, b_X6_whenIn_75, b_X6_whenIn_76, x_popI, x_popR, x_iinc_4, b_X6_whenIn_88, x_ret0, q_isL_I, q_isL_R, q_isL_S, true_and, and_true, and_self, List.length_nil, List.length_cons, Nat.zero_add, x_K, x_Kn, Int.reduceToNat, Nat.reduceAdd, Nat.reduceMul, Nat.reduceLeDiff, Nat.reduceLT, Nat.zero_le, Int.reduceAdd, Int.reduceSub, Int.reduceMul, Int.reduceNeg, q_add_e, q_sub_e, q_mul_e, q_neg_e, q_upd_s, q_upd_n, zr_shr0, zr_shr1, zr_shr2, zr_shr3, zr_shr4, zr_and, zr_dyn8, zr_or, zr_shl, q_cpy_n, y_cpy26, c, if_true, hl5, c_X6_yearOf]
        refine mp_yearT m2 (by omega) t2 (fun M3 m3 w3 y3 n3 t3 => ?_)
        simp (disch := omega) only [b_X6_whenIn_0, x_iconst, x_storeI_3, x_storeI_4, x_loadI_4, y_ic_gt_t, y_ic_gt_f, b_X6_whenIn_12, x_loadI_3, y_ic_ne_t, y_ic_ne_f, b_X6_whenIn_17, x_loadI_2, b_X6_whenIn_22, x_loadR_0, x_loadS_0, f_6_4, x_loadI_1, x_imul, x_iadd, y_iald_35, y_ic_eq_t, y_ic_eq_f, b_X6_whenIn_36, x_goto, b_X6_whenIn_40, b_X6_whenIn_44, b_X6_whenIn_58, b_X6_whenIn_62, b_X6_whenIn_63, x_storeI_5, x_loadI_5, y_if_eq_t, y_if_eq_f, b_X6_whenIn_70, b_X6_whenIn_75, b_X6_whenIn_76, x_popI, x_popR, x_iinc_4, b_X6_whenIn_88, x_ret0, q_isL_I, q_isL_R, q_isL_S, true_and, and_true, and_self, List.length_nil, List.length_cons, Nat.zero_add, x_K, x_Kn, Int.reduceToNat, Nat.reduceAdd, Nat.reduceMul, Nat.reduceLeDiff, Nat.reduceLT, Nat.zero_le, Int.reduceAdd, Int.reduceSub, Int.reduceMul, Int.reduceNeg, q_add_e, q_sub_e, q_mul_e, q_neg_e, q_upd_s, q_upd_n, zr_shr0, zr_shr1, zr_shr2, zr_shr3, zr_shr4, zr_and, zr_dyn8, zr_or, zr_shl, q_cpy_n, y_cpy26]
        exact out 60 _ _ M3 (hq M3 t3)
      · rw [if_neg c] at hq
        simp (disch := omega) only [b_X6_whenIn_0, x_iconst, x_storeI_3, x_storeI_4, x_loadI_4, y_ic_gt_t, y_ic_gt_f, b_X6_whenIn_12, x_loadI_3, y_ic_ne_t, y_ic_ne_f, b_X6_whenIn_17, x_loadI_2, b_X6_whenIn_22, x_loadR_0, x_loadS_0, f_6_4, x_loadI_1, x_imul, x_iadd, y_iald_35, y_ic_eq_t, y_ic_eq_f, b_X6_whenIn_36, x_goto, b_X6_whenIn_40, b_X6_whenIn_44, b_X6_whenIn_58, b_X6_whenIn_62, b_X6_whenIn_63, x_storeI_5, x_loadI_5, y_if_eq_t, y_if_eq_f, b_X6_whenIn_70, b_X6_whenIn_75, b_X6_whenIn_76, x_popI, x_popR, x_iinc_4, b_X6_whenIn_88, x_ret0, q_isL_I, q_isL_R, q_isL_S, true_and, and_true, and_self, List.length_nil, List.length_cons, Nat.zero_add, x_K, x_Kn, Int.reduceToNat, Nat.reduceAdd, Nat.reduceMul, Nat.reduceLeDiff, Nat.reduceLT, Nat.zero_le, Int.reduceAdd, Int.reduceSub, Int.reduceMul, Int.reduceNeg, q_add_e, q_sub_e, q_mul_e, q_neg_e, q_upd_s, q_upd_n, zr_shr0, zr_shr1, zr_shr2, zr_shr3, zr_shr4, zr_and, zr_dyn8, zr_or, zr_shl, q_cpy_n, y_cpy26, c, Bool.false_eq_true, if_false, hl5, c_X6_yearOf]
        refine mp_yearT m2 (by omega) t2 (fun M3 m3 w3 y3 n3 t3 => ?_)
        simp (disch := omega) only [b_X6_whenIn_0, x_iconst, x_storeI_3, x_storeI_4, b_X6_whenIn_5, x_loadI_4, y_ic_gt_t, y_ic_gt_f, b_X6_whenIn_12, x_loadI_3, y_ic_ne_t, y_ic_ne_f, b_X6_whenIn_17, x_loadI_2, b_X6_whenIn_22, x_loadR_0, x_loadS_0, f_6_4, x_loadI_1, x_imul, x_iadd, y_iald_35, y_ic_eq_t, y_ic_eq_f, b_X6_whenIn_36, x_goto, b_X6_whenIn_40, b_X6_whenIn_44, b_X6_whenIn_58, b_X6_whenIn_62, b_X6_whenIn_63, x_storeI_5, x_loadI_5, y_if_eq_t, y_if_eq_f, b_X6_whenIn_70, b_X6_whenIn_75, b_X6_whenIn_76, x_popI, x_popR, x_iinc_4, b_X6_whenIn_88, x_ret0, q_isL_I, q_isL_R, q_isL_S, true_and, and_true, and_self, List.length_nil, List.length_cons, Nat.zero_add, x_K, x_Kn, Int.reduceToNat, Nat.reduceAdd, Nat.reduceMul, Nat.reduceLeDiff, Nat.reduceLT, Nat.zero_le, Int.reduceAdd, Int.reduceSub, Int.reduceMul, Int.reduceNeg, q_add_e, q_sub_e, q_mul_e, q_neg_e, q_upd_s, q_upd_n, zr_shr0, zr_shr1, zr_shr2, zr_shr3, zr_shr4, zr_and, zr_dyn8, zr_or, zr_shl, q_cpy_n, y_cpy26]
        rw [hpush]
        exact hq M3 t3
    | succ j ih =>
      intro k hk M2 l5 hl5 m2 w2 y2 e0 t2 hq
      refine test k M2 l5 (by omega) hl5 m2 w2 e0 ?_
      rw [G_till] at hq
      rw [b_X6_whenIn_63]
      by_cases c : F_hit (G_ys V (mW M1) k 4 p) b = true
      · rw [if_pos c] at hq
        simp (disch := omega) only [b_X6_whenIn_0, x_iconst, x_storeI_3, x_storeI_4, x_loadI_4, y_ic_gt_t, y_ic_gt_f, b_X6_whenIn_12, x_loadI_3, y_ic_ne_t, y_ic_ne_f, b_X6_whenIn_17, x_loadI_2, b_X6_whenIn_22, x_loadR_0, x_loadS_0, f_6_4, x_loadI_1, x_imul, x_iadd, y_iald_35, y_ic_eq_t, y_ic_eq_f, b_X6_whenIn_36, x_goto, b_X6_whenIn_40, b_X6_whenIn_44, b_X6_whenIn_58, b_X6_whenIn_62, b_X6_whenIn_63, x_storeI_5, x_loadI_5, y_if_eq_t, y_if_eq_f, b_X6_whenIn_70, b_X6_whenIn_75, b_X6_whenIn_76, x_popI, x_popR, x_iinc_4, b_X6_whenIn_88, x_ret0, q_isL_I, q_isL_R, q_isL_S, true_and, and_true, and_self, List.length_nil, List.length_cons, Nat.zero_add, x_K, x_Kn, Int.reduceToNat, Nat.reduceAdd, Nat.reduceMul, Nat.reduceLeDiff, Nat.reduceLT, Nat.zero_le, Int.reduceAdd, Int.reduceSub, Int.reduceMul, Int.reduceNeg, q_add_e, q_sub_e, q_mul_e, q_neg_e, q_upd_s, q_upd_n, zr_shr0, zr_shr1, zr_shr2, zr_shr3, zr_shr4, zr_and, zr_dyn8, zr_or, zr_shl, q_cpy_n, y_cpy26, c, if_true, hl5, c_X6_yearOf]
        refine mp_yearT m2 (by omega) t2 (fun M3 m3 w3 y3 n3 t3 => ?_)
        simp (disch := omega) only [b_X6_whenIn_0, x_iconst, x_storeI_3, x_storeI_4, x_loadI_4, y_ic_gt_t, y_ic_gt_f, b_X6_whenIn_12, x_loadI_3, y_ic_ne_t, y_ic_ne_f, b_X6_whenIn_17, x_loadI_2, b_X6_whenIn_22, x_loadR_0, x_loadS_0, f_6_4, x_loadI_1, x_imul, x_iadd, y_iald_35, y_ic_eq_t, y_ic_eq_f, b_X6_whenIn_36, x_goto, b_X6_whenIn_40, b_X6_whenIn_44, b_X6_whenIn_58, b_X6_whenIn_62, b_X6_whenIn_63, x_storeI_5, x_loadI_5, y_if_eq_t, y_if_eq_f, b_X6_whenIn_70, b_X6_whenIn_75, b_X6_whenIn_76, x_popI, x_popR, x_iinc_4, b_X6_whenIn_88, x_ret0, q_isL_I, q_isL_R, q_isL_S, true_and, and_true, and_self, List.length_nil, List.length_cons, Nat.zero_add, x_K, x_Kn, Int.reduceToNat, Nat.reduceAdd, Nat.reduceMul, Nat.reduceLeDiff, Nat.reduceLT, Nat.zero_le, Int.reduceAdd, Int.reduceSub, Int.reduceMul, Int.reduceNeg, q_add_e, q_sub_e, q_mul_e, q_neg_e, q_upd_s, q_upd_n, zr_shr0, zr_shr1, zr_shr2, zr_shr3, zr_shr4, zr_and, zr_dyn8, zr_or, zr_shl, q_cpy_n, y_cpy26]
        exact out k _ _ M3 (hq M3 t3)
      · rw [if_neg c] at hq
        simp (disch := omega) only [b_X6_whenIn_0, x_iconst, x_storeI_3, x_storeI_4, x_loadI_4, y_ic_gt_t, y_ic_gt_f, b_X6_whenIn_12, x_loadI_3, y_ic_ne_t, y_ic_ne_f, b_X6_whenIn_17, x_loadI_2, b_X6_whenIn_22, x_loadR_0, x_loadS_0, f_6_4, x_loadI_1, x_imul, x_iadd, y_iald_35, y_ic_eq_t, y_ic_eq_f, b_X6_whenIn_36, x_goto, b_X6_whenIn_40, b_X6_whenIn_44, b_X6_whenIn_58, b_X6_whenIn_62, b_X6_whenIn_63, x_storeI_5, x_loadI_5, y_if_eq_t, y_if_eq_f, b_X6_whenIn_70, b_X6_whenIn_75, b_X6_whenIn_76, x_popI, x_popR, x_iinc_4, b_X6_whenIn_88, x_ret0, q_isL_I, q_isL_R, q_isL_S, true_and, and_true, and_self, List.length_nil, List.length_cons, Nat.zero_add, x_K, x_Kn, Int.reduceToNat, Nat.reduceAdd, Nat.reduceMul, Nat.reduceLeDiff, Nat.reduceLT, Nat.zero_le, Int.reduceAdd, Int.reduceSub, Int.reduceMul, Int.reduceNeg, q_add_e, q_sub_e, q_mul_e, q_neg_e, q_upd_s, q_upd_n, zr_shr0, zr_shr1, zr_shr2, zr_shr3, zr_shr4, zr_and, zr_dyn8, zr_or, zr_shl, q_cpy_n, y_cpy26, c, Bool.false_eq_true, if_false, hl5, c_X6_yearOf]
        refine mp_yearT m2 (by omega) t2 (fun M3 m3 w3 y3 n3 t3 => ?_)
        simp (disch := omega) only [b_X6_whenIn_0, x_iconst, x_storeI_3, x_storeI_4, x_loadI_4, y_ic_gt_t, y_ic_gt_f, b_X6_whenIn_12, x_loadI_3, y_ic_ne_t, y_ic_ne_f, b_X6_whenIn_17, x_loadI_2, b_X6_whenIn_22, x_loadR_0, x_loadS_0, f_6_4, x_loadI_1, x_imul, x_iadd, y_iald_35, y_ic_eq_t, y_ic_eq_f, b_X6_whenIn_36, x_goto, b_X6_whenIn_40, b_X6_whenIn_44, b_X6_whenIn_58, b_X6_whenIn_62, b_X6_whenIn_63, x_storeI_5, x_loadI_5, y_if_eq_t, y_if_eq_f, b_X6_whenIn_70, b_X6_whenIn_75, b_X6_whenIn_76, x_popI, x_popR, x_iinc_4, b_X6_whenIn_88, x_ret0, q_isL_I, q_isL_R, q_isL_S, true_and, and_true, and_self, List.length_nil, List.length_cons, Nat.zero_add, x_K, x_Kn, Int.reduceToNat, Nat.reduceAdd, Nat.reduceMul, Nat.reduceLeDiff, Nat.reduceLT, Nat.zero_le, Int.reduceAdd, Int.reduceSub, Int.reduceMul, Int.reduceNeg, q_add_e, q_sub_e, q_mul_e, q_neg_e, q_upd_s, q_upd_n, zr_shr0, zr_shr1, zr_shr2, zr_shr3, zr_shr4, zr_and, zr_dyn8, zr_or, zr_shl, q_cpy_n, y_cpy26]
        exact ih (k + 1) (by omega) M3 _ rfl m3 (by rw [w3, w2]; rfl) (by omega) (n3.trans e0) t3 hq
  simp (disch := omega) only [b_X6_whenIn_0, x_iconst, x_storeI_3, x_storeI_4, x_loadI_4, y_ic_gt_t, y_ic_gt_f, b_X6_whenIn_12, x_loadI_3, y_ic_ne_t, y_ic_ne_f, b_X6_whenIn_17, x_loadI_2, b_X6_whenIn_22, x_loadR_0, x_loadS_0, f_6_4, x_loadI_1, x_imul, x_iadd, y_iald_35, y_ic_eq_t, y_ic_eq_f, b_X6_whenIn_36, x_goto, b_X6_whenIn_40, b_X6_whenIn_44, b_X6_whenIn_58, b_X6_whenIn_62, b_X6_whenIn_63, x_storeI_5, x_loadI_5, y_if_eq_t, y_if_eq_f, b_X6_whenIn_70, b_X6_whenIn_75, b_X6_whenIn_76, x_popI, x_popR, x_iinc_4, b_X6_whenIn_88, x_ret0, q_isL_I, q_isL_R, q_isL_S, true_and, and_true, and_self, List.length_nil, List.length_cons, Nat.zero_add, x_K, x_Kn, Int.reduceToNat, Nat.reduceAdd, Nat.reduceMul, Nat.reduceLeDiff, Nat.reduceLT, Nat.zero_le, Int.reduceAdd, Int.reduceSub, Int.reduceMul, Int.reduceNeg, q_add_e, q_sub_e, q_mul_e, q_neg_e, q_upd_s, q_upd_n, zr_shr0, zr_shr1, zr_shr2, zr_shr3, zr_shr4, zr_and, zr_dyn8, zr_or, zr_shl, q_cpy_n, y_cpy26]
  exact loop 60 0 rfl M1 _ rfl hm rfl (by omega) rfl ht hq
def B_when (V : Nat → (Nat → Int) → Int) (S : q_M) (p wt : Int) : Int := if ¬(0 ≤ p ∧ p ≤ S 9 0 - 1) then -5 else if ¬(-1 ≤ wt ∧ wt ≤ 4) then -7 else G_till V S p.toNat wt 60 0
set_option maxHeartbeats 4000000 in
theorem mp_when {V : Nat → (Nat → Int) → Int} {d : Nat} {g : q_G} {M : q_M} {p wt : Int} {Q : Option q_V → q_G → q_M → Prop} (C : q_mi V M) (hq : ∀ M2 : q_M, q_mq M M2 → Q (some (qI (B_when V (mW M) p wt))) g M2) : q_S 1 (d + 9) 158 [qR 6 100, qI p, qI wt] g M Q := by
  have n0 := C.1.1.1
  have y0 := C.1.1.2.1
  have y9 := C.2.1
  rw [s_X6_when]
  unfold B_when at hq
  rw [mW_90] at hq
  by_cases c1 : 0 ≤ p ∧ p ≤ M 100 0 - 1
  · rw [if_neg (fun z => z c1)] at hq
    by_cases c2 : -1 ≤ wt ∧ wt ≤ 4
    · rw [if_neg (fun z => z c2)] at hq
      obtain ⟨N, rfl⟩ : ∃ N : Nat, p = N := ⟨p.toNat, by omega⟩
      rw [Int.toNat_natCast] at hq
      simp (disch := omega) only [b_X6_when_0, x_loadR_0, x_loadS_0, x_loadI_1, y_if_ne_t, y_if_ne_f, b_X6_when_8, x_iconst, x_ret0, b_X6_when_11, x_loadI_2, b_X6_when_20, b_X6_when_23, x_storeI_3, x_loadI_3, q_isL_I, q_isL_R, q_isL_S, true_and, and_true, and_self, List.length_nil, List.length_cons, Nat.zero_add, x_K, x_Kn, Int.reduceToNat, Nat.reduceAdd, Nat.reduceMul, Nat.reduceLeDiff, Nat.reduceLT, Nat.zero_le, Int.reduceAdd, Int.reduceSub, Int.reduceMul, Int.reduceNeg, q_add_e, q_sub_e, q_mul_e, q_neg_e, q_upd_s, q_upd_n, zr_shr0, zr_shr1, zr_shr2, zr_shr3, zr_shr4, zr_and, zr_dyn8, zr_or, zr_shl, q_cpy_n, y_cpy26, c_X6_isStone, mp_isStone, c1, c_X6_in, mp_in, c2, and_self, if_true, c_X6_keeps]
      refine mp_keepT C.1 q_mq_rf (fun M2 m2 w2 t2 => ?_)
      have e5 : M2 100 5 = M 100 5 := by rw [← mW_91 (M := M2), w2, mW_91]
      have e0 : M2 100 0 = M 100 0 := by rw [← mW_90 (M := M2), w2, mW_90]
      simp (disch := omega) only [b_X6_when_0, x_loadR_0, x_loadS_0, x_loadI_1, y_if_ne_t, y_if_ne_f, b_X6_when_8, x_iconst, x_ret0, b_X6_when_11, x_loadI_2, b_X6_when_20, b_X6_when_23, x_storeI_3, x_loadI_3, q_isL_I, q_isL_R, q_isL_S, true_and, and_true, and_self, List.length_nil, List.length_cons, Nat.zero_add, x_K, x_Kn, Int.reduceToNat, Nat.reduceAdd, Nat.reduceMul, Nat.reduceLeDiff, Nat.reduceLT, Nat.zero_le, Int.reduceAdd, Int.reduceSub, Int.reduceMul, Int.reduceNeg, q_add_e, q_sub_e, q_mul_e, q_neg_e, q_upd_s, q_upd_n, zr_shr0, zr_shr1, zr_shr2, zr_shr3, zr_shr4, zr_and, zr_dyn8, zr_or, zr_shl, q_cpy_n, y_cpy26, c_X6_whenIn]
      refine mp_whenIn m2 (by omega) (by rw [e0]; omega) (by omega) t2 (fun M3 t3 => ?_)
      simp (disch := omega) only [b_X6_when_0, x_loadR_0, x_loadS_0, x_loadI_1, y_if_ne_t, y_if_ne_f, b_X6_when_8, x_iconst, x_ret0, b_X6_when_11, x_loadI_2, b_X6_when_20, b_X6_when_23, x_storeI_3, x_loadI_3, q_isL_I, q_isL_R, q_isL_S, true_and, and_true, and_self, List.length_nil, List.length_cons, Nat.zero_add, x_K, x_Kn, Int.reduceToNat, Nat.reduceAdd, Nat.reduceMul, Nat.reduceLeDiff, Nat.reduceLT, Nat.zero_le, Int.reduceAdd, Int.reduceSub, Int.reduceMul, Int.reduceNeg, q_add_e, q_sub_e, q_mul_e, q_neg_e, q_upd_s, q_upd_n, zr_shr0, zr_shr1, zr_shr2, zr_shr3, zr_shr4, zr_and, zr_dyn8, zr_or, zr_shl, q_cpy_n, y_cpy26, c_X6_lays]
      refine mp_layT t3 (fun M4 h4 _ => ?_)
      simp (disch := omega) only [b_X6_when_0, x_loadR_0, x_loadS_0, x_loadI_1, y_if_ne_t, y_if_ne_f, b_X6_when_8, x_iconst, x_ret0, b_X6_when_11, x_loadI_2, b_X6_when_20, b_X6_when_23, x_storeI_3, x_loadI_3, q_isL_I, q_isL_R, q_isL_S, true_and, and_true, and_self, List.length_nil, List.length_cons, Nat.zero_add, x_K, x_Kn, Int.reduceToNat, Nat.reduceAdd, Nat.reduceMul, Nat.reduceLeDiff, Nat.reduceLT, Nat.zero_le, Int.reduceAdd, Int.reduceSub, Int.reduceMul, Int.reduceNeg, q_add_e, q_sub_e, q_mul_e, q_neg_e, q_upd_s, q_upd_n, zr_shr0, zr_shr1, zr_shr2, zr_shr3, zr_shr4, zr_and, zr_dyn8, zr_or, zr_shl, q_cpy_n, y_cpy26]
      rw [w2]
      exact hq M4 h4
    · rw [if_pos c2] at hq
      simp (disch := omega) only [b_X6_when_0, x_loadR_0, x_loadS_0, x_loadI_1, y_if_ne_t, y_if_ne_f, b_X6_when_8, x_iconst, x_ret0, b_X6_when_11, x_loadI_2, b_X6_when_20, b_X6_when_23, x_storeI_3, x_loadI_3, q_isL_I, q_isL_R, q_isL_S, true_and, and_true, and_self, List.length_nil, List.length_cons, Nat.zero_add, x_K, x_Kn, Int.reduceToNat, Nat.reduceAdd, Nat.reduceMul, Nat.reduceLeDiff, Nat.reduceLT, Nat.zero_le, Int.reduceAdd, Int.reduceSub, Int.reduceMul, Int.reduceNeg, q_add_e, q_sub_e, q_mul_e, q_neg_e, q_upd_s, q_upd_n, zr_shr0, zr_shr1, zr_shr2, zr_shr3, zr_shr4, zr_and, zr_dyn8, zr_or, zr_shl, q_cpy_n, y_cpy26, c_X6_isStone, mp_isStone, c1, c_X6_in, mp_in, c2, and_self, if_true, if_false]
      exact hq M q_mq_rf
  · rw [if_pos c1] at hq
    simp (disch := omega) only [b_X6_when_0, x_loadR_0, x_loadS_0, x_loadI_1, y_if_ne_t, y_if_ne_f, b_X6_when_8, x_iconst, x_ret0, b_X6_when_11, x_loadI_2, b_X6_when_20, b_X6_when_23, x_storeI_3, x_loadI_3, q_isL_I, q_isL_R, q_isL_S, true_and, and_true, and_self, List.length_nil, List.length_cons, Nat.zero_add, x_K, x_Kn, Int.reduceToNat, Nat.reduceAdd, Nat.reduceMul, Nat.reduceLeDiff, Nat.reduceLT, Nat.zero_le, Int.reduceAdd, Int.reduceSub, Int.reduceMul, Int.reduceNeg, q_add_e, q_sub_e, q_mul_e, q_neg_e, q_upd_s, q_upd_n, zr_shr0, zr_shr1, zr_shr2, zr_shr3, zr_shr4, zr_and, zr_dyn8, zr_or, zr_shl, q_cpy_n, y_cpy26, c_X6_isStone, mp_isStone, c1, if_false]
    exact hq M q_mq_rf
/-- the place and the years of the best of the first k places -/
def G_ct (V : Nat → (Nat → Int) → Int) (S : q_M) (p : Nat) : Nat → Int × Int
  | 0 => (-1, -1)
  | k + 1 => if G_till V (F_lay S p k) p (-1) 60 0 ≠ -1 ∧ ((G_ct V S p k).1 = -1 ∨ G_till V (F_lay S p k) p (-1) 60 0 < (G_ct V S p k).2) then ((k : Int), G_till V (F_lay S p k) p (-1) 60 0) else G_ct V S p k
def B_cart (V : Nat → (Nat → Int) → Int) (S : q_M) (p wt : Int) : Int := if ¬(0 ≤ p ∧ p ≤ S 9 0 - 1) then -5 else if ¬(0 ≤ wt ∧ wt ≤ 1) then -7 else if wt = 0 then (G_ct V S p.toNat 100).1 else (G_ct V S p.toNat 100).2
