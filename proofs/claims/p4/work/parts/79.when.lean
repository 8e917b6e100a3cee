/-! THE CLASS'S ENTRIES: years till one is in -/
def F_hit (x b : Int) : Bool := decide ((b = -1 ∧ x ≠ 5) ∨ (b ≠ -1 ∧ x = b))
def F_till (V : Nat → (Nat → Int) → Int) (S : q_M) (p : Nat) (b : Int) : Nat → Nat → Int
  | 0, y => if F_hit (F_ys V S y 4 p) b = true then y else -1
  | j + 1, y => if F_hit (F_ys V S y 4 p) b = true then y else F_till V S p b j (y + 1)
set_option maxHeartbeats 4000000 in
theorem sp_tillL {V : Nat → (Nat → Int) → Int} {d : Nat} {g : q_G} {M S : q_M} {ta p n : Nat} {b : Int} {Q : Option q_V → q_G → q_M → Prop} (hn : n ≤ 1000) (hp6 : p < 6) : ∀ j y : Nat, y + j = n → ∀ (l : q_V) (M1 : q_M), q_isL l = false → p < (M1 (38 + 1) 5).toNat → q_wl V M1 38 ta → cW M1 38 = F_ys V S y → (∀ p, p < 5 → M1 (38 + 1 + 3 + (1 + p)) 5 = 0) → M1 38 9 + j ≤ 2000 → q_th ta M M1 → (∀ M2 : q_M, q_th ta M M2 → Q (some (qI (F_till V S p b j y))) g M2) → q_T 1 (d + 5) qP_X5_yearsTillIn 22 [] [qR 5 0, qI p, qI b, qI n, qI y, l] [] g M1 Q := by
  intro j
  induction j with
  | zero =>
    intro y hy l M1 hl hp hw hc hz hyr hf hq
    have ein : F_ys V S y 4 p = M1 (38 + 3) p := by rw [← hc]; exact cW_4 hp
    rw [F_till, ein] at hq
    rw [b_X5_yearsTillIn_22]
    by_cases hit : F_hit (M1 (38 + 3) p) b = true
    · rw [if_pos hit] at hq
      rcases of_decide_eq_true hit with h | h
      · have h2 : M1 41 p ≠ 5 := h.2
        simp (disch := omega) only [b_X5_yearsTillIn_0, x_iconst, x_storeI_4, b_X5_yearsTillIn_3, x_loadI_4, x_loadI_3, y_ic_gt_t, y_ic_gt_f, b_X5_yearsTillIn_9, y_if_le_t, y_if_le_f, b_X5_yearsTillIn_14, x_loadR_0, x_loadS_0, f_5_4, x_popI, x_popR, f_4_0, f_0_1, x_loadI_1, y_iald_26, x_storeI_5, x_loadI_2, y_ic_ne_t, y_ic_ne_f, b_X5_yearsTillIn_41, x_loadI_5, y_ic_eq_t, y_ic_eq_f, b_X5_yearsTillIn_47, x_goto, b_X5_yearsTillIn_50, b_X5_yearsTillIn_56, x_ret0, b_X5_yearsTillIn_59, x_iinc_4, b_X5_yearsTillIn_65, q_isL_I, q_isL_R, q_isL_S, true_and, and_true, and_self, List.length_nil, List.length_cons, Nat.zero_add, x_K, x_Kn, Int.reduceToNat, Nat.reduceAdd, Nat.reduceMul, Nat.reduceLeDiff, Nat.reduceLT, Nat.zero_le, Int.reduceAdd, Int.reduceSub, Int.reduceMul, Int.reduceNeg, q_add_e, q_sub_e, q_mul_e, q_neg_e, q_upd_s, q_upd_n, zr_shr0, zr_shr1, zr_shr2, zr_shr3, zr_shr4, zr_and, zr_dyn8, zr_or, zr_shl, q_cpy_n, y_cpy26, hl, Int.toNat_natCast]
        exact hq M1 hf
      · have h2 : M1 41 p = b := h.2
        simp (disch := omega) only [b_X5_yearsTillIn_0, x_iconst, x_storeI_4, b_X5_yearsTillIn_3, x_loadI_4, x_loadI_3, y_ic_gt_t, y_ic_gt_f, b_X5_yearsTillIn_9, y_if_le_t, y_if_le_f, b_X5_yearsTillIn_14, x_loadR_0, x_loadS_0, f_5_4, x_popI, x_popR, f_4_0, f_0_1, x_loadI_1, y_iald_26, x_storeI_5, x_loadI_2, y_ic_ne_t, y_ic_ne_f, b_X5_yearsTillIn_41, x_loadI_5, y_ic_eq_t, y_ic_eq_f, b_X5_yearsTillIn_47, x_goto, b_X5_yearsTillIn_50, b_X5_yearsTillIn_56, x_ret0, b_X5_yearsTillIn_59, x_iinc_4, b_X5_yearsTillIn_65, q_isL_I, q_isL_R, q_isL_S, true_and, and_true, and_self, List.length_nil, List.length_cons, Nat.zero_add, x_K, x_Kn, Int.reduceToNat, Nat.reduceAdd, Nat.reduceMul, Nat.reduceLeDiff, Nat.reduceLT, Nat.zero_le, Int.reduceAdd, Int.reduceSub, Int.reduceMul, Int.reduceNeg, q_add_e, q_sub_e, q_mul_e, q_neg_e, q_upd_s, q_upd_n, zr_shr0, zr_shr1, zr_shr2, zr_shr3, zr_shr4, zr_and, zr_dyn8, zr_or, zr_shl, q_cpy_n, y_cpy26, hl, Int.toNat_natCast]
        exact hq M1 hf
    · rw [if_neg hit] at hq
      by_cases hb : b = -1
      · have h5 : M1 (38 + 3) p = 5 := Decidable.byContradiction fun z => hit (decide_eq_true (Or.inl ⟨hb, z⟩))
        simp (disch := omega) only [b_X5_yearsTillIn_0, x_iconst, x_storeI_4, b_X5_yearsTillIn_3, x_loadI_4, x_loadI_3, y_ic_gt_t, y_ic_gt_f, b_X5_yearsTillIn_9, y_if_le_t, y_if_le_f, b_X5_yearsTillIn_14, x_loadR_0, x_loadS_0, f_5_4, x_popI, x_popR, f_4_0, f_0_1, x_loadI_1, y_iald_26, x_storeI_5, x_loadI_2, y_ic_ne_t, y_ic_ne_f, b_X5_yearsTillIn_41, x_loadI_5, y_ic_eq_t, y_ic_eq_f, b_X5_yearsTillIn_47, x_goto, b_X5_yearsTillIn_50, b_X5_yearsTillIn_56, x_ret0, b_X5_yearsTillIn_59, x_iinc_4, b_X5_yearsTillIn_65, q_isL_I, q_isL_R, q_isL_S, true_and, and_true, and_self, List.length_nil, List.length_cons, Nat.zero_add, x_K, x_Kn, Int.reduceToNat, Nat.reduceAdd, Nat.reduceMul, Nat.reduceLeDiff, Nat.reduceLT, Nat.zero_le, Int.reduceAdd, Int.reduceSub, Int.reduceMul, Int.reduceNeg, q_add_e, q_sub_e, q_mul_e, q_neg_e, q_upd_s, q_upd_n, zr_shr0, zr_shr1, zr_shr2, zr_shr3, zr_shr4, zr_and, zr_dyn8, zr_or, zr_shl, q_cpy_n, y_cpy26, hl, h5, Int.toNat_natCast]
        exact hq M1 hf
      · have h5 : M1 (38 + 3) p ≠ b := fun z => hit (decide_eq_true (Or.inr ⟨hb, z⟩))
        simp (disch := omega) only [b_X5_yearsTillIn_0, x_iconst, x_storeI_4, b_X5_yearsTillIn_3, x_loadI_4, x_loadI_3, y_ic_gt_t, y_ic_gt_f, b_X5_yearsTillIn_9, y_if_le_t, y_if_le_f, b_X5_yearsTillIn_14, x_loadR_0, x_loadS_0, f_5_4, x_popI, x_popR, f_4_0, f_0_1, x_loadI_1, y_iald_26, x_storeI_5, x_loadI_2, y_ic_ne_t, y_ic_ne_f, b_X5_yearsTillIn_41, x_loadI_5, y_ic_eq_t, y_ic_eq_f, b_X5_yearsTillIn_47, x_goto, b_X5_yearsTillIn_50, b_X5_yearsTillIn_56, x_ret0, b_X5_yearsTillIn_59, x_iinc_4, b_X5_yearsTillIn_65, q_isL_I, q_isL_R, q_isL_S, true_and, and_true, and_self, List.length_nil, List.length_cons, Nat.zero_add, x_K, x_Kn, Int.reduceToNat, Nat.reduceAdd, Nat.reduceMul, Nat.reduceLeDiff, Nat.reduceLT, Nat.zero_le, Int.reduceAdd, Int.reduceSub, Int.reduceMul, Int.reduceNeg, q_add_e, q_sub_e, q_mul_e, q_neg_e, q_upd_s, q_upd_n, zr_shr0, zr_shr1, zr_shr2, zr_shr3, zr_shr4, zr_and, zr_dyn8, zr_or, zr_shl, q_cpy_n, y_cpy26, hl, Int.toNat_natCast]
        exact hq M1 hf
  | succ j ih =>
    intro y hy l M1 hl hp hw hc hz hyr hf hq
    have ein : F_ys V S y 4 p = M1 (38 + 3) p := by rw [← hc]; exact cW_4 hp
    rw [F_till, ein] at hq
    have next : ∀ (l : q_V), q_isL l = false → (∀ M2 : q_M, q_th ta M M2 → Q (some (qI (F_till V S p b j (y + 1)))) g M2) → q_S 1 (d + 4) 59 [qR 4 38] g M1 (q_K 1 (d + 5) qP_X5_yearsTillIn 22 [.pop] [qR 5 0, qI p, qI b, qI n, qI (y + 1 : Nat), l] [] Q) := by
      intro l hl hq
      refine sp_passYear hw hz (by omega) (fun M2 h1 h2 h3 => ?_)
      have hy2 := F_year_y h2
      have e5 : M2 (38 + 1) 5 = M1 (38 + 1) 5 := h3 _ 5 (by omega) (by omega) (by have h := hw.2.2.2.2.2; omega) (by omega)
      simp (disch := omega) only [b_X5_yearsTillIn_0, x_iconst, x_storeI_4, b_X5_yearsTillIn_3, x_loadI_4, x_loadI_3, y_ic_gt_t, y_ic_gt_f, b_X5_yearsTillIn_9, y_if_le_t, y_if_le_f, b_X5_yearsTillIn_14, x_loadR_0, x_loadS_0, f_5_4, x_popI, x_popR, f_4_0, f_0_1, x_loadI_1, y_iald_26, x_storeI_5, x_loadI_2, y_ic_ne_t, y_ic_ne_f, b_X5_yearsTillIn_41, x_loadI_5, y_ic_eq_t, y_ic_eq_f, b_X5_yearsTillIn_47, x_goto, b_X5_yearsTillIn_50, b_X5_yearsTillIn_56, x_ret0, b_X5_yearsTillIn_59, x_iinc_4, b_X5_yearsTillIn_65, q_isL_I, q_isL_R, q_isL_S, true_and, and_true, and_self, List.length_nil, List.length_cons, Nat.zero_add, x_K, x_Kn, Int.reduceToNat, Nat.reduceAdd, Nat.reduceMul, Nat.reduceLeDiff, Nat.reduceLT, Nat.zero_le, Int.reduceAdd, Int.reduceSub, Int.reduceMul, Int.reduceNeg, q_add_e, q_sub_e, q_mul_e, q_neg_e, q_upd_s, q_upd_n, zr_shr0, zr_shr1, zr_shr2, zr_shr3, zr_shr4, zr_and, zr_dyn8, zr_or, zr_shl, q_cpy_n, y_cpy26]
      exact ih (y + 1) (by omega) l M2 hl (by rw [e5]; exact hp) h1 (by rw [h2, hc]; rfl) (fun p hp => (h3 _ 5 (by omega) (by omega) (by have h := hw.2.2.2.2.2; omega) (by omega)).trans (hz p hp)) (by omega) (q_th_tr hf (q_th_yn h3)) hq
    rw [b_X5_yearsTillIn_22]
    by_cases hit : F_hit (M1 (38 + 3) p) b = true
    · rw [if_pos hit] at hq
      rcases of_decide_eq_true hit with h | h
      · have h2 : M1 41 p ≠ 5 := h.2
        simp (disch := omega) only [b_X5_yearsTillIn_0, x_iconst, x_storeI_4, b_X5_yearsTillIn_3, x_loadI_4, x_loadI_3, y_ic_gt_t, y_ic_gt_f, b_X5_yearsTillIn_9, y_if_le_t, y_if_le_f, b_X5_yearsTillIn_14, x_loadR_0, x_loadS_0, f_5_4, x_popI, x_popR, f_4_0, f_0_1, x_loadI_1, y_iald_26, x_storeI_5, x_loadI_2, y_ic_ne_t, y_ic_ne_f, b_X5_yearsTillIn_41, x_loadI_5, y_ic_eq_t, y_ic_eq_f, b_X5_yearsTillIn_47, x_goto, b_X5_yearsTillIn_50, b_X5_yearsTillIn_56, x_ret0, b_X5_yearsTillIn_59, x_iinc_4, b_X5_yearsTillIn_65, q_isL_I, q_isL_R, q_isL_S, true_and, and_true, and_self, List.length_nil, List.length_cons, Nat.zero_add, x_K, x_Kn, Int.reduceToNat, Nat.reduceAdd, Nat.reduceMul, Nat.reduceLeDiff, Nat.reduceLT, Nat.zero_le, Int.reduceAdd, Int.reduceSub, Int.reduceMul, Int.reduceNeg, q_add_e, q_sub_e, q_mul_e, q_neg_e, q_upd_s, q_upd_n, zr_shr0, zr_shr1, zr_shr2, zr_shr3, zr_shr4, zr_and, zr_dyn8, zr_or, zr_shl, q_cpy_n, y_cpy26, hl, Int.toNat_natCast]
        exact hq M1 hf
      · have h2 : M1 41 p = b := h.2
        simp (disch := omega) only [b_X5_yearsTillIn_0, x_iconst, x_storeI_4, b_X5_yearsTillIn_3, x_loadI_4, x_loadI_3, y_ic_gt_t, y_ic_gt_f, b_X5_yearsTillIn_9, y_if_le_t, y_if_le_f, b_X5_yearsTillIn_14, x_loadR_0, x_loadS_0, f_5_4, x_popI, x_popR, f_4_0, f_0_1, x_loadI_1, y_iald_26, x_storeI_5, x_loadI_2, y_ic_ne_t, y_ic_ne_f, b_X5_yearsTillIn_41, x_loadI_5, y_ic_eq_t, y_ic_eq_f, b_X5_yearsTillIn_47, x_goto, b_X5_yearsTillIn_50, b_X5_yearsTillIn_56, x_ret0, b_X5_yearsTillIn_59, x_iinc_4, b_X5_yearsTillIn_65, q_isL_I, q_isL_R, q_isL_S, true_and, and_true, and_self, List.length_nil, List.length_cons, Nat.zero_add, x_K, x_Kn, Int.reduceToNat, Nat.reduceAdd, Nat.reduceMul, Nat.reduceLeDiff, Nat.reduceLT, Nat.zero_le, Int.reduceAdd, Int.reduceSub, Int.reduceMul, Int.reduceNeg, q_add_e, q_sub_e, q_mul_e, q_neg_e, q_upd_s, q_upd_n, zr_shr0, zr_shr1, zr_shr2, zr_shr3, zr_shr4, zr_and, zr_dyn8, zr_or, zr_shl, q_cpy_n, y_cpy26, hl, Int.toNat_natCast]
        exact hq M1 hf
    · rw [if_neg hit] at hq
      by_cases hb : b = -1
      · have h5 : M1 (38 + 3) p = 5 := Decidable.byContradiction fun z => hit (decide_eq_true (Or.inl ⟨hb, z⟩))
        simp (disch := omega) only [b_X5_yearsTillIn_0, x_iconst, x_storeI_4, b_X5_yearsTillIn_3, x_loadI_4, x_loadI_3, y_ic_gt_t, y_ic_gt_f, b_X5_yearsTillIn_9, y_if_le_t, y_if_le_f, b_X5_yearsTillIn_14, x_loadR_0, x_loadS_0, f_5_4, x_popI, x_popR, f_4_0, f_0_1, x_loadI_1, y_iald_26, x_storeI_5, x_loadI_2, y_ic_ne_t, y_ic_ne_f, b_X5_yearsTillIn_41, x_loadI_5, y_ic_eq_t, y_ic_eq_f, b_X5_yearsTillIn_47, x_goto, b_X5_yearsTillIn_50, b_X5_yearsTillIn_56, x_ret0, b_X5_yearsTillIn_59, x_iinc_4, b_X5_yearsTillIn_65, q_isL_I, q_isL_R, q_isL_S, true_and, and_true, and_self, List.length_nil, List.length_cons, Nat.zero_add, x_K, x_Kn, Int.reduceToNat, Nat.reduceAdd, Nat.reduceMul, Nat.reduceLeDiff, Nat.reduceLT, Nat.zero_le, Int.reduceAdd, Int.reduceSub, Int.reduceMul, Int.reduceNeg, q_add_e, q_sub_e, q_mul_e, q_neg_e, q_upd_s, q_upd_n, zr_shr0, zr_shr1, zr_shr2, zr_shr3, zr_shr4, zr_and, zr_dyn8, zr_or, zr_shl, q_cpy_n, y_cpy26, hl, h5, Int.toNat_natCast, c_X4_passYear]
        exact next _ rfl hq
      · have h5 : M1 (38 + 3) p ≠ b := fun z => hit (decide_eq_true (Or.inr ⟨hb, z⟩))
        simp (disch := omega) only [b_X5_yearsTillIn_0, x_iconst, x_storeI_4, b_X5_yearsTillIn_3, x_loadI_4, x_loadI_3, y_ic_gt_t, y_ic_gt_f, b_X5_yearsTillIn_9, y_if_le_t, y_if_le_f, b_X5_yearsTillIn_14, x_loadR_0, x_loadS_0, f_5_4, x_popI, x_popR, f_4_0, f_0_1, x_loadI_1, y_iald_26, x_storeI_5, x_loadI_2, y_ic_ne_t, y_ic_ne_f, b_X5_yearsTillIn_41, x_loadI_5, y_ic_eq_t, y_ic_eq_f, b_X5_yearsTillIn_47, x_goto, b_X5_yearsTillIn_50, b_X5_yearsTillIn_56, x_ret0, b_X5_yearsTillIn_59, x_iinc_4, b_X5_yearsTillIn_65, q_isL_I, q_isL_R, q_isL_S, true_and, and_true, and_self, List.length_nil, List.length_cons, Nat.zero_add, x_K, x_Kn, Int.reduceToNat, Nat.reduceAdd, Nat.reduceMul, Nat.reduceLeDiff, Nat.reduceLT, Nat.zero_le, Int.reduceAdd, Int.reduceSub, Int.reduceMul, Int.reduceNeg, q_add_e, q_sub_e, q_mul_e, q_neg_e, q_upd_s, q_upd_n, zr_shr0, zr_shr1, zr_shr2, zr_shr3, zr_shr4, zr_and, zr_dyn8, zr_or, zr_shl, q_cpy_n, y_cpy26, hl, Int.toNat_natCast, c_X4_passYear]
        exact next _ rfl hq
