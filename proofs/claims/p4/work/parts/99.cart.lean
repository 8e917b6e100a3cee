/-! THE CLASS'S ENTRIES: cart -/
theorem sp_tillN {d : Nat} {g : q_G} {M : q_M} {p b : Int} {Q : Option q_V → q_G → q_M → Prop} (hq : Q (some (qI (-1))) g M) : q_S 1 d 106 [qR 5 0, qI p, qI b, qI (-1)] g M Q := by
  rw [s_X5_yearsTillIn]
  simp (disch := omega) only [b_X5_yearsTillIn_0, x_iconst, x_storeI_4, b_X5_yearsTillIn_3, x_loadI_4, x_loadI_3, y_ic_gt_t, y_ic_gt_f, b_X5_yearsTillIn_9, y_if_le_t, y_if_le_f, b_X5_yearsTillIn_14, x_loadR_0, x_loadS_0, f_5_4, x_popI, x_popR, b_X5_yearsTillIn_22, f_4_0, f_0_1, x_loadI_1, y_iald_26, x_storeI_5, x_loadI_2, y_ic_ne_t, y_ic_ne_f, b_X5_yearsTillIn_41, x_loadI_5, y_ic_eq_t, y_ic_eq_f, b_X5_yearsTillIn_47, x_goto, b_X5_yearsTillIn_50, b_X5_yearsTillIn_56, x_ret0, b_X5_yearsTillIn_59, x_iinc_4, b_X5_yearsTillIn_65, q_isL_I, q_isL_R, q_isL_S, true_and, and_true, and_self, List.length_nil, List.length_cons, Nat.zero_add, x_K, x_Kn, Int.reduceToNat, Nat.reduceAdd, Nat.reduceMul, Nat.reduceLeDiff, Nat.reduceLT, Nat.zero_le, Int.reduceAdd, Int.reduceSub, Int.reduceMul, Int.reduceNeg, q_add_e, q_sub_e, q_mul_e, q_neg_e, q_upd_s, q_upd_n, zr_shr0, zr_shr1, zr_shr2, zr_shr3, zr_shr4, zr_and, zr_dyn8, zr_or, zr_shl, q_cpy_n, y_cpy26]
  exact hq
theorem F_till_le {V : Nat → (Nat → Int) → Int} {S : q_M} {p : Nat} {b : Int} : ∀ j y : Nat, F_till V S p b j y = -1 ∨ (y ≤ F_till V S p b j y ∧ F_till V S p b j y ≤ y + j)
  | 0, y => by
    rw [F_till]
    split
    · exact Or.inr (by omega)
    · exact Or.inl rfl
  | j + 1, y => by
    have h := F_till_le (V := V) (S := S) (p := p) (b := b) j (y + 1)
    rw [F_till]
    split
    · exact Or.inr (by omega)
    · omega
/-- the place and the years of the best of the first k places -/
def F_ctY (V : Nat → (Nat → Int) → Int) (S : q_M) (p k : Nat) (f : Int) : Int := if f = 0 then -1 else F_till V (F_lay S p k) p (-1) (f - 1).toNat 0
def F_ct (V : Nat → (Nat → Int) → Int) (S : q_M) (p : Nat) : Nat → Int × Int
  | 0 => (-1, 61)
  | k + 1 => if 0 ≤ F_ctY V S p k (F_ct V S p k).2 then ((k : Int), F_ctY V S p k (F_ct V S p k).2) else F_ct V S p k
theorem F_ct_le {V : Nat → (Nat → Int) → Int} {S : q_M} {p : Nat} : ∀ k : Nat, 0 ≤ (F_ct V S p k).2 ∧ (F_ct V S p k).2 ≤ 61 ∧ (-1 ≤ (F_ct V S p k).1)
  | 0 => by rw [F_ct]; omega
  | k + 1 => by
    have h := F_ct_le (V := V) (S := S) (p := p) k
    rw [F_ct]
    split
    · next c =>
      refine ⟨c, ?_, by show -1 ≤ (k : Int); omega⟩
      show F_ctY V S p k (F_ct V S p k).2 ≤ 61
      unfold F_ctY
      split
      · omega
      · have h2 := F_till_le (V := V) (S := F_lay S p k) (p := p) (b := -1) ((F_ct V S p k).2 - 1).toNat 0
        omega
    · exact h
def A_cart (V : Nat → (Nat → Int) → Int) (S : q_M) (p wt : Int) : Int := if ¬(0 ≤ p ∧ p < S 9 0) then -5 else if wt < 0 ∨ 1 < wt then -7 else if (F_ct V S p.toNat 100).1 = -1 then -1 else if wt = 0 then (F_ct V S p.toNat 100).1 else (F_ct V S p.toNat 100).2
set_option maxHeartbeats 4000000 in
theorem sp_cart {V : Nat → (Nat → Int) → Int} {d : Nat} {g : q_G} {M : q_M} {ta : Nat} {p wt : Int} {Q : Option q_V → q_G → q_M → Prop} (C : q_ci V M ta) (hq : ∀ M2 : q_M, q_tq M M2 → Q (some (qI (A_cart V (cW M 11) p wt))) g M2) : q_S 1 (d + 6) 81 [qR 5 0, qI p, qI wt] g M Q := by
  have h12 := q_ci_n C
  have h9 := q_ci_y C
  rw [s_X5_cart]
  unfold A_cart at hq
  rw [show cW M 11 9 0 = M 12 5 from rfl] at hq
  by_cases c1 : 0 ≤ p ∧ p < M 12 5
  · rw [if_neg (fun z => z c1)] at hq
    by_cases c2 : wt < 0 ∨ 1 < wt
    · rw [if_pos c2] at hq
      rcases c2 with e | e
      · simp (disch := omega) only [b_X5_cart_0, x_loadR_0, x_loadS_0, x_loadI_1, y_if_ne_t, y_if_ne_f, b_X5_cart_8, x_iconst, x_ret0, b_X5_cart_11, x_loadI_2, y_if_lt_t, y_if_lt_f, b_X5_cart_15, y_ic_le_t, y_ic_le_f, b_X5_cart_20, b_X5_cart_23, x_storeI_3, x_storeI_4, x_storeI_5, x_loadI_5, y_ic_ge_t, y_ic_ge_f, b_X5_cart_39, f_5_4, f_5_3, x_loadI_4, x_isub, x_storeI_6, x_loadI_6, b_X5_cart_77, b_X5_cart_84, x_iinc_5, x_goto, b_X5_cart_90, x_loadI_3, y_ic_ne_t, y_ic_ne_f, b_X5_cart_95, b_X5_cart_97, b_X5_cart_101, b_X5_cart_105, b_X5_cart_107, q_isL_I, q_isL_R, q_isL_S, true_and, and_true, and_self, List.length_nil, List.length_cons, Nat.zero_add, x_K, x_Kn, Int.reduceToNat, Nat.reduceAdd, Nat.reduceMul, Nat.reduceLeDiff, Nat.reduceLT, Nat.zero_le, Int.reduceAdd, Int.reduceSub, Int.reduceMul, Int.reduceNeg, q_add_e, q_sub_e, q_mul_e, q_neg_e, q_upd_s, q_upd_n, zr_shr0, zr_shr1, zr_shr2, zr_shr3, zr_shr4, zr_and, zr_dyn8, zr_or, zr_shl, q_cpy_n, y_cpy26, c_X5_isStone, sp_isStone, c1, and_self, if_true]
        exact hq M q_tq_rf
      · simp (disch := omega) only [b_X5_cart_0, x_loadR_0, x_loadS_0, x_loadI_1, y_if_ne_t, y_if_ne_f, b_X5_cart_8, x_iconst, x_ret0, b_X5_cart_11, x_loadI_2, y_if_lt_t, y_if_lt_f, b_X5_cart_15, y_ic_le_t, y_ic_le_f, b_X5_cart_20, b_X5_cart_23, x_storeI_3, x_storeI_4, x_storeI_5, x_loadI_5, y_ic_ge_t, y_ic_ge_f, b_X5_cart_39, f_5_4, f_5_3, x_loadI_4, x_isub, x_storeI_6, x_loadI_6, b_X5_cart_77, b_X5_cart_84, x_iinc_5, x_goto, b_X5_cart_90, x_loadI_3, y_ic_ne_t, y_ic_ne_f, b_X5_cart_95, b_X5_cart_97, b_X5_cart_101, b_X5_cart_105, b_X5_cart_107, q_isL_I, q_isL_R, q_isL_S, true_and, and_true, and_self, List.length_nil, List.length_cons, Nat.zero_add, x_K, x_Kn, Int.reduceToNat, Nat.reduceAdd, Nat.reduceMul, Nat.reduceLeDiff, Nat.reduceLT, Nat.zero_le, Int.reduceAdd, Int.reduceSub, Int.reduceMul, Int.reduceNeg, q_add_e, q_sub_e, q_mul_e, q_neg_e, q_upd_s, q_upd_n, zr_shr0, zr_shr1, zr_shr2, zr_shr3, zr_shr4, zr_and, zr_dyn8, zr_or, zr_shl, q_cpy_n, y_cpy26, c_X5_isStone, sp_isStone, c1, and_self, if_true]
        exact hq M q_tq_rf
    · rw [if_neg c2] at hq
      obtain ⟨N, rfl⟩ : ∃ N : Nat, p = N := ⟨p.toNat, by omega⟩
      rw [Int.toNat_natCast] at hq
      have loop : ∀ j k : Nat, k + j = 100 → ∀ (M1 : q_M) (l6 : q_V), q_isL l6 = false → q_tq M M1 → q_T 1 (d + 6) qP_X5_cart 32 [] [qR 5 0, qI N, qI wt, qI (F_ct V (cW M 11) N k).1, qI (F_ct V (cW M 11) N k).2, qI k, l6] [] g M1 Q := by
        intro j
        induction j with
        | zero =>
          intro k hk M1 l6 hl6 hf
          have e : k = 100 := by omega
          subst e
          have hb := F_ct_le (V := V) (S := cW M 11) (p := N) 100
          rw [b_X5_cart_32]
          by_cases c3 : (F_ct V (cW M 11) N 100).1 = -1
          · rw [if_pos c3] at hq
            simp (disch := omega) only [b_X5_cart_0, x_loadR_0, x_loadS_0, x_loadI_1, y_if_ne_t, y_if_ne_f, b_X5_cart_8, x_iconst, x_ret0, b_X5_cart_11, x_loadI_2, y_if_lt_t, y_if_lt_f, b_X5_cart_15, y_ic_le_t, y_ic_le_f, b_X5_cart_20, b_X5_cart_23, x_storeI_3, x_storeI_4, x_storeI_5, x_loadI_5, y_ic_ge_t, y_ic_ge_f, b_X5_cart_39, f_5_4, f_5_3, x_loadI_4, x_isub, x_storeI_6, x_loadI_6, b_X5_cart_77, b_X5_cart_84, x_iinc_5, x_goto, b_X5_cart_90, x_loadI_3, y_ic_ne_t, y_ic_ne_f, b_X5_cart_95, b_X5_cart_97, b_X5_cart_101, b_X5_cart_105, b_X5_cart_107, q_isL_I, q_isL_R, q_isL_S, true_and, and_true, and_self, List.length_nil, List.length_cons, Nat.zero_add, x_K, x_Kn, Int.reduceToNat, Nat.reduceAdd, Nat.reduceMul, Nat.reduceLeDiff, Nat.reduceLT, Nat.zero_le, Int.reduceAdd, Int.reduceSub, Int.reduceMul, Int.reduceNeg, q_add_e, q_sub_e, q_mul_e, q_neg_e, q_upd_s, q_upd_n, zr_shr0, zr_shr1, zr_shr2, zr_shr3, zr_shr4, zr_and, zr_dyn8, zr_or, zr_shl, q_cpy_n, y_cpy26]
            exact hq M1 hf
          · rw [if_neg c3] at hq
            by_cases c4 : wt = 0
            · rw [if_pos c4] at hq
              simp (disch := omega) only [b_X5_cart_0, x_loadR_0, x_loadS_0, x_loadI_1, y_if_ne_t, y_if_ne_f, b_X5_cart_8, x_iconst, x_ret0, b_X5_cart_11, x_loadI_2, y_if_lt_t, y_if_lt_f, b_X5_cart_15, y_ic_le_t, y_ic_le_f, b_X5_cart_20, b_X5_cart_23, x_storeI_3, x_storeI_4, x_storeI_5, x_loadI_5, y_ic_ge_t, y_ic_ge_f, b_X5_cart_39, f_5_4, f_5_3, x_loadI_4, x_isub, x_storeI_6, x_loadI_6, b_X5_cart_77, b_X5_cart_84, x_iinc_5, x_goto, b_X5_cart_90, x_loadI_3, y_ic_ne_t, y_ic_ne_f, b_X5_cart_95, b_X5_cart_97, b_X5_cart_101, b_X5_cart_105, b_X5_cart_107, q_isL_I, q_isL_R, q_isL_S, true_and, and_true, and_self, List.length_nil, List.length_cons, Nat.zero_add, x_K, x_Kn, Int.reduceToNat, Nat.reduceAdd, Nat.reduceMul, Nat.reduceLeDiff, Nat.reduceLT, Nat.zero_le, Int.reduceAdd, Int.reduceSub, Int.reduceMul, Int.reduceNeg, q_add_e, q_sub_e, q_mul_e, q_neg_e, q_upd_s, q_upd_n, zr_shr0, zr_shr1, zr_shr2, zr_shr3, zr_shr4, zr_and, zr_dyn8, zr_or, zr_shl, q_cpy_n, y_cpy26]
              exact hq M1 hf
            · rw [if_neg c4] at hq
              simp (disch := omega) only [b_X5_cart_0, x_loadR_0, x_loadS_0, x_loadI_1, y_if_ne_t, y_if_ne_f, b_X5_cart_8, x_iconst, x_ret0, b_X5_cart_11, x_loadI_2, y_if_lt_t, y_if_lt_f, b_X5_cart_15, y_ic_le_t, y_ic_le_f, b_X5_cart_20, b_X5_cart_23, x_storeI_3, x_storeI_4, x_storeI_5, x_loadI_5, y_ic_ge_t, y_ic_ge_f, b_X5_cart_39, f_5_4, f_5_3, x_loadI_4, x_isub, x_storeI_6, x_loadI_6, b_X5_cart_77, b_X5_cart_84, x_iinc_5, x_goto, b_X5_cart_90, x_loadI_3, y_ic_ne_t, y_ic_ne_f, b_X5_cart_95, b_X5_cart_97, b_X5_cart_101, b_X5_cart_105, b_X5_cart_107, q_isL_I, q_isL_R, q_isL_S, true_and, and_true, and_self, List.length_nil, List.length_cons, Nat.zero_add, x_K, x_Kn, Int.reduceToNat, Nat.reduceAdd, Nat.reduceMul, Nat.reduceLeDiff, Nat.reduceLT, Nat.zero_le, Int.reduceAdd, Int.reduceSub, Int.reduceMul, Int.reduceNeg, q_add_e, q_sub_e, q_mul_e, q_neg_e, q_upd_s, q_upd_n, zr_shr0, zr_shr1, zr_shr2, zr_shr3, zr_shr4, zr_and, zr_dyn8, zr_or, zr_shl, q_cpy_n, y_cpy26]
              exact hq M1 hf
        | succ j ih =>
          intro k hk M1 l6 hl6 hf
          have ih2 := ih (k + 1) (by omega)
          have hb := F_ct_le (V := V) (S := cW M 11) (p := N) k
          rw [F_ct] at ih2
          generalize hX : F_ct V (cW M 11) N k = X at ih2 hb
          obtain ⟨best, few⟩ := X
          simp only at ih2 hb ⊢
          rw [b_X5_cart_32]
          simp (disch := omega) only [b_X5_cart_0, x_loadR_0, x_loadS_0, x_loadI_1, y_if_ne_t, y_if_ne_f, b_X5_cart_8, x_iconst, x_ret0, b_X5_cart_11, x_loadI_2, y_if_lt_t, y_if_lt_f, b_X5_cart_15, y_ic_le_t, y_ic_le_f, b_X5_cart_20, b_X5_cart_23, x_storeI_3, x_storeI_4, x_storeI_5, x_loadI_5, y_ic_ge_t, y_ic_ge_f, b_X5_cart_39, f_5_4, f_5_3, x_loadI_4, x_isub, x_storeI_6, x_loadI_6, b_X5_cart_77, b_X5_cart_84, x_iinc_5, x_goto, b_X5_cart_90, x_loadI_3, y_ic_ne_t, y_ic_ne_f, b_X5_cart_95, b_X5_cart_97, b_X5_cart_101, b_X5_cart_105, b_X5_cart_107, q_isL_I, q_isL_R, q_isL_S, true_and, and_true, and_self, List.length_nil, List.length_cons, Nat.zero_add, x_K, x_Kn, Int.reduceToNat, Nat.reduceAdd, Nat.reduceMul, Nat.reduceLeDiff, Nat.reduceLT, Nat.zero_le, Int.reduceAdd, Int.reduceSub, Int.reduceMul, Int.reduceNeg, q_add_e, q_sub_e, q_mul_e, q_neg_e, q_upd_s, q_upd_n, zr_shr0, zr_shr1, zr_shr2, zr_shr3, zr_shr4, zr_and, zr_dyn8, zr_or, zr_shl, q_cpy_n, y_cpy26, c_X4_copyFrom]
          refine sp_think C hf (fun M2 h2 => ?_)
          obtain ⟨t1, t2, t3, t4, t5, t6⟩ := h2
          have lay : ∀ (nx : Nat) (ops : List Instr) (ls st : List q_V), (q_T 1 (d + 6) qP_X5_cart nx ops ls st g (q_upd (q_upd M2 (38 + 24) N k) (38 + 3) N 5) Q) → q_S 1 (d + 5) 51 [qR 4 38, qI N, qI k] g M2 (q_K 1 (d + 6) qP_X5_cart nx ops ls st Q) := fun nx ops ls st h => sp_lay (by omega) h
          simp (disch := omega) only [b_X5_cart_0, x_loadR_0, x_loadS_0, x_loadI_1, y_if_ne_t, y_if_ne_f, b_X5_cart_8, x_iconst, x_ret0, b_X5_cart_11, x_loadI_2, y_if_lt_t, y_if_lt_f, b_X5_cart_15, y_ic_le_t, y_ic_le_f, b_X5_cart_20, b_X5_cart_23, x_storeI_3, x_storeI_4, x_storeI_5, x_loadI_5, y_ic_ge_t, y_ic_ge_f, b_X5_cart_39, f_5_4, f_5_3, x_loadI_4, x_isub, x_storeI_6, x_loadI_6, b_X5_cart_77, b_X5_cart_84, x_iinc_5, x_goto, b_X5_cart_90, x_loadI_3, y_ic_ne_t, y_ic_ne_f, b_X5_cart_95, b_X5_cart_97, b_X5_cart_101, b_X5_cart_105, b_X5_cart_107, q_isL_I, q_isL_R, q_isL_S, true_and, and_true, and_self, List.length_nil, List.length_cons, Nat.zero_add, x_K, x_Kn, Int.reduceToNat, Nat.reduceAdd, Nat.reduceMul, Nat.reduceLeDiff, Nat.reduceLT, Nat.zero_le, Int.reduceAdd, Int.reduceSub, Int.reduceMul, Int.reduceNeg, q_add_e, q_sub_e, q_mul_e, q_neg_e, q_upd_s, q_upd_n, zr_shr0, zr_shr1, zr_shr2, zr_shr3, zr_shr4, zr_and, zr_dyn8, zr_or, zr_shl, q_cpy_n, y_cpy26, c_X4_lay]
          refine lay _ _ _ _ ?_
          have cl := cW_lay (M := M2) (w := 38) (p := N) (wh := (k : Int)) (by rw [t5]; omega)
          rw [t2] at cl
          have fin : ∀ (M3 : q_M) (y : Int), q_tq M M3 → y = F_ctY V (cW M 11) N k few → q_T 1 (d + 6) qP_X5_cart 77 [.istore 6, .iload 6, .ifCond .lt (84)] [qR 5 0, qI N, qI wt, qI best, qI few, qI k, l6] [qI y] g M3 Q := by
            intro M3 y h3 hy
            rw [← hy] at ih2
            by_cases c5 : 0 ≤ y
            · rw [if_pos c5] at ih2
              simp (disch := omega) only [b_X5_cart_0, x_loadR_0, x_loadS_0, x_loadI_1, y_if_ne_t, y_if_ne_f, b_X5_cart_8, x_iconst, x_ret0, b_X5_cart_11, x_loadI_2, y_if_lt_t, y_if_lt_f, b_X5_cart_15, y_ic_le_t, y_ic_le_f, b_X5_cart_20, b_X5_cart_23, x_storeI_3, x_storeI_4, x_storeI_5, x_loadI_5, y_ic_ge_t, y_ic_ge_f, b_X5_cart_39, f_5_4, f_5_3, x_loadI_4, x_isub, x_storeI_6, x_loadI_6, b_X5_cart_77, b_X5_cart_84, x_iinc_5, x_goto, b_X5_cart_90, x_loadI_3, y_ic_ne_t, y_ic_ne_f, b_X5_cart_95, b_X5_cart_97, b_X5_cart_101, b_X5_cart_105, b_X5_cart_107, q_isL_I, q_isL_R, q_isL_S, true_and, and_true, and_self, List.length_nil, List.length_cons, Nat.zero_add, x_K, x_Kn, Int.reduceToNat, Nat.reduceAdd, Nat.reduceMul, Nat.reduceLeDiff, Nat.reduceLT, Nat.zero_le, Int.reduceAdd, Int.reduceSub, Int.reduceMul, Int.reduceNeg, q_add_e, q_sub_e, q_mul_e, q_neg_e, q_upd_s, q_upd_n, zr_shr0, zr_shr1, zr_shr2, zr_shr3, zr_shr4, zr_and, zr_dyn8, zr_or, zr_shl, q_cpy_n, y_cpy26, hl6]
              exact ih2 M3 _ rfl h3
            · rw [if_neg c5] at ih2
              simp (disch := omega) only [b_X5_cart_0, x_loadR_0, x_loadS_0, x_loadI_1, y_if_ne_t, y_if_ne_f, b_X5_cart_8, x_iconst, x_ret0, b_X5_cart_11, x_loadI_2, y_if_lt_t, y_if_lt_f, b_X5_cart_15, y_ic_le_t, y_ic_le_f, b_X5_cart_20, b_X5_cart_23, x_storeI_3, x_storeI_4, x_storeI_5, x_loadI_5, y_ic_ge_t, y_ic_ge_f, b_X5_cart_39, f_5_4, f_5_3, x_loadI_4, x_isub, x_storeI_6, x_loadI_6, b_X5_cart_77, b_X5_cart_84, x_iinc_5, x_goto, b_X5_cart_90, x_loadI_3, y_ic_ne_t, y_ic_ne_f, b_X5_cart_95, b_X5_cart_97, b_X5_cart_101, b_X5_cart_105, b_X5_cart_107, q_isL_I, q_isL_R, q_isL_S, true_and, and_true, and_self, List.length_nil, List.length_cons, Nat.zero_add, x_K, x_Kn, Int.reduceToNat, Nat.reduceAdd, Nat.reduceMul, Nat.reduceLeDiff, Nat.reduceLT, Nat.zero_le, Int.reduceAdd, Int.reduceSub, Int.reduceMul, Int.reduceNeg, q_add_e, q_sub_e, q_mul_e, q_neg_e, q_upd_s, q_upd_n, zr_shr0, zr_shr1, zr_shr2, zr_shr3, zr_shr4, zr_and, zr_dyn8, zr_or, zr_shl, q_cpy_n, y_cpy26, hl6]
              exact ih2 M3 _ rfl h3
          by_cases c6 : few = 0
          · subst c6
            simp (disch := omega) only [b_X5_cart_0, x_loadR_0, x_loadS_0, x_loadI_1, y_if_ne_t, y_if_ne_f, b_X5_cart_8, x_iconst, x_ret0, b_X5_cart_11, x_loadI_2, y_if_lt_t, y_if_lt_f, b_X5_cart_15, y_ic_le_t, y_ic_le_f, b_X5_cart_20, b_X5_cart_23, x_storeI_3, x_storeI_4, x_storeI_5, x_loadI_5, y_ic_ge_t, y_ic_ge_f, b_X5_cart_39, f_5_4, f_5_3, x_loadI_4, x_isub, x_storeI_6, x_loadI_6, b_X5_cart_84, x_iinc_5, x_goto, b_X5_cart_90, x_loadI_3, y_ic_ne_t, y_ic_ne_f, b_X5_cart_95, b_X5_cart_97, b_X5_cart_101, b_X5_cart_105, b_X5_cart_107, q_isL_I, q_isL_R, q_isL_S, true_and, and_true, and_self, List.length_nil, List.length_cons, Nat.zero_add, x_K, x_Kn, Int.reduceToNat, Nat.reduceAdd, Nat.reduceMul, Nat.reduceLeDiff, Nat.reduceLT, Nat.zero_le, Int.reduceAdd, Int.reduceSub, Int.reduceMul, Int.reduceNeg, q_add_e, q_sub_e, q_mul_e, q_neg_e, q_upd_s, q_upd_n, zr_shr0, zr_shr1, zr_shr2, zr_shr3, zr_shr4, zr_and, zr_dyn8, zr_or, zr_shl, q_cpy_n, y_cpy26, c_X5_yearsTillIn]
            refine sp_tillN ?_
            simp only [x_K]
            exact fin _ _ (q_tq_up (q_tq_up t6 (by omega) (by omega) (by omega)) (by omega) (by omega) (by omega)) (if_pos rfl).symm
          · obtain ⟨K, hK⟩ : ∃ K : Nat, few - 1 = K := ⟨(few - 1).toNat, by omega⟩
            simp (disch := omega) only [b_X5_cart_0, x_loadR_0, x_loadS_0, x_loadI_1, y_if_ne_t, y_if_ne_f, b_X5_cart_8, x_iconst, x_ret0, b_X5_cart_11, x_loadI_2, y_if_lt_t, y_if_lt_f, b_X5_cart_15, y_ic_le_t, y_ic_le_f, b_X5_cart_20, b_X5_cart_23, x_storeI_3, x_storeI_4, x_storeI_5, x_loadI_5, y_ic_ge_t, y_ic_ge_f, b_X5_cart_39, f_5_4, f_5_3, x_loadI_4, x_isub, x_storeI_6, x_loadI_6, b_X5_cart_84, x_iinc_5, x_goto, b_X5_cart_90, x_loadI_3, y_ic_ne_t, y_ic_ne_f, b_X5_cart_95, b_X5_cart_97, b_X5_cart_101, b_X5_cart_105, b_X5_cart_107, q_isL_I, q_isL_R, q_isL_S, true_and, and_true, and_self, List.length_nil, List.length_cons, Nat.zero_add, x_K, x_Kn, Int.reduceToNat, Nat.reduceAdd, Nat.reduceMul, Nat.reduceLeDiff, Nat.reduceLT, Nat.zero_le, Int.reduceAdd, Int.reduceSub, Int.reduceMul, Int.reduceNeg, q_add_e, q_sub_e, q_mul_e, q_neg_e, q_upd_s, q_upd_n, zr_shr0, zr_shr1, zr_shr2, zr_shr3, zr_shr4, zr_and, zr_dyn8, zr_or, zr_shl, q_cpy_n, y_cpy26, hK, c_X5_yearsTillIn]
            refine sp_till (V := V) (ta := ta) (n := K) (by omega) (by omega) (by rw [q_upd_n (by omega), q_upd_n (by omega), t5]; omega) (q_wl_up (q_wl_up t1 (by omega)) (by omega)) (fun a q1 => by rw [q_upd_n (by omega), q_upd_n (by omega)]; exact t3.1 a q1) (by rw [q_upd_n (by omega), q_upd_n (by omega)]; omega) (fun M3 h3 => ?_)
            simp only [x_K]
            refine fin _ _ (q_tq_tr (q_tq_up (q_tq_up t6 (by omega) (by omega) (by omega)) (by omega) (by omega) (by omega)) (q_tq_th C.1 h3)) ?_
            unfold F_ctY
            rw [if_neg c6, cl, show (few - 1).toNat = K by omega]
      simp (disch := omega) only [b_X5_cart_0, x_loadR_0, x_loadS_0, x_loadI_1, y_if_ne_t, y_if_ne_f, b_X5_cart_8, x_iconst, x_ret0, b_X5_cart_11, x_loadI_2, y_if_lt_t, y_if_lt_f, b_X5_cart_15, y_ic_le_t, y_ic_le_f, b_X5_cart_20, b_X5_cart_23, x_storeI_3, x_storeI_4, x_storeI_5, x_loadI_5, y_ic_ge_t, y_ic_ge_f, b_X5_cart_39, f_5_4, f_5_3, x_loadI_4, x_isub, x_storeI_6, x_loadI_6, b_X5_cart_77, b_X5_cart_84, x_iinc_5, x_goto, b_X5_cart_90, x_loadI_3, y_ic_ne_t, y_ic_ne_f, b_X5_cart_95, b_X5_cart_97, b_X5_cart_101, b_X5_cart_105, b_X5_cart_107, q_isL_I, q_isL_R, q_isL_S, true_and, and_true, and_self, List.length_nil, List.length_cons, Nat.zero_add, x_K, x_Kn, Int.reduceToNat, Nat.reduceAdd, Nat.reduceMul, Nat.reduceLeDiff, Nat.reduceLT, Nat.zero_le, Int.reduceAdd, Int.reduceSub, Int.reduceMul, Int.reduceNeg, q_add_e, q_sub_e, q_mul_e, q_neg_e, q_upd_s, q_upd_n, zr_shr0, zr_shr1, zr_shr2, zr_shr3, zr_shr4, zr_and, zr_dyn8, zr_or, zr_shl, q_cpy_n, y_cpy26, c_X5_isStone, sp_isStone, c1, and_self, if_true]
      exact loop 100 0 rfl M _ rfl q_tq_rf
  · rw [if_pos c1] at hq
    simp (disch := omega) only [b_X5_cart_0, x_loadR_0, x_loadS_0, x_loadI_1, y_if_ne_t, y_if_ne_f, b_X5_cart_8, x_iconst, x_ret0, b_X5_cart_11, x_loadI_2, y_if_lt_t, y_if_lt_f, b_X5_cart_15, y_ic_le_t, y_ic_le_f, b_X5_cart_20, b_X5_cart_23, x_storeI_3, x_storeI_4, x_storeI_5, x_loadI_5, y_ic_ge_t, y_ic_ge_f, b_X5_cart_39, f_5_4, f_5_3, x_loadI_4, x_isub, x_storeI_6, x_loadI_6, b_X5_cart_77, b_X5_cart_84, x_iinc_5, x_goto, b_X5_cart_90, x_loadI_3, y_ic_ne_t, y_ic_ne_f, b_X5_cart_95, b_X5_cart_97, b_X5_cart_101, b_X5_cart_105, b_X5_cart_107, q_isL_I, q_isL_R, q_isL_S, true_and, and_true, and_self, List.length_nil, List.length_cons, Nat.zero_add, x_K, x_Kn, Int.reduceToNat, Nat.reduceAdd, Nat.reduceMul, Nat.reduceLeDiff, Nat.reduceLT, Nat.zero_le, Int.reduceAdd, Int.reduceSub, Int.reduceMul, Int.reduceNeg, q_add_e, q_sub_e, q_mul_e, q_neg_e, q_upd_s, q_upd_n, zr_shr0, zr_shr1, zr_shr2, zr_shr3, zr_shr4, zr_and, zr_dyn8, zr_or, zr_shl, q_cpy_n, y_cpy26, c_X5_isStone, sp_isStone, c1, if_false]
    exact hq M q_tq_rf
