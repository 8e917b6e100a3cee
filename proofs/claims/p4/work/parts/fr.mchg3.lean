/-! THE MODEL: copies, stones by a sheet, images, just so -/
def B_copy (M : q_M) (s i o j n : Int) : Int :=
  if ¬((0 ≤ s ∧ s < 4) ∧ (0 ≤ o ∧ o < 4)) then -2
  else if M 110 s.toNat = -1 ∨ M 110 o.toNat = -1 then -11
  else if M 110 s.toNat ≠ M 110 o.toNat then -13
  else if n < 0 ∨ i < 0 ∨ j < 0 ∨ M 111 s.toNat - n < i ∨ M 111 o.toNat - n < j then -12 else n
set_option maxHeartbeats 4000000 in
theorem mx_copy {Vt : Nat → Nat → (Nat → Int) → Int} {d tm : Nat} {g : q_G} {M : q_M} {s i o j n : Int} {Q : Option q_V → q_G → q_M → Prop} (hI : q_MI Vt tm M) (hq0 : B_copy M s i o j n < 0 → Q (some (qI (B_copy M s i o j n))) g M) (hq1 : B_copy M s i o j n = n → 0 ≤ n → Q (some (qI n)) g (q_cpy M 112 (40 * s.toNat + i.toNat) 112 (40 * o.toNat + j.toNat) n.toNat)) : q_S 1 (d + 11) 195 [qR 6 100, qI s, qI i, qI o, qI j, qI n] g M Q := by
  have n0 := hI.1.1
  rw [s_X6_copy]
  unfold B_copy at hq0 hq1
  by_cases c1 : 0 ≤ s ∧ s ≤ 3
  · by_cases c2 : 0 ≤ o ∧ o ≤ 3
    · obtain ⟨S, rfl⟩ : ∃ S : Nat, s = S := ⟨s.toNat, by omega⟩
      obtain ⟨O, rfl⟩ : ∃ O : Nat, o = O := ⟨o.toNat, by omega⟩
      have hz := hI.2.2.2.1 S (by omega)
      have hz2 := hI.2.2.2.1 O (by omega)
      rw [if_neg (show ¬¬((0 ≤ (S : Int) ∧ (S : Int) < 4) ∧ (0 ≤ (O : Int) ∧ (O : Int) < 4)) by omega), Int.toNat_natCast, Int.toNat_natCast] at hq0 hq1
      have loop : ∀ (a b N : Nat), a + N ≤ 160 → b + N ≤ 160 → N ≤ 40 → n = N → Q (some (qI n)) g (q_cpy M 112 a 112 b N) → ∀ e k : Nat, k + e = N → ∀ (M1 : q_M) (l9 : q_V), q_isL l9 = false → (M1 = fun x y => if x = 112 ∧ (if a < b then b + N - k ≤ y ∧ y < b + N else b ≤ y ∧ y < b + k) then M 112 (a + (y - b)) else M x y) → q_T 1 (d + 11) qP_X6_copy 147 [] [qR 6 100, qI S, qI i, qI O, qI j, qI n, qI a, qI b, qI k, l9] [] g M1 Q := by
        intro a b N ha hb hN hnN hq e
        induction e with
        | zero =>
          intro k hk M1 l9 hl9 hM
          rw [b_X6_copy_147]
          simp (disch := omega) only [b_X6_copy_0, x_loadI_1, x_iconst, y_if_eq_t, y_if_eq_f, b_X6_copy_9, x_loadI_3, y_if_ne_t, y_if_ne_f, b_X6_copy_18, x_ret0, b_X6_copy_21, x_loadR_0, x_loadS_0, f_6_15, y_iald_24, y_iald_180, y_ic_eq_t, y_ic_eq_f, b_X6_copy_31, y_ic_ne_t, y_ic_ne_f, b_X6_copy_41, b_X6_copy_44, b_X6_copy_59, b_X6_copy_62, x_loadI_5, y_if_lt_t, y_if_lt_f, b_X6_copy_67, x_loadI_2, b_X6_copy_71, x_loadI_4, b_X6_copy_76, f_6_16, y_ic_gt_t, y_ic_gt_f, b_X6_copy_86, b_X6_copy_97, x_isub, b_X6_copy_110, y_ic_le_t, y_ic_le_f, b_X6_copy_124, b_X6_copy_127, x_imul, x_iadd, x_storeI_6, x_storeI_7, x_storeI_8, x_loadI_8, y_ic_ge_t, y_ic_ge_f, b_X6_copy_154, x_loadI_6, x_loadI_7, b_X6_copy_161, x_goto, b_X6_copy_171, b_X6_copy_173, x_storeI_9, f_6_17, x_loadI_9, y_iast_24, y_iast_180, x_iinc_8, b_X6_copy_201, q_isL_I, q_isL_R, q_isL_S, true_and, and_true, and_self, List.length_nil, List.length_cons, Nat.zero_add, x_K, x_Kn, Int.reduceToNat, Nat.reduceAdd, Nat.reduceMul, Nat.reduceLeDiff, Nat.reduceLT, Nat.zero_le, Int.reduceAdd, Int.reduceSub, Int.reduceMul, Int.reduceNeg, q_add_e, q_sub_e, q_mul_e, q_neg_e, q_upd_s, q_upd_n, zr_shr0, zr_shr1, zr_shr2, zr_shr3, zr_shr4, zr_and, zr_dyn8, zr_or, zr_shl, q_cpy_n, y_cpy26]
          have e1 : M1 = q_cpy M 112 a 112 b N := by
            rw [hM]
            funext x y
            unfold q_cpy
            by_cases c : x = 112 ∧ b ≤ y ∧ y < b + N
            · rw [if_pos c, if_pos ⟨c.1, by split <;> omega⟩]
            · rw [if_neg c, if_neg (fun z => c ⟨z.1, by have := z.2; split at this <;> omega⟩)]
          rw [e1]
          exact hq
        | succ e ih =>
          intro k hk M1 l9 hl9 hM
          rw [b_X6_copy_147]
          by_cases k1 : a < b
          · simp only [k1, if_true] at ih hM
            have hr : M1 112 (a + (N - 1 - k)) = M 112 (a + (N - 1 - k)) := by
              rw [hM]
              exact if_neg (by omega)
            have t1 : ((a : Int) + (n - 1 - (k : Int))).toNat = a + (N - 1 - k) := by omega
            have t2 : ((b : Int) + (n - 1 - (k : Int))).toNat = b + (N - 1 - k) := by omega
            simp (disch := omega) only [b_X6_copy_0, x_loadI_1, x_iconst, y_if_eq_t, y_if_eq_f, b_X6_copy_9, x_loadI_3, y_if_ne_t, y_if_ne_f, b_X6_copy_18, x_ret0, b_X6_copy_21, x_loadR_0, x_loadS_0, f_6_15, y_iald_24, y_iald_180, y_ic_eq_t, y_ic_eq_f, b_X6_copy_31, y_ic_ne_t, y_ic_ne_f, b_X6_copy_41, b_X6_copy_44, b_X6_copy_59, b_X6_copy_62, x_loadI_5, y_if_lt_t, y_if_lt_f, b_X6_copy_67, x_loadI_2, b_X6_copy_71, x_loadI_4, b_X6_copy_76, f_6_16, y_ic_gt_t, y_ic_gt_f, b_X6_copy_86, b_X6_copy_97, x_isub, b_X6_copy_110, y_ic_le_t, y_ic_le_f, b_X6_copy_124, b_X6_copy_127, x_imul, x_iadd, x_storeI_6, x_storeI_7, x_storeI_8, x_loadI_8, y_ic_ge_t, y_ic_ge_f, b_X6_copy_154, x_loadI_6, x_loadI_7, b_X6_copy_161, x_goto, b_X6_copy_171, b_X6_copy_173, x_storeI_9, f_6_17, x_loadI_9, y_iast_24, y_iast_180, x_iinc_8, b_X6_copy_201, q_isL_I, q_isL_R, q_isL_S, true_and, and_true, and_self, List.length_nil, List.length_cons, Nat.zero_add, x_K, x_Kn, Int.reduceToNat, Nat.reduceAdd, Nat.reduceMul, Nat.reduceLeDiff, Nat.reduceLT, Nat.zero_le, Int.reduceAdd, Int.reduceSub, Int.reduceMul, Int.reduceNeg, q_add_e, q_sub_e, q_mul_e, q_neg_e, q_upd_s, q_upd_n, zr_shr0, zr_shr1, zr_shr2, zr_shr3, zr_shr4, zr_and, zr_dyn8, zr_or, zr_shl, q_cpy_n, y_cpy26, hl9, t1, t2, hr]
            refine ih (k + 1) (by omega) _ _ rfl ?_
            funext x y
            by_cases c : x = 112 ∧ y = b + (N - 1 - k)
            · obtain ⟨rfl, rfl⟩ := c
              rw [q_upd_s, if_pos ⟨rfl, by omega, by omega⟩, show b + (N - 1 - k) - b = N - 1 - k by omega]
            · rw [q_upd_n (by omega), hM]
              dsimp only
              by_cases c2 : x = 112 ∧ b + N - k ≤ y ∧ y < b + N
              · rw [if_pos c2, if_pos ⟨c2.1, by omega, c2.2.2⟩]
              · rw [if_neg c2, if_neg (by omega)]
          · simp only [k1, if_false] at ih hM
            have hr : M1 112 (a + k) = M 112 (a + k) := by
              rw [hM]
              exact if_neg (by omega)
            have t1 : ((a : Int) + (k : Int)).toNat = a + k := by omega
            have t2 : ((b : Int) + (k : Int)).toNat = b + k := by omega
            simp (disch := omega) only [b_X6_copy_0, x_loadI_1, x_iconst, y_if_eq_t, y_if_eq_f, b_X6_copy_9, x_loadI_3, y_if_ne_t, y_if_ne_f, b_X6_copy_18, x_ret0, b_X6_copy_21, x_loadR_0, x_loadS_0, f_6_15, y_iald_24, y_iald_180, y_ic_eq_t, y_ic_eq_f, b_X6_copy_31, y_ic_ne_t, y_ic_ne_f, b_X6_copy_41, b_X6_copy_44, b_X6_copy_59, b_X6_copy_62, x_loadI_5, y_if_lt_t, y_if_lt_f, b_X6_copy_67, x_loadI_2, b_X6_copy_71, x_loadI_4, b_X6_copy_76, f_6_16, y_ic_gt_t, y_ic_gt_f, b_X6_copy_86, b_X6_copy_97, x_isub, b_X6_copy_110, y_ic_le_t, y_ic_le_f, b_X6_copy_124, b_X6_copy_127, x_imul, x_iadd, x_storeI_6, x_storeI_7, x_storeI_8, x_loadI_8, y_ic_ge_t, y_ic_ge_f, b_X6_copy_154, x_loadI_6, x_loadI_7, b_X6_copy_161, x_goto, b_X6_copy_171, b_X6_copy_173, x_storeI_9, f_6_17, x_loadI_9, y_iast_24, y_iast_180, x_iinc_8, b_X6_copy_201, q_isL_I, q_isL_R, q_isL_S, true_and, and_true, and_self, List.length_nil, List.length_cons, Nat.zero_add, x_K, x_Kn, Int.reduceToNat, Nat.reduceAdd, Nat.reduceMul, Nat.reduceLeDiff, Nat.reduceLT, Nat.zero_le, Int.reduceAdd, Int.reduceSub, Int.reduceMul, Int.reduceNeg, q_add_e, q_sub_e, q_mul_e, q_neg_e, q_upd_s, q_upd_n, zr_shr0, zr_shr1, zr_shr2, zr_shr3, zr_shr4, zr_and, zr_dyn8, zr_or, zr_shl, q_cpy_n, y_cpy26, hl9, t1, t2, hr]
            refine ih (k + 1) (by omega) _ _ rfl ?_
            funext x y
            by_cases c : x = 112 ∧ y = b + k
            · obtain ⟨rfl, rfl⟩ := c
              rw [q_upd_s, if_pos ⟨rfl, by omega, by omega⟩, show b + k - b = k by omega]
            · rw [q_upd_n (by omega), hM]
              dsimp only
              by_cases c2 : x = 112 ∧ b ≤ y ∧ y < b + k
              · rw [if_pos c2, if_pos ⟨c2.1, c2.2.1, by omega⟩]
              · rw [if_neg c2, if_neg (by omega)]
      simp (disch := omega) only [b_X6_copy_0, x_loadI_1, x_iconst, y_if_eq_t, y_if_eq_f, b_X6_copy_9, x_loadI_3, y_if_ne_t, y_if_ne_f, b_X6_copy_18, x_ret0, b_X6_copy_21, x_loadR_0, x_loadS_0, f_6_15, y_iald_24, y_iald_180, y_ic_eq_t, y_ic_eq_f, b_X6_copy_31, y_ic_ne_t, y_ic_ne_f, b_X6_copy_41, b_X6_copy_44, b_X6_copy_59, b_X6_copy_62, x_loadI_5, y_if_lt_t, y_if_lt_f, b_X6_copy_67, x_loadI_2, b_X6_copy_71, x_loadI_4, b_X6_copy_76, f_6_16, y_ic_gt_t, y_ic_gt_f, b_X6_copy_86, b_X6_copy_97, x_isub, b_X6_copy_110, y_ic_le_t, y_ic_le_f, b_X6_copy_124, b_X6_copy_127, x_imul, x_iadd, x_storeI_6, x_storeI_7, x_storeI_8, x_loadI_8, y_ic_ge_t, y_ic_ge_f, b_X6_copy_154, x_loadI_6, x_loadI_7, b_X6_copy_161, x_goto, b_X6_copy_171, b_X6_copy_173, x_storeI_9, f_6_17, x_loadI_9, y_iast_24, y_iast_180, x_iinc_8, b_X6_copy_201, q_isL_I, q_isL_R, q_isL_S, true_and, and_true, and_self, List.length_nil, List.length_cons, Nat.zero_add, x_K, x_Kn, Int.reduceToNat, Nat.reduceAdd, Nat.reduceMul, Nat.reduceLeDiff, Nat.reduceLT, Nat.zero_le, Int.reduceAdd, Int.reduceSub, Int.reduceMul, Int.reduceNeg, q_add_e, q_sub_e, q_mul_e, q_neg_e, q_upd_s, q_upd_n, zr_shr0, zr_shr1, zr_shr2, zr_shr3, zr_shr4, zr_and, zr_dyn8, zr_or, zr_shl, q_cpy_n, y_cpy26, c_X6_in, mp_in, c1, c2, and_self, if_true, Int.toNat_natCast]
      by_cases k1 : M 110 S = -1
      · rw [if_pos (Or.inl k1)] at hq0
        simp (disch := omega) only [b_X6_copy_0, x_loadI_1, x_iconst, y_if_eq_t, y_if_eq_f, b_X6_copy_9, x_loadI_3, y_if_ne_t, y_if_ne_f, b_X6_copy_18, x_ret0, b_X6_copy_21, x_loadR_0, x_loadS_0, f_6_15, y_iald_24, y_iald_180, y_ic_eq_t, y_ic_eq_f, b_X6_copy_31, y_ic_ne_t, y_ic_ne_f, b_X6_copy_41, b_X6_copy_44, b_X6_copy_59, b_X6_copy_62, x_loadI_5, y_if_lt_t, y_if_lt_f, b_X6_copy_67, x_loadI_2, b_X6_copy_71, x_loadI_4, b_X6_copy_76, f_6_16, y_ic_gt_t, y_ic_gt_f, b_X6_copy_86, b_X6_copy_97, x_isub, b_X6_copy_110, y_ic_le_t, y_ic_le_f, b_X6_copy_124, b_X6_copy_127, x_imul, x_iadd, x_storeI_6, x_storeI_7, x_storeI_8, x_loadI_8, y_ic_ge_t, y_ic_ge_f, b_X6_copy_154, x_loadI_6, x_loadI_7, b_X6_copy_161, x_goto, b_X6_copy_171, b_X6_copy_173, x_storeI_9, f_6_17, x_loadI_9, y_iast_24, y_iast_180, x_iinc_8, b_X6_copy_201, q_isL_I, q_isL_R, q_isL_S, true_and, and_true, and_self, List.length_nil, List.length_cons, Nat.zero_add, x_K, x_Kn, Int.reduceToNat, Nat.reduceAdd, Nat.reduceMul, Nat.reduceLeDiff, Nat.reduceLT, Nat.zero_le, Int.reduceAdd, Int.reduceSub, Int.reduceMul, Int.reduceNeg, q_add_e, q_sub_e, q_mul_e, q_neg_e, q_upd_s, q_upd_n, zr_shr0, zr_shr1, zr_shr2, zr_shr3, zr_shr4, zr_and, zr_dyn8, zr_or, zr_shl, q_cpy_n, y_cpy26, Int.toNat_natCast]
        exact hq0 (by decide)
      by_cases k2 : M 110 O = -1
      · rw [if_pos (Or.inr k2)] at hq0
        simp (disch := omega) only [b_X6_copy_0, x_loadI_1, x_iconst, y_if_eq_t, y_if_eq_f, b_X6_copy_9, x_loadI_3, y_if_ne_t, y_if_ne_f, b_X6_copy_18, x_ret0, b_X6_copy_21, x_loadR_0, x_loadS_0, f_6_15, y_iald_24, y_iald_180, y_ic_eq_t, y_ic_eq_f, b_X6_copy_31, y_ic_ne_t, y_ic_ne_f, b_X6_copy_41, b_X6_copy_44, b_X6_copy_59, b_X6_copy_62, x_loadI_5, y_if_lt_t, y_if_lt_f, b_X6_copy_67, x_loadI_2, b_X6_copy_71, x_loadI_4, b_X6_copy_76, f_6_16, y_ic_gt_t, y_ic_gt_f, b_X6_copy_86, b_X6_copy_97, x_isub, b_X6_copy_110, y_ic_le_t, y_ic_le_f, b_X6_copy_124, b_X6_copy_127, x_imul, x_iadd, x_storeI_6, x_storeI_7, x_storeI_8, x_loadI_8, y_ic_ge_t, y_ic_ge_f, b_X6_copy_154, x_loadI_6, x_loadI_7, b_X6_copy_161, x_goto, b_X6_copy_171, b_X6_copy_173, x_storeI_9, f_6_17, x_loadI_9, y_iast_24, y_iast_180, x_iinc_8, b_X6_copy_201, q_isL_I, q_isL_R, q_isL_S, true_and, and_true, and_self, List.length_nil, List.length_cons, Nat.zero_add, x_K, x_Kn, Int.reduceToNat, Nat.reduceAdd, Nat.reduceMul, Nat.reduceLeDiff, Nat.reduceLT, Nat.zero_le, Int.reduceAdd, Int.reduceSub, Int.reduceMul, Int.reduceNeg, q_add_e, q_sub_e, q_mul_e, q_neg_e, q_upd_s, q_upd_n, zr_shr0, zr_shr1, zr_shr2, zr_shr3, zr_shr4, zr_and, zr_dyn8, zr_or, zr_shl, q_cpy_n, y_cpy26, Int.toNat_natCast]
        exact hq0 (by decide)
      rw [if_neg (fun z => z.elim k1 k2)] at hq0 hq1
      by_cases k3 : M 110 S = M 110 O
      · rw [if_neg (fun z => z k3)] at hq0 hq1
        by_cases kk : n < 0 ∨ i < 0 ∨ j < 0 ∨ M 111 S - n < i ∨ M 111 O - n < j
        · rw [if_pos kk] at hq0
          have hq := hq0 (by decide)
          by_cases k4 : n < 0
          · simp (disch := omega) only [b_X6_copy_0, x_loadI_1, x_iconst, y_if_eq_t, y_if_eq_f, b_X6_copy_9, x_loadI_3, y_if_ne_t, y_if_ne_f, b_X6_copy_18, x_ret0, b_X6_copy_21, x_loadR_0, x_loadS_0, f_6_15, y_iald_24, y_iald_180, y_ic_eq_t, y_ic_eq_f, b_X6_copy_31, y_ic_ne_t, y_ic_ne_f, b_X6_copy_41, b_X6_copy_44, b_X6_copy_59, b_X6_copy_62, x_loadI_5, y_if_lt_t, y_if_lt_f, b_X6_copy_67, x_loadI_2, b_X6_copy_71, x_loadI_4, b_X6_copy_76, f_6_16, y_ic_gt_t, y_ic_gt_f, b_X6_copy_86, b_X6_copy_97, x_isub, b_X6_copy_110, y_ic_le_t, y_ic_le_f, b_X6_copy_124, b_X6_copy_127, x_imul, x_iadd, x_storeI_6, x_storeI_7, x_storeI_8, x_loadI_8, y_ic_ge_t, y_ic_ge_f, b_X6_copy_154, x_loadI_6, x_loadI_7, b_X6_copy_161, x_goto, b_X6_copy_171, b_X6_copy_173, x_storeI_9, f_6_17, x_loadI_9, y_iast_24, y_iast_180, x_iinc_8, b_X6_copy_201, q_isL_I, q_isL_R, q_isL_S, true_and, and_true, and_self, List.length_nil, List.length_cons, Nat.zero_add, x_K, x_Kn, Int.reduceToNat, Nat.reduceAdd, Nat.reduceMul, Nat.reduceLeDiff, Nat.reduceLT, Nat.zero_le, Int.reduceAdd, Int.reduceSub, Int.reduceMul, Int.reduceNeg, q_add_e, q_sub_e, q_mul_e, q_neg_e, q_upd_s, q_upd_n, zr_shr0, zr_shr1, zr_shr2, zr_shr3, zr_shr4, zr_and, zr_dyn8, zr_or, zr_shl, q_cpy_n, y_cpy26, Int.toNat_natCast]
            exact hq
          by_cases k5 : i < 0
          · simp (disch := omega) only [b_X6_copy_0, x_loadI_1, x_iconst, y_if_eq_t, y_if_eq_f, b_X6_copy_9, x_loadI_3, y_if_ne_t, y_if_ne_f, b_X6_copy_18, x_ret0, b_X6_copy_21, x_loadR_0, x_loadS_0, f_6_15, y_iald_24, y_iald_180, y_ic_eq_t, y_ic_eq_f, b_X6_copy_31, y_ic_ne_t, y_ic_ne_f, b_X6_copy_41, b_X6_copy_44, b_X6_copy_59, b_X6_copy_62, x_loadI_5, y_if_lt_t, y_if_lt_f, b_X6_copy_67, x_loadI_2, b_X6_copy_71, x_loadI_4, b_X6_copy_76, f_6_16, y_ic_gt_t, y_ic_gt_f, b_X6_copy_86, b_X6_copy_97, x_isub, b_X6_copy_110, y_ic_le_t, y_ic_le_f, b_X6_copy_124, b_X6_copy_127, x_imul, x_iadd, x_storeI_6, x_storeI_7, x_storeI_8, x_loadI_8, y_ic_ge_t, y_ic_ge_f, b_X6_copy_154, x_loadI_6, x_loadI_7, b_X6_copy_161, x_goto, b_X6_copy_171, b_X6_copy_173, x_storeI_9, f_6_17, x_loadI_9, y_iast_24, y_iast_180, x_iinc_8, b_X6_copy_201, q_isL_I, q_isL_R, q_isL_S, true_and, and_true, and_self, List.length_nil, List.length_cons, Nat.zero_add, x_K, x_Kn, Int.reduceToNat, Nat.reduceAdd, Nat.reduceMul, Nat.reduceLeDiff, Nat.reduceLT, Nat.zero_le, Int.reduceAdd, Int.reduceSub, Int.reduceMul, Int.reduceNeg, q_add_e, q_sub_e, q_mul_e, q_neg_e, q_upd_s, q_upd_n, zr_shr0, zr_shr1, zr_shr2, zr_shr3, zr_shr4, zr_and, zr_dyn8, zr_or, zr_shl, q_cpy_n, y_cpy26, Int.toNat_natCast]
            exact hq
          by_cases k6 : j < 0
          · simp (disch := omega) only [b_X6_copy_0, x_loadI_1, x_iconst, y_if_eq_t, y_if_eq_f, b_X6_copy_9, x_loadI_3, y_if_ne_t, y_if_ne_f, b_X6_copy_18, x_ret0, b_X6_copy_21, x_loadR_0, x_loadS_0, f_6_15, y_iald_24, y_iald_180, y_ic_eq_t, y_ic_eq_f, b_X6_copy_31, y_ic_ne_t, y_ic_ne_f, b_X6_copy_41, b_X6_copy_44, b_X6_copy_59, b_X6_copy_62, x_loadI_5, y_if_lt_t, y_if_lt_f, b_X6_copy_67, x_loadI_2, b_X6_copy_71, x_loadI_4, b_X6_copy_76, f_6_16, y_ic_gt_t, y_ic_gt_f, b_X6_copy_86, b_X6_copy_97, x_isub, b_X6_copy_110, y_ic_le_t, y_ic_le_f, b_X6_copy_124, b_X6_copy_127, x_imul, x_iadd, x_storeI_6, x_storeI_7, x_storeI_8, x_loadI_8, y_ic_ge_t, y_ic_ge_f, b_X6_copy_154, x_loadI_6, x_loadI_7, b_X6_copy_161, x_goto, b_X6_copy_171, b_X6_copy_173, x_storeI_9, f_6_17, x_loadI_9, y_iast_24, y_iast_180, x_iinc_8, b_X6_copy_201, q_isL_I, q_isL_R, q_isL_S, true_and, and_true, and_self, List.length_nil, List.length_cons, Nat.zero_add, x_K, x_Kn, Int.reduceToNat, Nat.reduceAdd, Nat.reduceMul, Nat.reduceLeDiff, Nat.reduceLT, Nat.zero_le, Int.reduceAdd, Int.reduceSub, Int.reduceMul, Int.reduceNeg, q_add_e, q_sub_e, q_mul_e, q_neg_e, q_upd_s, q_upd_n, zr_shr0, zr_shr1, zr_shr2, zr_shr3, zr_shr4, zr_and, zr_dyn8, zr_or, zr_shl, q_cpy_n, y_cpy26, Int.toNat_natCast]
            exact hq
          by_cases k7 : M 111 S < i
          · simp (disch := omega) only [b_X6_copy_0, x_loadI_1, x_iconst, y_if_eq_t, y_if_eq_f, b_X6_copy_9, x_loadI_3, y_if_ne_t, y_if_ne_f, b_X6_copy_18, x_ret0, b_X6_copy_21, x_loadR_0, x_loadS_0, f_6_15, y_iald_24, y_iald_180, y_ic_eq_t, y_ic_eq_f, b_X6_copy_31, y_ic_ne_t, y_ic_ne_f, b_X6_copy_41, b_X6_copy_44, b_X6_copy_59, b_X6_copy_62, x_loadI_5, y_if_lt_t, y_if_lt_f, b_X6_copy_67, x_loadI_2, b_X6_copy_71, x_loadI_4, b_X6_copy_76, f_6_16, y_ic_gt_t, y_ic_gt_f, b_X6_copy_86, b_X6_copy_97, x_isub, b_X6_copy_110, y_ic_le_t, y_ic_le_f, b_X6_copy_124, b_X6_copy_127, x_imul, x_iadd, x_storeI_6, x_storeI_7, x_storeI_8, x_loadI_8, y_ic_ge_t, y_ic_ge_f, b_X6_copy_154, x_loadI_6, x_loadI_7, b_X6_copy_161, x_goto, b_X6_copy_171, b_X6_copy_173, x_storeI_9, f_6_17, x_loadI_9, y_iast_24, y_iast_180, x_iinc_8, b_X6_copy_201, q_isL_I, q_isL_R, q_isL_S, true_and, and_true, and_self, List.length_nil, List.length_cons, Nat.zero_add, x_K, x_Kn, Int.reduceToNat, Nat.reduceAdd, Nat.reduceMul, Nat.reduceLeDiff, Nat.reduceLT, Nat.zero_le, Int.reduceAdd, Int.reduceSub, Int.reduceMul, Int.reduceNeg, q_add_e, q_sub_e, q_mul_e, q_neg_e, q_upd_s, q_upd_n, zr_shr0, zr_shr1, zr_shr2, zr_shr3, zr_shr4, zr_and, zr_dyn8, zr_or, zr_shl, q_cpy_n, y_cpy26, Int.toNat_natCast]
            exact hq
          by_cases k8 : M 111 O < j
          · simp (disch := omega) only [b_X6_copy_0, x_loadI_1, x_iconst, y_if_eq_t, y_if_eq_f, b_X6_copy_9, x_loadI_3, y_if_ne_t, y_if_ne_f, b_X6_copy_18, x_ret0, b_X6_copy_21, x_loadR_0, x_loadS_0, f_6_15, y_iald_24, y_iald_180, y_ic_eq_t, y_ic_eq_f, b_X6_copy_31, y_ic_ne_t, y_ic_ne_f, b_X6_copy_41, b_X6_copy_44, b_X6_copy_59, b_X6_copy_62, x_loadI_5, y_if_lt_t, y_if_lt_f, b_X6_copy_67, x_loadI_2, b_X6_copy_71, x_loadI_4, b_X6_copy_76, f_6_16, y_ic_gt_t, y_ic_gt_f, b_X6_copy_86, b_X6_copy_97, x_isub, b_X6_copy_110, y_ic_le_t, y_ic_le_f, b_X6_copy_124, b_X6_copy_127, x_imul, x_iadd, x_storeI_6, x_storeI_7, x_storeI_8, x_loadI_8, y_ic_ge_t, y_ic_ge_f, b_X6_copy_154, x_loadI_6, x_loadI_7, b_X6_copy_161, x_goto, b_X6_copy_171, b_X6_copy_173, x_storeI_9, f_6_17, x_loadI_9, y_iast_24, y_iast_180, x_iinc_8, b_X6_copy_201, q_isL_I, q_isL_R, q_isL_S, true_and, and_true, and_self, List.length_nil, List.length_cons, Nat.zero_add, x_K, x_Kn, Int.reduceToNat, Nat.reduceAdd, Nat.reduceMul, Nat.reduceLeDiff, Nat.reduceLT, Nat.zero_le, Int.reduceAdd, Int.reduceSub, Int.reduceMul, Int.reduceNeg, q_add_e, q_sub_e, q_mul_e, q_neg_e, q_upd_s, q_upd_n, zr_shr0, zr_shr1, zr_shr2, zr_shr3, zr_shr4, zr_and, zr_dyn8, zr_or, zr_shl, q_cpy_n, y_cpy26, Int.toNat_natCast]
            exact hq
          by_cases k9 : M 111 S - i < n
          · simp (disch := omega) only [b_X6_copy_0, x_loadI_1, x_iconst, y_if_eq_t, y_if_eq_f, b_X6_copy_9, x_loadI_3, y_if_ne_t, y_if_ne_f, b_X6_copy_18, x_ret0, b_X6_copy_21, x_loadR_0, x_loadS_0, f_6_15, y_iald_24, y_iald_180, y_ic_eq_t, y_ic_eq_f, b_X6_copy_31, y_ic_ne_t, y_ic_ne_f, b_X6_copy_41, b_X6_copy_44, b_X6_copy_59, b_X6_copy_62, x_loadI_5, y_if_lt_t, y_if_lt_f, b_X6_copy_67, x_loadI_2, b_X6_copy_71, x_loadI_4, b_X6_copy_76, f_6_16, y_ic_gt_t, y_ic_gt_f, b_X6_copy_86, b_X6_copy_97, x_isub, b_X6_copy_110, y_ic_le_t, y_ic_le_f, b_X6_copy_124, b_X6_copy_127, x_imul, x_iadd, x_storeI_6, x_storeI_7, x_storeI_8, x_loadI_8, y_ic_ge_t, y_ic_ge_f, b_X6_copy_154, x_loadI_6, x_loadI_7, b_X6_copy_161, x_goto, b_X6_copy_171, b_X6_copy_173, x_storeI_9, f_6_17, x_loadI_9, y_iast_24, y_iast_180, x_iinc_8, b_X6_copy_201, q_isL_I, q_isL_R, q_isL_S, true_and, and_true, and_self, List.length_nil, List.length_cons, Nat.zero_add, x_K, x_Kn, Int.reduceToNat, Nat.reduceAdd, Nat.reduceMul, Nat.reduceLeDiff, Nat.reduceLT, Nat.zero_le, Int.reduceAdd, Int.reduceSub, Int.reduceMul, Int.reduceNeg, q_add_e, q_sub_e, q_mul_e, q_neg_e, q_upd_s, q_upd_n, zr_shr0, zr_shr1, zr_shr2, zr_shr3, zr_shr4, zr_and, zr_dyn8, zr_or, zr_shl, q_cpy_n, y_cpy26, Int.toNat_natCast]
            exact hq
          by_cases k10 : M 111 O - j < n
          · simp (disch := omega) only [b_X6_copy_0, x_loadI_1, x_iconst, y_if_eq_t, y_if_eq_f, b_X6_copy_9, x_loadI_3, y_if_ne_t, y_if_ne_f, b_X6_copy_18, x_ret0, b_X6_copy_21, x_loadR_0, x_loadS_0, f_6_15, y_iald_24, y_iald_180, y_ic_eq_t, y_ic_eq_f, b_X6_copy_31, y_ic_ne_t, y_ic_ne_f, b_X6_copy_41, b_X6_copy_44, b_X6_copy_59, b_X6_copy_62, x_loadI_5, y_if_lt_t, y_if_lt_f, b_X6_copy_67, x_loadI_2, b_X6_copy_71, x_loadI_4, b_X6_copy_76, f_6_16, y_ic_gt_t, y_ic_gt_f, b_X6_copy_86, b_X6_copy_97, x_isub, b_X6_copy_110, y_ic_le_t, y_ic_le_f, b_X6_copy_124, b_X6_copy_127, x_imul, x_iadd, x_storeI_6, x_storeI_7, x_storeI_8, x_loadI_8, y_ic_ge_t, y_ic_ge_f, b_X6_copy_154, x_loadI_6, x_loadI_7, b_X6_copy_161, x_goto, b_X6_copy_171, b_X6_copy_173, x_storeI_9, f_6_17, x_loadI_9, y_iast_24, y_iast_180, x_iinc_8, b_X6_copy_201, q_isL_I, q_isL_R, q_isL_S, true_and, and_true, and_self, List.length_nil, List.length_cons, Nat.zero_add, x_K, x_Kn, Int.reduceToNat, Nat.reduceAdd, Nat.reduceMul, Nat.reduceLeDiff, Nat.reduceLT, Nat.zero_le, Int.reduceAdd, Int.reduceSub, Int.reduceMul, Int.reduceNeg, q_add_e, q_sub_e, q_mul_e, q_neg_e, q_upd_s, q_upd_n, zr_shr0, zr_shr1, zr_shr2, zr_shr3, zr_shr4, zr_and, zr_dyn8, zr_or, zr_shl, q_cpy_n, y_cpy26, Int.toNat_natCast]
            exact hq
          · exfalso
            omega
        · rw [if_neg kk] at hq1
          have hq := hq1 rfl (by omega)
          have l := loop (40 * S + i.toNat) (40 * O + j.toNat) n.toNat (by omega) (by omega) (by omega) (by omega) hq n.toNat 0 (by omega) M (qS 0) rfl (by
            funext x y
            rw [if_neg (by
              rintro ⟨_, z⟩
              split at z <;> omega)])
          have ea : (((40 * S + i.toNat : Nat)) : Int) = 40 * (S : Int) + i := by omega
          have eb : (((40 * O + j.toNat : Nat)) : Int) = 40 * (O : Int) + j := by omega
          rw [ea, eb] at l
          simp (disch := omega) only [b_X6_copy_0, x_loadI_1, x_iconst, y_if_eq_t, y_if_eq_f, b_X6_copy_9, x_loadI_3, y_if_ne_t, y_if_ne_f, b_X6_copy_18, x_ret0, b_X6_copy_21, x_loadR_0, x_loadS_0, f_6_15, y_iald_24, y_iald_180, y_ic_eq_t, y_ic_eq_f, b_X6_copy_31, y_ic_ne_t, y_ic_ne_f, b_X6_copy_41, b_X6_copy_44, b_X6_copy_59, b_X6_copy_62, x_loadI_5, y_if_lt_t, y_if_lt_f, b_X6_copy_67, x_loadI_2, b_X6_copy_71, x_loadI_4, b_X6_copy_76, f_6_16, y_ic_gt_t, y_ic_gt_f, b_X6_copy_86, b_X6_copy_97, x_isub, b_X6_copy_110, y_ic_le_t, y_ic_le_f, b_X6_copy_124, b_X6_copy_127, x_imul, x_iadd, x_storeI_6, x_storeI_7, x_storeI_8, x_loadI_8, y_ic_ge_t, y_ic_ge_f, b_X6_copy_154, x_loadI_6, x_loadI_7, b_X6_copy_161, x_goto, b_X6_copy_171, b_X6_copy_173, x_storeI_9, f_6_17, x_loadI_9, y_iast_24, y_iast_180, x_iinc_8, b_X6_copy_201, q_isL_I, q_isL_R, q_isL_S, true_and, and_true, and_self, List.length_nil, List.length_cons, Nat.zero_add, x_K, x_Kn, Int.reduceToNat, Nat.reduceAdd, Nat.reduceMul, Nat.reduceLeDiff, Nat.reduceLT, Nat.zero_le, Int.reduceAdd, Int.reduceSub, Int.reduceMul, Int.reduceNeg, q_add_e, q_sub_e, q_mul_e, q_neg_e, q_upd_s, q_upd_n, zr_shr0, zr_shr1, zr_shr2, zr_shr3, zr_shr4, zr_and, zr_dyn8, zr_or, zr_shl, q_cpy_n, y_cpy26, Int.toNat_natCast]
          exact l
      · rw [if_pos k3] at hq0
        simp (disch := omega) only [b_X6_copy_0, x_loadI_1, x_iconst, y_if_eq_t, y_if_eq_f, b_X6_copy_9, x_loadI_3, y_if_ne_t, y_if_ne_f, b_X6_copy_18, x_ret0, b_X6_copy_21, x_loadR_0, x_loadS_0, f_6_15, y_iald_24, y_iald_180, y_ic_eq_t, y_ic_eq_f, b_X6_copy_31, y_ic_ne_t, y_ic_ne_f, b_X6_copy_41, b_X6_copy_44, b_X6_copy_59, b_X6_copy_62, x_loadI_5, y_if_lt_t, y_if_lt_f, b_X6_copy_67, x_loadI_2, b_X6_copy_71, x_loadI_4, b_X6_copy_76, f_6_16, y_ic_gt_t, y_ic_gt_f, b_X6_copy_86, b_X6_copy_97, x_isub, b_X6_copy_110, y_ic_le_t, y_ic_le_f, b_X6_copy_124, b_X6_copy_127, x_imul, x_iadd, x_storeI_6, x_storeI_7, x_storeI_8, x_loadI_8, y_ic_ge_t, y_ic_ge_f, b_X6_copy_154, x_loadI_6, x_loadI_7, b_X6_copy_161, x_goto, b_X6_copy_171, b_X6_copy_173, x_storeI_9, f_6_17, x_loadI_9, y_iast_24, y_iast_180, x_iinc_8, b_X6_copy_201, q_isL_I, q_isL_R, q_isL_S, true_and, and_true, and_self, List.length_nil, List.length_cons, Nat.zero_add, x_K, x_Kn, Int.reduceToNat, Nat.reduceAdd, Nat.reduceMul, Nat.reduceLeDiff, Nat.reduceLT, Nat.zero_le, Int.reduceAdd, Int.reduceSub, Int.reduceMul, Int.reduceNeg, q_add_e, q_sub_e, q_mul_e, q_neg_e, q_upd_s, q_upd_n, zr_shr0, zr_shr1, zr_shr2, zr_shr3, zr_shr4, zr_and, zr_dyn8, zr_or, zr_shl, q_cpy_n, y_cpy26, Int.toNat_natCast]
        exact hq0 (by decide)
    · rw [if_pos (by omega)] at hq0
      simp (disch := omega) only [b_X6_copy_0, x_loadI_1, x_iconst, y_if_eq_t, y_if_eq_f, b_X6_copy_9, x_loadI_3, y_if_ne_t, y_if_ne_f, b_X6_copy_18, x_ret0, b_X6_copy_21, x_loadR_0, x_loadS_0, f_6_15, y_iald_24, y_iald_180, y_ic_eq_t, y_ic_eq_f, b_X6_copy_31, y_ic_ne_t, y_ic_ne_f, b_X6_copy_41, b_X6_copy_44, b_X6_copy_59, b_X6_copy_62, x_loadI_5, y_if_lt_t, y_if_lt_f, b_X6_copy_67, x_loadI_2, b_X6_copy_71, x_loadI_4, b_X6_copy_76, f_6_16, y_ic_gt_t, y_ic_gt_f, b_X6_copy_86, b_X6_copy_97, x_isub, b_X6_copy_110, y_ic_le_t, y_ic_le_f, b_X6_copy_124, b_X6_copy_127, x_imul, x_iadd, x_storeI_6, x_storeI_7, x_storeI_8, x_loadI_8, y_ic_ge_t, y_ic_ge_f, b_X6_copy_154, x_loadI_6, x_loadI_7, b_X6_copy_161, x_goto, b_X6_copy_171, b_X6_copy_173, x_storeI_9, f_6_17, x_loadI_9, y_iast_24, y_iast_180, x_iinc_8, b_X6_copy_201, q_isL_I, q_isL_R, q_isL_S, true_and, and_true, and_self, List.length_nil, List.length_cons, Nat.zero_add, x_K, x_Kn, Int.reduceToNat, Nat.reduceAdd, Nat.reduceMul, Nat.reduceLeDiff, Nat.reduceLT, Nat.zero_le, Int.reduceAdd, Int.reduceSub, Int.reduceMul, Int.reduceNeg, q_add_e, q_sub_e, q_mul_e, q_neg_e, q_upd_s, q_upd_n, zr_shr0, zr_shr1, zr_shr2, zr_shr3, zr_shr4, zr_and, zr_dyn8, zr_or, zr_shl, q_cpy_n, y_cpy26, c_X6_in, mp_in, c1, c2, and_self, if_true, if_false]
      exact hq0 (by decide)
  · rw [if_pos (by omega)] at hq0
    simp (disch := omega) only [b_X6_copy_0, x_loadI_1, x_iconst, y_if_eq_t, y_if_eq_f, b_X6_copy_9, x_loadI_3, y_if_ne_t, y_if_ne_f, b_X6_copy_18, x_ret0, b_X6_copy_21, x_loadR_0, x_loadS_0, f_6_15, y_iald_24, y_iald_180, y_ic_eq_t, y_ic_eq_f, b_X6_copy_31, y_ic_ne_t, y_ic_ne_f, b_X6_copy_41, b_X6_copy_44, b_X6_copy_59, b_X6_copy_62, x_loadI_5, y_if_lt_t, y_if_lt_f, b_X6_copy_67, x_loadI_2, b_X6_copy_71, x_loadI_4, b_X6_copy_76, f_6_16, y_ic_gt_t, y_ic_gt_f, b_X6_copy_86, b_X6_copy_97, x_isub, b_X6_copy_110, y_ic_le_t, y_ic_le_f, b_X6_copy_124, b_X6_copy_127, x_imul, x_iadd, x_storeI_6, x_storeI_7, x_storeI_8, x_loadI_8, y_ic_ge_t, y_ic_ge_f, b_X6_copy_154, x_loadI_6, x_loadI_7, b_X6_copy_161, x_goto, b_X6_copy_171, b_X6_copy_173, x_storeI_9, f_6_17, x_loadI_9, y_iast_24, y_iast_180, x_iinc_8, b_X6_copy_201, q_isL_I, q_isL_R, q_isL_S, true_and, and_true, and_self, List.length_nil, List.length_cons, Nat.zero_add, x_K, x_Kn, Int.reduceToNat, Nat.reduceAdd, Nat.reduceMul, Nat.reduceLeDiff, Nat.reduceLT, Nat.zero_le, Int.reduceAdd, Int.reduceSub, Int.reduceMul, Int.reduceNeg, q_add_e, q_sub_e, q_mul_e, q_neg_e, q_upd_s, q_upd_n, zr_shr0, zr_shr1, zr_shr2, zr_shr3, zr_shr4, zr_and, zr_dyn8, zr_or, zr_shl, q_cpy_n, y_cpy26, c_X6_in, mp_in, c1, if_false]
    exact hq0 (by decide)
/-- stones by a row of numbers, on a world -/
def F_sb (C : Nat → Int) (fr sz : Int) : Nat → Nat → Int → q_M → Int × q_M
  | 0, _, came, S => (came, S)
  | j + 1, k, came, S => if sz - 3 * k - 3 < fr then (-12, S)
    else if F_stB (C (fr + 3 * k).toNat) (C ((fr + 3 * k).toNat + 1)) (C ((fr + 3 * k).toNat + 2)) = true ∧ S 9 0 ≠ 5 then F_sb C fr sz j (k + 1) (came + 1) (F_add S (C (fr + 3 * k).toNat) (C ((fr + 3 * k).toNat + 1)) (C ((fr + 3 * k).toNat + 2)))
    else F_sb C fr sz j (k + 1) came S
theorem F_sb_c {C C2 : Nat → Int} {fr sz : Int} (hf : 0 ≤ fr) (h : ∀ i : Nat, (i : Int) < sz → C i = C2 i) : ∀ (j k : Nat) (came : Int) (S : q_M), F_sb C fr sz j k came S = F_sb C2 fr sz j k came S
  | 0, _, _, _ => rfl
  | j + 1, k, came, S => by
    rw [F_sb, F_sb]
    by_cases c : sz - 3 * k - 3 < fr
    · rw [if_pos c, if_pos c]
    · rw [if_neg c, if_neg c, h (fr + 3 * k).toNat (by omega), h ((fr + 3 * k).toNat + 1) (by omega), h ((fr + 3 * k).toNat + 2) (by omega), F_sb_c hf h j (k + 1) came S, F_sb_c hf h j (k + 1) (came + 1) _]
theorem q_sb_S {C : Nat → Int} {fr sz : Int} : ∀ (j k : Nat) (came : Int) (M : q_M), 0 ≤ M 12 5 → M 12 5 ≤ 5 → (q_sb C fr sz j k came M).1 = (F_sb C fr sz j k came (cW M 11)).1 ∧ cW (q_sb C fr sz j k came M).2 11 = (F_sb C fr sz j k came (cW M 11)).2
  | 0, _, _, _, _, _ => ⟨rfl, rfl⟩
  | j + 1, k, came, M, h0, h5 => by
    rw [q_sb, F_sb]
    have e9 : cW M 11 9 0 = M 12 5 := rfl
    rw [e9]
    by_cases c : sz - 3 * k - 3 < fr
    · rw [if_pos c, if_pos c]
      exact ⟨rfl, rfl⟩
    · rw [if_neg c, if_neg c]
      by_cases c2 : F_stB (C (fr + 3 * k).toNat) (C ((fr + 3 * k).toNat + 1)) (C ((fr + 3 * k).toNat + 2)) = true ∧ M 12 5 ≠ 5
      · rw [if_pos c2, if_pos c2]
        have ea := cW_adM (M := M) (w := 11) (km := C (fr + 3 * k).toNat) (wh := C ((fr + 3 * k).toNat + 1)) (hv := C ((fr + 3 * k).toNat + 2)) h0 (show M 12 5 < 5 by omega)
        have e5 : q_adM M 11 (C (fr + 3 * k).toNat) (C ((fr + 3 * k).toNat + 1)) (C ((fr + 3 * k).toNat + 2)) 12 5 = M 12 5 + 1 := q_upd_s
        have ih := q_sb_S (C := C) (fr := fr) (sz := sz) j (k + 1) (came + 1) (q_adM M 11 (C (fr + 3 * k).toNat) (C ((fr + 3 * k).toNat + 1)) (C ((fr + 3 * k).toNat + 2))) (by rw [e5]; omega) (by rw [e5]; omega)
        rw [ea] at ih
        exact ih
      · rw [if_neg c2, if_neg c2]
        exact q_sb_S j (k + 1) came M h0 h5
def B_sb (M : q_M) (s so fr n : Int) : Int × q_M :=
  if ¬((0 ≤ s ∧ s < 4) ∧ (0 ≤ so ∧ so ≤ 2) ∧ (0 ≤ n ∧ n ≤ 5)) then (-2, mW M)
  else if M 110 s.toNat = -1 then (-11, mW M)
  else if M 110 s.toNat ≠ so then (-13, mW M)
  else if 0 < n ∧ fr < 0 then (-12, mW M)
  else F_sb (fun x => M 112 (40 * s.toNat + x)) fr (M 111 s.toNat) n.toNat 0 0 (mW M)
/-- what stones that come change in the model -/
def q_mst (M M2 : q_M) : Prop := (∀ a i, a ≠ 101 → a ≠ 102 → a ≠ 104 → (a = 100 → i ≠ 0) → M2 a i = M a i) ∧ M 100 0 ≤ M2 100 0 ∧ ∀ i, i < (M 100 0).toNat → M2 101 i = M 101 i ∧ M2 102 i = M 102 i
theorem q_mst_rf {M : q_M} : q_mst M M := ⟨fun _ _ _ _ _ _ => rfl, Int.le_refl _, fun _ _ => ⟨rfl, rfl⟩⟩
theorem q_mst_tr {M M2 M3 : q_M} (h : q_mst M M2) (h2 : q_mst M2 M3) : q_mst M M3 := ⟨fun a i q1 q2 q3 q4 => (h2.1 a i q1 q2 q3 q4).trans (h.1 a i q1 q2 q3 q4), Int.le_trans h.2.1 h2.2.1, fun i hi => ⟨(h2.2.2 i (by have := h.2.1; omega)).1.trans (h.2.2 i hi).1, (h2.2.2 i (by have := h.2.1; omega)).2.trans (h.2.2 i hi).2⟩⟩
set_option maxHeartbeats 4000000 in
theorem mx_stonesBy {Vt : Nat → Nat → (Nat → Int) → Int} {d tm : Nat} {g : q_G} {M : q_M} {s so fr n : Int} {Q : Option q_V → q_G → q_M → Prop} (hI : q_MI Vt tm M) (hfr : -2147483648 ≤ fr ∧ fr ≤ 2147483647) (hq : ∀ M2 : q_M, mW M2 = (B_sb M s so fr n).2 → q_mst M M2 → Q (some (qI (B_sb M s so fr n).1)) g M2) : q_S 1 (d + 11) 196 [qR 6 100, qI s, qI so, qI fr, qI n] g M Q := by
  have n0 := hI.1.1
  rw [s_X6_stonesBy]
  have stop : ∀ v : Int, B_sb M s so fr n = (v, mW M) → Q (some (qI v)) g M := by
    intro v h
    have hh := hq M (by rw [h]) q_mst_rf
    rw [h] at hh
    exact hh
  by_cases c1 : 0 ≤ s ∧ s ≤ 3
  · obtain ⟨S, rfl⟩ : ∃ S : Nat, s = S := ⟨s.toNat, by omega⟩
    by_cases c2 : 0 ≤ so ∧ so ≤ 2
    · by_cases c3 : 0 ≤ n ∧ n ≤ 5
      · have e0 : B_sb M S so fr n = (if M 110 S = -1 then (-11, mW M) else if M 110 S ≠ so then (-13, mW M) else if 0 < n ∧ fr < 0 then (-12, mW M) else F_sb (fun x => M 112 (40 * S + x)) fr (M 111 S) n.toNat 0 0 (mW M)) := by
          unfold B_sb
          rw [if_neg (show ¬¬((0 ≤ (S : Int) ∧ (S : Int) < 4) ∧ (0 ≤ so ∧ so ≤ 2) ∧ (0 ≤ n ∧ n ≤ 5)) by omega), Int.toNat_natCast]
        have hzS := hI.2.2.2.1 S (by omega)
        have loop : 0 ≤ fr ∨ n = 0 → ∀ e k : Nat, (k : Int) + e = n → (k = 0 ∨ fr ≤ 40) → ∀ (came : Int) (M1 : q_M) (l7 l8 : q_V), q_isL l7 = false → q_isL l8 = false → 0 ≤ came → came ≤ k → q_MI Vt tm M1 → q_mst M M1 → (∀ M2 : q_M, mW M2 = (F_sb (fun x => M 112 (40 * S + x)) fr (M 111 S) e k came (mW M1)).2 → q_mst M M2 → Q (some (qI (F_sb (fun x => M 112 (40 * S + x)) fr (M 111 S) e k came (mW M1)).1)) g M2) → q_T 1 (d + 11) qP_X6_stonesBy 63 [] [qR 6 100, qI S, qI so, qI fr, qI n, qI came, qI k, l7, l8] [] g M1 Q := by
          intro hfn e
          induction e with
          | zero =>
            intro k hk hk2 came M1 l7 l8 hl7 hl8 hc0 hc1 h1 f1 hq
            rw [b_X6_stonesBy_63]
            simp (disch := omega) only [b_X6_stonesBy_0, x_loadI_1, x_iconst, y_if_eq_t, y_if_eq_f, b_X6_stonesBy_9, x_loadI_2, b_X6_stonesBy_18, x_loadI_4, y_if_ne_t, y_if_ne_f, b_X6_stonesBy_28, x_ret0, b_X6_stonesBy_31, x_loadR_0, x_loadS_0, f_6_15, y_iald_24, y_iald_180, y_ic_ne_t, y_ic_ne_f, b_X6_stonesBy_41, b_X6_stonesBy_44, y_ic_eq_t, y_ic_eq_f, b_X6_stonesBy_54, b_X6_stonesBy_57, x_storeI_5, x_storeI_6, x_loadI_6, y_ic_ge_t, y_ic_ge_f, b_X6_stonesBy_70, x_loadI_3, x_imul, x_iadd, x_storeI_7, y_if_lt_t, y_if_lt_f, b_X6_stonesBy_82, x_loadI_7, y_ic_lt_t, y_ic_lt_f, b_X6_stonesBy_88, f_6_16, x_isub, y_ic_le_t, y_ic_le_f, b_X6_stonesBy_101, b_X6_stonesBy_104, x_storeI_8, x_loadI_5, f_6_17, x_loadI_8, b_X6_stonesBy_147, x_goto, b_X6_stonesBy_151, b_X6_stonesBy_152, x_iinc_6, b_X6_stonesBy_161, q_isL_I, q_isL_R, q_isL_S, true_and, and_true, and_self, List.length_nil, List.length_cons, Nat.zero_add, x_K, x_Kn, Int.reduceToNat, Nat.reduceAdd, Nat.reduceMul, Nat.reduceLeDiff, Nat.reduceLT, Nat.zero_le, Int.reduceAdd, Int.reduceSub, Int.reduceMul, Int.reduceNeg, q_add_e, q_sub_e, q_mul_e, q_neg_e, q_upd_s, q_upd_n, zr_shr0, zr_shr1, zr_shr2, zr_shr3, zr_shr4, zr_and, zr_dyn8, zr_or, zr_shl, q_cpy_n, y_cpy26]
            exact hq M1 rfl f1
          | succ e ih =>
            intro k hk hk2 came M1 l7 l8 hl7 hl8 hc0 hc1 h1 f1 hq
            have hz := h1.2.2.2.1 S (by omega)
            have ez : M1 111 S = M 111 S := f1.1 111 S (by omega) (by omega) (by omega) (by omega)
            have ec : ∀ x, M1 112 x = M 112 x := fun x => f1.1 112 x (by omega) (by omega) (by omega) (by omega)
            rw [F_sb] at hq
            rw [b_X6_stonesBy_63]
            by_cases k3 : M 111 S - 3 * k - 3 < fr
            · rw [if_pos k3] at hq
              have hh := hq M1 rfl f1
              simp (disch := omega) only [b_X6_stonesBy_0, x_loadI_1, x_iconst, y_if_eq_t, y_if_eq_f, b_X6_stonesBy_9, x_loadI_2, b_X6_stonesBy_18, x_loadI_4, y_if_ne_t, y_if_ne_f, b_X6_stonesBy_28, x_ret0, b_X6_stonesBy_31, x_loadR_0, x_loadS_0, f_6_15, y_iald_24, y_iald_180, y_ic_ne_t, y_ic_ne_f, b_X6_stonesBy_41, b_X6_stonesBy_44, y_ic_eq_t, y_ic_eq_f, b_X6_stonesBy_54, b_X6_stonesBy_57, x_storeI_5, x_storeI_6, x_loadI_6, y_ic_ge_t, y_ic_ge_f, b_X6_stonesBy_70, x_loadI_3, x_imul, x_iadd, x_storeI_7, y_if_lt_t, y_if_lt_f, b_X6_stonesBy_82, x_loadI_7, y_ic_lt_t, y_ic_lt_f, b_X6_stonesBy_88, f_6_16, x_isub, y_ic_le_t, y_ic_le_f, b_X6_stonesBy_101, b_X6_stonesBy_104, x_storeI_8, x_loadI_5, f_6_17, x_loadI_8, b_X6_stonesBy_147, x_goto, b_X6_stonesBy_151, b_X6_stonesBy_152, x_iinc_6, b_X6_stonesBy_161, q_isL_I, q_isL_R, q_isL_S, true_and, and_true, and_self, List.length_nil, List.length_cons, Nat.zero_add, x_K, x_Kn, Int.reduceToNat, Nat.reduceAdd, Nat.reduceMul, Nat.reduceLeDiff, Nat.reduceLT, Nat.zero_le, Int.reduceAdd, Int.reduceSub, Int.reduceMul, Int.reduceNeg, q_add_e, q_sub_e, q_mul_e, q_neg_e, q_upd_s, q_upd_n, zr_shr0, zr_shr1, zr_shr2, zr_shr3, zr_shr4, zr_and, zr_dyn8, zr_or, zr_shl, q_cpy_n, y_cpy26, hl7, Int.toNat_natCast]
              exact hh
            · rw [if_neg k3] at hq
              have t0 : (40 * (S : Int) + (fr + 3 * (k : Int))).toNat = 40 * S + (fr + 3 * k).toNat := by omega
              have t1 : (40 * (S : Int) + (fr + 3 * (k : Int)) + 1).toNat = 40 * S + ((fr + 3 * k).toNat + 1) := by omega
              have t2 : (40 * (S : Int) + (fr + 3 * (k : Int)) + 2).toNat = 40 * S + ((fr + 3 * k).toNat + 2) := by omega
              generalize hA : M 112 (40 * S + (fr + 3 * k).toNat) = A at hq
              generalize hB : M 112 (40 * S + ((fr + 3 * k).toNat + 1)) = B at hq
              generalize hC : M 112 (40 * S + ((fr + 3 * k).toNat + 2)) = Cc at hq
              have e90 : mW M1 9 0 = M1 100 0 := rfl
              rw [e90] at hq
              have stn : ∀ (nx : Nat) (ops : List Instr) (ls st : List q_V), (∀ (v : Int) (M2 : q_M), q_MI Vt tm M2 → q_mst M1 M2 → (F_stB A B Cc = true ∧ M1 100 0 ≠ 5 → 0 ≤ v ∧ mW M2 = F_add (mW M1) A B Cc) → (¬(F_stB A B Cc = true ∧ M1 100 0 ≠ 5) → v < 0 ∧ M2 = M1) → q_T 1 (d + 11) qP_X6_stonesBy nx ops ls (qI v :: st) g M2 Q) → q_S 1 (d + 10) 139 [qR 6 100, qI A, qI B, qI Cc] g M1 (q_K 1 (d + 11) qP_X6_stonesBy nx ops ls st Q) := by
                intro nx ops ls st h
                have h0 := h1.1.1
                refine q_S_mono (q_S_and (mw_stone (d := d) (Q := fun v _ M2 => (∃ vi, v = some (qI vi)) ∧ q_MI Vt tm M2) h1 (fun v M2 q1 q2 => ⟨⟨v, rfl⟩, q1⟩)) (mx_stone (d := d) (Q := fun v g2 M2 => g2 = g ∧ ∃ vi, v = some (qI vi) ∧ q_mst M1 M2 ∧ (F_stB A B Cc = true ∧ M1 100 0 ≠ 5 → 0 ≤ vi ∧ mW M2 = F_add (mW M1) A B Cc) ∧ (¬(F_stB A B Cc = true ∧ M1 100 0 ≠ 5) → vi < 0 ∧ M2 = M1)) h1 (fun z => ⟨rfl, _, rfl, q_mst_rf, fun y => absurd y z, fun _ => ⟨?_, rfl⟩⟩) (fun z M2 y1 y2 y3 => ⟨rfl, _, rfl, ⟨y2, ?_, y3⟩, fun _ => ⟨?_, y1⟩, fun y => absurd z y⟩))) (fun v g2 M2 z => ?_)
                · unfold B_stn
                  rw [mW_90]
                  by_cases y : F_stB A B Cc = false
                  · rw [if_pos y]; decide
                  · rw [if_neg y]
                    have y2 : F_stB A B Cc = true := by
                      cases w : F_stB A B Cc with
                      | true => rfl
                      | false => exact absurd w y
                    have : M1 100 0 = 5 := Decidable.byContradiction (fun x => z ⟨y2, x⟩)
                    rw [if_pos this]
                    decide
                · have e1 : mW M2 9 0 = F_add (mW M1) A B Cc 9 0 := by rw [y1]
                  have e2 : F_add (mW M1) A B Cc 9 0 = M1 100 0 + 1 := q_upd_s
                  have e3 : mW M2 9 0 = M2 100 0 := rfl
                  omega
                · unfold B_stn
                  rw [mW_90, if_neg (by rw [z.1]; decide), if_neg z.2]
                  exact h0.1
                · obtain ⟨⟨_, z2⟩, z3, vi, z4, z5, z6, z7⟩ := z
                  subst z3
                  subst z4
                  exact h vi M2 z2 z5 z6 z7
              simp (disch := omega) only [b_X6_stonesBy_0, x_loadI_1, x_iconst, y_if_eq_t, y_if_eq_f, b_X6_stonesBy_9, x_loadI_2, b_X6_stonesBy_18, x_loadI_4, y_if_ne_t, y_if_ne_f, b_X6_stonesBy_28, x_ret0, b_X6_stonesBy_31, x_loadR_0, x_loadS_0, f_6_15, y_iald_24, y_iald_180, y_ic_ne_t, y_ic_ne_f, b_X6_stonesBy_41, b_X6_stonesBy_44, y_ic_eq_t, y_ic_eq_f, b_X6_stonesBy_54, b_X6_stonesBy_57, x_storeI_5, x_storeI_6, x_loadI_6, y_ic_ge_t, y_ic_ge_f, b_X6_stonesBy_70, x_loadI_3, x_imul, x_iadd, x_storeI_7, y_if_lt_t, y_if_lt_f, b_X6_stonesBy_82, x_loadI_7, y_ic_lt_t, y_ic_lt_f, b_X6_stonesBy_88, f_6_16, x_isub, y_ic_le_t, y_ic_le_f, b_X6_stonesBy_101, b_X6_stonesBy_104, x_storeI_8, x_loadI_5, f_6_17, x_loadI_8, b_X6_stonesBy_147, x_goto, b_X6_stonesBy_151, b_X6_stonesBy_152, x_iinc_6, b_X6_stonesBy_161, q_isL_I, q_isL_R, q_isL_S, true_and, and_true, and_self, List.length_nil, List.length_cons, Nat.zero_add, x_K, x_Kn, Int.reduceToNat, Nat.reduceAdd, Nat.reduceMul, Nat.reduceLeDiff, Nat.reduceLT, Nat.zero_le, Int.reduceAdd, Int.reduceSub, Int.reduceMul, Int.reduceNeg, q_add_e, q_sub_e, q_mul_e, q_neg_e, q_upd_s, q_upd_n, zr_shr0, zr_shr1, zr_shr2, zr_shr3, zr_shr4, zr_and, zr_dyn8, zr_or, zr_shl, q_cpy_n, y_cpy26, hl7, hl8, Int.toNat_natCast, c_X6_stone, ec, t0, t1, t2, hA, hB, hC]
              refine stn _ _ _ _ (fun v M2 h2 f2 y1 y2 => ?_)
              by_cases k4 : F_stB A B Cc = true ∧ M1 100 0 ≠ 5
              · rw [if_pos k4] at hq
                obtain ⟨z1, z2⟩ := y1 k4
                rw [← z2] at hq
                simp (disch := omega) only [b_X6_stonesBy_0, x_loadI_1, x_iconst, y_if_eq_t, y_if_eq_f, b_X6_stonesBy_9, x_loadI_2, b_X6_stonesBy_18, x_loadI_4, y_if_ne_t, y_if_ne_f, b_X6_stonesBy_28, x_ret0, b_X6_stonesBy_31, x_loadR_0, x_loadS_0, f_6_15, y_iald_24, y_iald_180, y_ic_ne_t, y_ic_ne_f, b_X6_stonesBy_41, b_X6_stonesBy_44, y_ic_eq_t, y_ic_eq_f, b_X6_stonesBy_54, b_X6_stonesBy_57, x_storeI_5, x_storeI_6, x_loadI_6, y_ic_ge_t, y_ic_ge_f, b_X6_stonesBy_70, x_loadI_3, x_imul, x_iadd, x_storeI_7, y_if_lt_t, y_if_lt_f, b_X6_stonesBy_82, x_loadI_7, y_ic_lt_t, y_ic_lt_f, b_X6_stonesBy_88, f_6_16, x_isub, y_ic_le_t, y_ic_le_f, b_X6_stonesBy_101, b_X6_stonesBy_104, x_storeI_8, x_loadI_5, f_6_17, x_loadI_8, b_X6_stonesBy_147, x_goto, b_X6_stonesBy_151, b_X6_stonesBy_152, x_iinc_6, b_X6_stonesBy_161, q_isL_I, q_isL_R, q_isL_S, true_and, and_true, and_self, List.length_nil, List.length_cons, Nat.zero_add, x_K, x_Kn, Int.reduceToNat, Nat.reduceAdd, Nat.reduceMul, Nat.reduceLeDiff, Nat.reduceLT, Nat.zero_le, Int.reduceAdd, Int.reduceSub, Int.reduceMul, Int.reduceNeg, q_add_e, q_sub_e, q_mul_e, q_neg_e, q_upd_s, q_upd_n, zr_shr0, zr_shr1, zr_shr2, zr_shr3, zr_shr4, zr_and, zr_dyn8, zr_or, zr_shl, q_cpy_n, y_cpy26]
                exact ih (k + 1) (by omega) (by omega) (came + 1) M2 _ _ rfl rfl (by omega) (by omega) h2 (q_mst_tr f1 f2) hq
              · rw [if_neg k4] at hq
                obtain ⟨z1, z2⟩ := y2 k4
                subst z2
                simp (disch := omega) only [b_X6_stonesBy_0, x_loadI_1, x_iconst, y_if_eq_t, y_if_eq_f, b_X6_stonesBy_9, x_loadI_2, b_X6_stonesBy_18, x_loadI_4, y_if_ne_t, y_if_ne_f, b_X6_stonesBy_28, x_ret0, b_X6_stonesBy_31, x_loadR_0, x_loadS_0, f_6_15, y_iald_24, y_iald_180, y_ic_ne_t, y_ic_ne_f, b_X6_stonesBy_41, b_X6_stonesBy_44, y_ic_eq_t, y_ic_eq_f, b_X6_stonesBy_54, b_X6_stonesBy_57, x_storeI_5, x_storeI_6, x_loadI_6, y_ic_ge_t, y_ic_ge_f, b_X6_stonesBy_70, x_loadI_3, x_imul, x_iadd, x_storeI_7, y_if_lt_t, y_if_lt_f, b_X6_stonesBy_82, x_loadI_7, y_ic_lt_t, y_ic_lt_f, b_X6_stonesBy_88, f_6_16, x_isub, y_ic_le_t, y_ic_le_f, b_X6_stonesBy_101, b_X6_stonesBy_104, x_storeI_8, x_loadI_5, f_6_17, x_loadI_8, b_X6_stonesBy_147, x_goto, b_X6_stonesBy_151, b_X6_stonesBy_152, x_iinc_6, b_X6_stonesBy_161, q_isL_I, q_isL_R, q_isL_S, true_and, and_true, and_self, List.length_nil, List.length_cons, Nat.zero_add, x_K, x_Kn, Int.reduceToNat, Nat.reduceAdd, Nat.reduceMul, Nat.reduceLeDiff, Nat.reduceLT, Nat.zero_le, Int.reduceAdd, Int.reduceSub, Int.reduceMul, Int.reduceNeg, q_add_e, q_sub_e, q_mul_e, q_neg_e, q_upd_s, q_upd_n, zr_shr0, zr_shr1, zr_shr2, zr_shr3, zr_shr4, zr_and, zr_dyn8, zr_or, zr_shl, q_cpy_n, y_cpy26]
                rw [Int.add_zero]
                refine ih (k + 1) (by omega) (by omega) came _ _ _ rfl rfl (by omega) (by omega) ?_ ?_ ?_
                · exact h2
                · exact f1
                · exact hq
        simp (disch := omega) only [b_X6_stonesBy_0, x_loadI_1, x_iconst, y_if_eq_t, y_if_eq_f, b_X6_stonesBy_9, x_loadI_2, b_X6_stonesBy_18, x_loadI_4, y_if_ne_t, y_if_ne_f, b_X6_stonesBy_28, x_ret0, b_X6_stonesBy_31, x_loadR_0, x_loadS_0, f_6_15, y_iald_24, y_iald_180, y_ic_ne_t, y_ic_ne_f, b_X6_stonesBy_41, b_X6_stonesBy_44, y_ic_eq_t, y_ic_eq_f, b_X6_stonesBy_54, b_X6_stonesBy_57, x_storeI_5, x_storeI_6, x_loadI_6, y_ic_ge_t, y_ic_ge_f, b_X6_stonesBy_70, x_loadI_3, x_imul, x_iadd, x_storeI_7, y_if_lt_t, y_if_lt_f, b_X6_stonesBy_82, x_loadI_7, y_ic_lt_t, y_ic_lt_f, b_X6_stonesBy_88, f_6_16, x_isub, y_ic_le_t, y_ic_le_f, b_X6_stonesBy_101, b_X6_stonesBy_104, x_storeI_8, x_loadI_5, f_6_17, x_loadI_8, b_X6_stonesBy_147, x_goto, b_X6_stonesBy_151, b_X6_stonesBy_152, x_iinc_6, b_X6_stonesBy_161, q_isL_I, q_isL_R, q_isL_S, true_and, and_true, and_self, List.length_nil, List.length_cons, Nat.zero_add, x_K, x_Kn, Int.reduceToNat, Nat.reduceAdd, Nat.reduceMul, Nat.reduceLeDiff, Nat.reduceLT, Nat.zero_le, Int.reduceAdd, Int.reduceSub, Int.reduceMul, Int.reduceNeg, q_add_e, q_sub_e, q_mul_e, q_neg_e, q_upd_s, q_upd_n, zr_shr0, zr_shr1, zr_shr2, zr_shr3, zr_shr4, zr_and, zr_dyn8, zr_or, zr_shl, q_cpy_n, y_cpy26, c_X6_in, mp_in, c1, c2, c3, and_self, if_true, Int.toNat_natCast]
        by_cases k1 : M 110 S = -1
        · rw [if_pos k1] at e0
          simp (disch := omega) only [b_X6_stonesBy_0, x_loadI_1, x_iconst, y_if_eq_t, y_if_eq_f, b_X6_stonesBy_9, x_loadI_2, b_X6_stonesBy_18, x_loadI_4, y_if_ne_t, y_if_ne_f, b_X6_stonesBy_28, x_ret0, b_X6_stonesBy_31, x_loadR_0, x_loadS_0, f_6_15, y_iald_24, y_iald_180, y_ic_ne_t, y_ic_ne_f, b_X6_stonesBy_41, b_X6_stonesBy_44, y_ic_eq_t, y_ic_eq_f, b_X6_stonesBy_54, b_X6_stonesBy_57, x_storeI_5, x_storeI_6, x_loadI_6, y_ic_ge_t, y_ic_ge_f, b_X6_stonesBy_70, x_loadI_3, x_imul, x_iadd, x_storeI_7, y_if_lt_t, y_if_lt_f, b_X6_stonesBy_82, x_loadI_7, y_ic_lt_t, y_ic_lt_f, b_X6_stonesBy_88, f_6_16, x_isub, y_ic_le_t, y_ic_le_f, b_X6_stonesBy_101, b_X6_stonesBy_104, x_storeI_8, x_loadI_5, f_6_17, x_loadI_8, b_X6_stonesBy_147, x_goto, b_X6_stonesBy_151, b_X6_stonesBy_152, x_iinc_6, b_X6_stonesBy_161, q_isL_I, q_isL_R, q_isL_S, true_and, and_true, and_self, List.length_nil, List.length_cons, Nat.zero_add, x_K, x_Kn, Int.reduceToNat, Nat.reduceAdd, Nat.reduceMul, Nat.reduceLeDiff, Nat.reduceLT, Nat.zero_le, Int.reduceAdd, Int.reduceSub, Int.reduceMul, Int.reduceNeg, q_add_e, q_sub_e, q_mul_e, q_neg_e, q_upd_s, q_upd_n, zr_shr0, zr_shr1, zr_shr2, zr_shr3, zr_shr4, zr_and, zr_dyn8, zr_or, zr_shl, q_cpy_n, y_cpy26, Int.toNat_natCast]
          exact stop _ e0
        rw [if_neg k1] at e0
        by_cases k2 : M 110 S = so
        · rw [if_neg (fun z => z k2)] at e0
          simp (disch := omega) only [b_X6_stonesBy_0, x_loadI_1, x_iconst, y_if_eq_t, y_if_eq_f, b_X6_stonesBy_9, x_loadI_2, b_X6_stonesBy_18, x_loadI_4, y_if_ne_t, y_if_ne_f, b_X6_stonesBy_28, x_ret0, b_X6_stonesBy_31, x_loadR_0, x_loadS_0, f_6_15, y_iald_24, y_iald_180, y_ic_ne_t, y_ic_ne_f, b_X6_stonesBy_41, b_X6_stonesBy_44, y_ic_eq_t, y_ic_eq_f, b_X6_stonesBy_54, b_X6_stonesBy_57, x_storeI_5, x_storeI_6, x_loadI_6, y_ic_ge_t, y_ic_ge_f, b_X6_stonesBy_70, x_loadI_3, x_imul, x_iadd, x_storeI_7, y_if_lt_t, y_if_lt_f, b_X6_stonesBy_82, x_loadI_7, y_ic_lt_t, y_ic_lt_f, b_X6_stonesBy_88, f_6_16, x_isub, y_ic_le_t, y_ic_le_f, b_X6_stonesBy_101, b_X6_stonesBy_104, x_storeI_8, x_loadI_5, f_6_17, x_loadI_8, b_X6_stonesBy_147, x_goto, b_X6_stonesBy_151, b_X6_stonesBy_152, x_iinc_6, b_X6_stonesBy_161, q_isL_I, q_isL_R, q_isL_S, true_and, and_true, and_self, List.length_nil, List.length_cons, Nat.zero_add, x_K, x_Kn, Int.reduceToNat, Nat.reduceAdd, Nat.reduceMul, Nat.reduceLeDiff, Nat.reduceLT, Nat.zero_le, Int.reduceAdd, Int.reduceSub, Int.reduceMul, Int.reduceNeg, q_add_e, q_sub_e, q_mul_e, q_neg_e, q_upd_s, q_upd_n, zr_shr0, zr_shr1, zr_shr2, zr_shr3, zr_shr4, zr_and, zr_dyn8, zr_or, zr_shl, q_cpy_n, y_cpy26, Int.toNat_natCast]
          by_cases k4 : 0 < n ∧ fr < 0
          · rw [if_pos k4] at e0
            have hs := stop _ e0
            rw [b_X6_stonesBy_63]
            simp (disch := omega) only [b_X6_stonesBy_0, x_loadI_1, x_iconst, y_if_eq_t, y_if_eq_f, b_X6_stonesBy_9, x_loadI_2, b_X6_stonesBy_18, x_loadI_4, y_if_ne_t, y_if_ne_f, b_X6_stonesBy_28, x_ret0, b_X6_stonesBy_31, x_loadR_0, x_loadS_0, f_6_15, y_iald_24, y_iald_180, y_ic_ne_t, y_ic_ne_f, b_X6_stonesBy_41, b_X6_stonesBy_44, y_ic_eq_t, y_ic_eq_f, b_X6_stonesBy_54, b_X6_stonesBy_57, x_storeI_5, x_storeI_6, x_loadI_6, y_ic_ge_t, y_ic_ge_f, b_X6_stonesBy_70, x_loadI_3, x_imul, x_iadd, x_storeI_7, y_if_lt_t, y_if_lt_f, b_X6_stonesBy_82, x_loadI_7, y_ic_lt_t, y_ic_lt_f, b_X6_stonesBy_88, f_6_16, x_isub, y_ic_le_t, y_ic_le_f, b_X6_stonesBy_101, b_X6_stonesBy_104, x_storeI_8, x_loadI_5, f_6_17, x_loadI_8, b_X6_stonesBy_147, x_goto, b_X6_stonesBy_151, b_X6_stonesBy_152, x_iinc_6, b_X6_stonesBy_161, q_isL_I, q_isL_R, q_isL_S, true_and, and_true, and_self, List.length_nil, List.length_cons, Nat.zero_add, x_K, x_Kn, Int.reduceToNat, Nat.reduceAdd, Nat.reduceMul, Nat.reduceLeDiff, Nat.reduceLT, Nat.zero_le, Int.reduceAdd, Int.reduceSub, Int.reduceMul, Int.reduceNeg, q_sub_e, q_mul_e, q_neg_e, q_upd_s, q_upd_n, zr_shr0, zr_shr1, zr_shr2, zr_shr3, zr_shr4, zr_and, zr_dyn8, zr_or, zr_shl, q_cpy_n, y_cpy26]
            exact hs
          · rw [if_neg k4] at e0
            rw [e0] at hq
            exact loop (by omega) n.toNat 0 (by omega) (Or.inl rfl) 0 M _ _ rfl rfl (by omega) (by omega) hI q_mst_rf hq
        · rw [if_pos k2] at e0
          simp (disch := omega) only [b_X6_stonesBy_0, x_loadI_1, x_iconst, y_if_eq_t, y_if_eq_f, b_X6_stonesBy_9, x_loadI_2, b_X6_stonesBy_18, x_loadI_4, y_if_ne_t, y_if_ne_f, b_X6_stonesBy_28, x_ret0, b_X6_stonesBy_31, x_loadR_0, x_loadS_0, f_6_15, y_iald_24, y_iald_180, y_ic_ne_t, y_ic_ne_f, b_X6_stonesBy_41, b_X6_stonesBy_44, y_ic_eq_t, y_ic_eq_f, b_X6_stonesBy_54, b_X6_stonesBy_57, x_storeI_5, x_storeI_6, x_loadI_6, y_ic_ge_t, y_ic_ge_f, b_X6_stonesBy_70, x_loadI_3, x_imul, x_iadd, x_storeI_7, y_if_lt_t, y_if_lt_f, b_X6_stonesBy_82, x_loadI_7, y_ic_lt_t, y_ic_lt_f, b_X6_stonesBy_88, f_6_16, x_isub, y_ic_le_t, y_ic_le_f, b_X6_stonesBy_101, b_X6_stonesBy_104, x_storeI_8, x_loadI_5, f_6_17, x_loadI_8, b_X6_stonesBy_147, x_goto, b_X6_stonesBy_151, b_X6_stonesBy_152, x_iinc_6, b_X6_stonesBy_161, q_isL_I, q_isL_R, q_isL_S, true_and, and_true, and_self, List.length_nil, List.length_cons, Nat.zero_add, x_K, x_Kn, Int.reduceToNat, Nat.reduceAdd, Nat.reduceMul, Nat.reduceLeDiff, Nat.reduceLT, Nat.zero_le, Int.reduceAdd, Int.reduceSub, Int.reduceMul, Int.reduceNeg, q_add_e, q_sub_e, q_mul_e, q_neg_e, q_upd_s, q_upd_n, zr_shr0, zr_shr1, zr_shr2, zr_shr3, zr_shr4, zr_and, zr_dyn8, zr_or, zr_shl, q_cpy_n, y_cpy26, Int.toNat_natCast]
          exact stop _ e0
      · have e0 : B_sb M S so fr n = (-2, mW M) := by unfold B_sb; rw [if_pos (by omega)]
        simp (disch := omega) only [b_X6_stonesBy_0, x_loadI_1, x_iconst, y_if_eq_t, y_if_eq_f, b_X6_stonesBy_9, x_loadI_2, b_X6_stonesBy_18, x_loadI_4, y_if_ne_t, y_if_ne_f, b_X6_stonesBy_28, x_ret0, b_X6_stonesBy_31, x_loadR_0, x_loadS_0, f_6_15, y_iald_24, y_iald_180, y_ic_ne_t, y_ic_ne_f, b_X6_stonesBy_41, b_X6_stonesBy_44, y_ic_eq_t, y_ic_eq_f, b_X6_stonesBy_54, b_X6_stonesBy_57, x_storeI_5, x_storeI_6, x_loadI_6, y_ic_ge_t, y_ic_ge_f, b_X6_stonesBy_70, x_loadI_3, x_imul, x_iadd, x_storeI_7, y_if_lt_t, y_if_lt_f, b_X6_stonesBy_82, x_loadI_7, y_ic_lt_t, y_ic_lt_f, b_X6_stonesBy_88, f_6_16, x_isub, y_ic_le_t, y_ic_le_f, b_X6_stonesBy_101, b_X6_stonesBy_104, x_storeI_8, x_loadI_5, f_6_17, x_loadI_8, b_X6_stonesBy_147, x_goto, b_X6_stonesBy_151, b_X6_stonesBy_152, x_iinc_6, b_X6_stonesBy_161, q_isL_I, q_isL_R, q_isL_S, true_and, and_true, and_self, List.length_nil, List.length_cons, Nat.zero_add, x_K, x_Kn, Int.reduceToNat, Nat.reduceAdd, Nat.reduceMul, Nat.reduceLeDiff, Nat.reduceLT, Nat.zero_le, Int.reduceAdd, Int.reduceSub, Int.reduceMul, Int.reduceNeg, q_add_e, q_sub_e, q_mul_e, q_neg_e, q_upd_s, q_upd_n, zr_shr0, zr_shr1, zr_shr2, zr_shr3, zr_shr4, zr_and, zr_dyn8, zr_or, zr_shl, q_cpy_n, y_cpy26, c_X6_in, mp_in, c1, c2, c3, and_self, if_true, if_false]
        exact stop _ e0
    · have e0 : B_sb M S so fr n = (-2, mW M) := by unfold B_sb; rw [if_pos (by omega)]
      simp (disch := omega) only [b_X6_stonesBy_0, x_loadI_1, x_iconst, y_if_eq_t, y_if_eq_f, b_X6_stonesBy_9, x_loadI_2, b_X6_stonesBy_18, x_loadI_4, y_if_ne_t, y_if_ne_f, b_X6_stonesBy_28, x_ret0, b_X6_stonesBy_31, x_loadR_0, x_loadS_0, f_6_15, y_iald_24, y_iald_180, y_ic_ne_t, y_ic_ne_f, b_X6_stonesBy_41, b_X6_stonesBy_44, y_ic_eq_t, y_ic_eq_f, b_X6_stonesBy_54, b_X6_stonesBy_57, x_storeI_5, x_storeI_6, x_loadI_6, y_ic_ge_t, y_ic_ge_f, b_X6_stonesBy_70, x_loadI_3, x_imul, x_iadd, x_storeI_7, y_if_lt_t, y_if_lt_f, b_X6_stonesBy_82, x_loadI_7, y_ic_lt_t, y_ic_lt_f, b_X6_stonesBy_88, f_6_16, x_isub, y_ic_le_t, y_ic_le_f, b_X6_stonesBy_101, b_X6_stonesBy_104, x_storeI_8, x_loadI_5, f_6_17, x_loadI_8, b_X6_stonesBy_147, x_goto, b_X6_stonesBy_151, b_X6_stonesBy_152, x_iinc_6, b_X6_stonesBy_161, q_isL_I, q_isL_R, q_isL_S, true_and, and_true, and_self, List.length_nil, List.length_cons, Nat.zero_add, x_K, x_Kn, Int.reduceToNat, Nat.reduceAdd, Nat.reduceMul, Nat.reduceLeDiff, Nat.reduceLT, Nat.zero_le, Int.reduceAdd, Int.reduceSub, Int.reduceMul, Int.reduceNeg, q_add_e, q_sub_e, q_mul_e, q_neg_e, q_upd_s, q_upd_n, zr_shr0, zr_shr1, zr_shr2, zr_shr3, zr_shr4, zr_and, zr_dyn8, zr_or, zr_shl, q_cpy_n, y_cpy26, c_X6_in, mp_in, c1, c2, and_self, if_true, if_false]
      exact stop _ e0
  · have e0 : B_sb M s so fr n = (-2, mW M) := by unfold B_sb; rw [if_pos (by omega)]
    simp (disch := omega) only [b_X6_stonesBy_0, x_loadI_1, x_iconst, y_if_eq_t, y_if_eq_f, b_X6_stonesBy_9, x_loadI_2, b_X6_stonesBy_18, x_loadI_4, y_if_ne_t, y_if_ne_f, b_X6_stonesBy_28, x_ret0, b_X6_stonesBy_31, x_loadR_0, x_loadS_0, f_6_15, y_iald_24, y_iald_180, y_ic_ne_t, y_ic_ne_f, b_X6_stonesBy_41, b_X6_stonesBy_44, y_ic_eq_t, y_ic_eq_f, b_X6_stonesBy_54, b_X6_stonesBy_57, x_storeI_5, x_storeI_6, x_loadI_6, y_ic_ge_t, y_ic_ge_f, b_X6_stonesBy_70, x_loadI_3, x_imul, x_iadd, x_storeI_7, y_if_lt_t, y_if_lt_f, b_X6_stonesBy_82, x_loadI_7, y_ic_lt_t, y_ic_lt_f, b_X6_stonesBy_88, f_6_16, x_isub, y_ic_le_t, y_ic_le_f, b_X6_stonesBy_101, b_X6_stonesBy_104, x_storeI_8, x_loadI_5, f_6_17, x_loadI_8, b_X6_stonesBy_147, x_goto, b_X6_stonesBy_151, b_X6_stonesBy_152, x_iinc_6, b_X6_stonesBy_161, q_isL_I, q_isL_R, q_isL_S, true_and, and_true, and_self, List.length_nil, List.length_cons, Nat.zero_add, x_K, x_Kn, Int.reduceToNat, Nat.reduceAdd, Nat.reduceMul, Nat.reduceLeDiff, Nat.reduceLT, Nat.zero_le, Int.reduceAdd, Int.reduceSub, Int.reduceMul, Int.reduceNeg, q_add_e, q_sub_e, q_mul_e, q_neg_e, q_upd_s, q_upd_n, zr_shr0, zr_shr1, zr_shr2, zr_shr3, zr_shr4, zr_and, zr_dyn8, zr_or, zr_shl, q_cpy_n, y_cpy26, c_X6_in, mp_in, c1, if_false]
    exact stop _ e0
set_option maxHeartbeats 4000000 in
theorem mx_image {Vt : Nat → Nat → (Nat → Int) → Int} {d tm : Nat} {g : q_G} {M : q_M} {Q : Option q_V → q_G → q_M → Prop} (hI : q_MI Vt tm M) (hq : ∀ M2 : q_M, (∀ a i, a ≠ 108 → a ≠ 109 → (a = 100 → i ≠ 12) → M2 a i = M a i) → (∀ i, i < 15 → M2 108 i = M 104 i) → (∀ i, i < 20 → M2 108 (15 + i) = M 103 i) → M2 109 0 = M 100 0 → M2 109 1 = M 100 5 → M2 109 2 = M 100 11 → M2 100 12 = 1 → Q (some (qI (M 100 0))) g M2) : q_S 1 (d + 11) 191 [qR 6 100] g M Q := by
  rw [s_X6_image]
  have loop2 : ∀ j k : Nat, k + j = 20 → ∀ (M1 : q_M), (∀ a i, a ≠ 108 → a ≠ 109 → (a = 100 → i ≠ 12) → M1 a i = M a i) → (∀ i, i < 15 → M1 108 i = M 104 i) → (∀ i, i < k → M1 108 (15 + i) = M 103 i) → M1 100 12 = 1 → q_T 1 (d + 11) qP_X6_image 33 [] [qR 6 100, qI k] [] g M1 Q := by
    intro j
    induction j with
    | zero =>
      intro k hk M1 hf h1 h2 h6
      rw [b_X6_image_33]
      have ek : (15 + (k : Int)).toNat = 15 + k := by omega
      simp (disch := omega) only [b_X6_image_0, x_loadR_0, x_loadS_0, x_iconst, p_6_12, x_storeI_1, x_loadI_1, y_ic_ge_t, y_ic_ge_f, b_X6_image_13, f_6_13, f_6_4, y_iald_23, y_iald_35, y_iald_40, y_iald_55, y_iast_23, y_iast_35, y_iast_40, y_iast_55, x_iinc_1, x_goto, b_X6_image_31, b_X6_image_39, x_iadd, f_6_3, b_X6_image_60, f_6_14, f_6_0, f_6_5, f_6_11, x_ret0, q_isL_I, q_isL_R, q_isL_S, true_and, and_true, and_self, List.length_nil, List.length_cons, Nat.zero_add, x_K, x_Kn, Int.reduceToNat, Nat.reduceAdd, Nat.reduceMul, Nat.reduceLeDiff, Nat.reduceLT, Nat.zero_le, Int.reduceAdd, Int.reduceSub, Int.reduceMul, Int.reduceNeg, q_add_e, q_sub_e, q_mul_e, q_neg_e, q_upd_s, q_upd_n, zr_shr0, zr_shr1, zr_shr2, zr_shr3, zr_shr4, zr_and, zr_dyn8, zr_or, zr_shl, q_cpy_n, y_cpy26, tn_c, q_upd_n]
      have e0 : M1 100 0 = M 100 0 := hf _ _ (by omega) (by omega) (by omega)
      rw [e0]
      refine hq _ (fun a i ha hb hc => ?_) (fun i hi => ?_) (fun i hi => ?_) ?_ ?_ ?_ ?_
      · rw [q_upd_n (by omega), q_upd_n (by omega), q_upd_n (by omega)]; exact hf a i ha hb hc
      · rw [q_upd_n (by omega), q_upd_n (by omega), q_upd_n (by omega)]; exact h1 i hi
      · rw [q_upd_n (by omega), q_upd_n (by omega), q_upd_n (by omega)]; exact h2 i (by omega)
      · rw [q_upd_n (by omega), q_upd_n (by omega), q_upd_s]
      · rw [q_upd_n (by omega), q_upd_s]; exact hf _ _ (by omega) (by omega) (by omega)
      · rw [q_upd_s]; exact hf _ _ (by omega) (by omega) (by omega)
      · rw [q_upd_n (by omega), q_upd_n (by omega), q_upd_n (by omega)]; exact h6
    | succ j ih =>
      intro k hk M1 hf h1 h2 h6
      rw [b_X6_image_33]
      have ek : (15 + (k : Int)).toNat = 15 + k := by omega
      simp (disch := omega) only [b_X6_image_0, x_loadR_0, x_loadS_0, x_iconst, p_6_12, x_storeI_1, x_loadI_1, y_ic_ge_t, y_ic_ge_f, b_X6_image_13, f_6_13, f_6_4, y_iald_23, y_iald_35, y_iald_40, y_iald_55, y_iast_23, y_iast_35, y_iast_40, y_iast_55, x_iinc_1, x_goto, b_X6_image_31, b_X6_image_39, x_iadd, f_6_3, b_X6_image_60, f_6_14, f_6_0, f_6_5, f_6_11, x_ret0, q_isL_I, q_isL_R, q_isL_S, true_and, and_true, and_self, List.length_nil, List.length_cons, Nat.zero_add, x_K, x_Kn, Int.reduceToNat, Nat.reduceAdd, Nat.reduceMul, Nat.reduceLeDiff, Nat.reduceLT, Nat.zero_le, Int.reduceAdd, Int.reduceSub, Int.reduceMul, Int.reduceNeg, q_add_e, q_sub_e, q_mul_e, q_neg_e, q_upd_s, q_upd_n, zr_shr0, zr_shr1, zr_shr2, zr_shr3, zr_shr4, zr_and, zr_dyn8, zr_or, zr_shl, q_cpy_n, y_cpy26, ek, Int.toNat_natCast]
      refine ih (k + 1) (by omega) _ (fun a i ha hb hc => ?_) (fun i hi => ?_) (fun i hi => ?_) ?_
      · rw [q_upd_n (by omega)]; exact hf a i ha hb hc
      · rw [q_upd_n (by omega)]; exact h1 i hi
      · by_cases e : i = k
        · subst e
          rw [q_upd_s]; exact hf _ _ (by omega) (by omega) (by omega)
        · rw [q_upd_n (by omega)]; exact h2 i (by omega)
      · rw [q_upd_n (by omega)]; exact h6
  have loop1 : ∀ j k : Nat, k + j = 15 → ∀ (M1 : q_M), (∀ a i, a ≠ 108 → a ≠ 109 → (a = 100 → i ≠ 12) → M1 a i = M a i) → (∀ i, i < k → M1 108 i = M 104 i) → M1 100 12 = 1 → q_T 1 (d + 11) qP_X6_image 7 [] [qR 6 100, qI k] [] g M1 Q := by
    intro j
    induction j with
    | zero =>
      intro k hk M1 hf h1 h6
      rw [b_X6_image_7]
      simp (disch := omega) only [b_X6_image_0, x_loadR_0, x_loadS_0, x_iconst, p_6_12, x_storeI_1, x_loadI_1, y_ic_ge_t, y_ic_ge_f, b_X6_image_13, f_6_13, f_6_4, y_iald_23, y_iald_35, y_iald_40, y_iald_55, y_iast_23, y_iast_35, y_iast_40, y_iast_55, x_iinc_1, x_goto, b_X6_image_31, b_X6_image_39, x_iadd, f_6_3, b_X6_image_60, f_6_14, f_6_0, f_6_5, f_6_11, x_ret0, q_isL_I, q_isL_R, q_isL_S, true_and, and_true, and_self, List.length_nil, List.length_cons, Nat.zero_add, x_K, x_Kn, Int.reduceToNat, Nat.reduceAdd, Nat.reduceMul, Nat.reduceLeDiff, Nat.reduceLT, Nat.zero_le, Int.reduceAdd, Int.reduceSub, Int.reduceMul, Int.reduceNeg, q_add_e, q_sub_e, q_mul_e, q_neg_e, q_upd_s, q_upd_n, zr_shr0, zr_shr1, zr_shr2, zr_shr3, zr_shr4, zr_and, zr_dyn8, zr_or, zr_shl, q_cpy_n, y_cpy26]
      exact loop2 20 0 rfl _ hf (fun i hi => h1 i (by omega)) (fun i hi => absurd hi (by omega)) h6
    | succ j ih =>
      intro k hk M1 hf h1 h6
      rw [b_X6_image_7]
      simp (disch := omega) only [b_X6_image_0, x_loadR_0, x_loadS_0, x_iconst, p_6_12, x_storeI_1, x_loadI_1, y_ic_ge_t, y_ic_ge_f, b_X6_image_13, f_6_13, f_6_4, y_iald_23, y_iald_35, y_iald_40, y_iald_55, y_iast_23, y_iast_35, y_iast_40, y_iast_55, x_iinc_1, x_goto, b_X6_image_31, b_X6_image_39, x_iadd, f_6_3, b_X6_image_60, f_6_14, f_6_0, f_6_5, f_6_11, x_ret0, q_isL_I, q_isL_R, q_isL_S, true_and, and_true, and_self, List.length_nil, List.length_cons, Nat.zero_add, x_K, x_Kn, Int.reduceToNat, Nat.reduceAdd, Nat.reduceMul, Nat.reduceLeDiff, Nat.reduceLT, Nat.zero_le, Int.reduceAdd, Int.reduceSub, Int.reduceMul, Int.reduceNeg, q_add_e, q_sub_e, q_mul_e, q_neg_e, q_upd_s, q_upd_n, zr_shr0, zr_shr1, zr_shr2, zr_shr3, zr_shr4, zr_and, zr_dyn8, zr_or, zr_shl, q_cpy_n, y_cpy26, Int.toNat_natCast]
      refine ih (k + 1) (by omega) _ (fun a i ha hb hc => ?_) (fun i hi => ?_) ?_
      · rw [q_upd_n (by omega)]; exact hf a i ha hb hc
      · by_cases e : i = k
        · subst e
          rw [q_upd_s]; exact hf _ _ (by omega) (by omega) (by omega)
        · rw [q_upd_n (by omega)]; exact h1 i (by omega)
      · rw [q_upd_n (by omega)]; exact h6
  simp (disch := omega) only [b_X6_image_0, x_loadR_0, x_loadS_0, x_iconst, p_6_12, x_storeI_1, x_loadI_1, y_ic_ge_t, y_ic_ge_f, b_X6_image_13, f_6_13, f_6_4, y_iald_23, y_iald_35, y_iald_40, y_iald_55, y_iast_23, y_iast_35, y_iast_40, y_iast_55, x_iinc_1, x_goto, b_X6_image_31, b_X6_image_39, x_iadd, f_6_3, b_X6_image_60, f_6_14, f_6_0, f_6_5, f_6_11, x_ret0, q_isL_I, q_isL_R, q_isL_S, true_and, and_true, and_self, List.length_nil, List.length_cons, Nat.zero_add, x_K, x_Kn, Int.reduceToNat, Nat.reduceAdd, Nat.reduceMul, Nat.reduceLeDiff, Nat.reduceLT, Nat.zero_le, Int.reduceAdd, Int.reduceSub, Int.reduceMul, Int.reduceNeg, q_add_e, q_sub_e, q_mul_e, q_neg_e, q_upd_s, q_upd_n, zr_shr0, zr_shr1, zr_shr2, zr_shr3, zr_shr4, zr_and, zr_dyn8, zr_or, zr_shl, q_cpy_n, y_cpy26]
  refine ⟨Or.inr trivial, ?_⟩
  exact loop1 15 0 rfl _ (fun a i ha hb hc => by rw [q_upd_n (by omega)]) (fun i hi => absurd hi (by omega)) q_upd_s
set_option maxHeartbeats 4000000 in
theorem mx_back {Vt : Nat → Nat → (Nat → Int) → Int} {d tm : Nat} {g : q_G} {M : q_M} {Q : Option q_V → q_G → q_M → Prop} (hI : q_MI Vt tm M) (hq0 : M 100 12 = 0 → Q (some (qI (-3))) g M) (hq : M 100 12 ≠ 0 → ∀ M2 : q_M, (∀ a i, a ≠ 103 → a ≠ 104 → (a = 100 → i ≠ 0 ∧ i ≠ 5 ∧ i ≠ 11) → M2 a i = M a i) → (∀ i, i < 15 → M2 104 i = M 108 i) → (∀ i, i < 20 → M2 103 i = M 108 (15 + i)) → M2 100 0 = M 109 0 → M2 100 5 = M 109 1 → M2 100 11 = M 109 2 → Q (some (qI (M 109 0))) g M2) : q_S 1 (d + 11) 192 [qR 6 100] g M Q := by
  rw [s_X6_back]
  by_cases c : M 100 12 = 0
  · simp (disch := omega) only [b_X6_back_0, x_loadR_0, x_loadS_0, f_6_12, y_if_ne_t, y_if_ne_f, b_X6_back_7, x_iconst, x_ret0, b_X6_back_10, x_storeI_1, x_loadI_1, y_ic_ge_t, y_ic_ge_f, b_X6_back_18, f_6_4, f_6_13, y_iald_23, y_iald_35, y_iald_40, y_iald_55, y_iast_23, y_iast_35, y_iast_40, y_iast_55, x_iinc_1, x_goto, b_X6_back_36, b_X6_back_44, f_6_3, x_iadd, b_X6_back_65, f_6_14, p_6_0, p_6_5, p_6_11, f_6_0, q_isL_I, q_isL_R, q_isL_S, true_and, and_true, and_self, List.length_nil, List.length_cons, Nat.zero_add, x_K, x_Kn, Int.reduceToNat, Nat.reduceAdd, Nat.reduceMul, Nat.reduceLeDiff, Nat.reduceLT, Nat.zero_le, Int.reduceAdd, Int.reduceSub, Int.reduceMul, Int.reduceNeg, q_add_e, q_sub_e, q_mul_e, q_neg_e, q_upd_s, q_upd_n, zr_shr0, zr_shr1, zr_shr2, zr_shr3, zr_shr4, zr_and, zr_dyn8, zr_or, zr_shl, q_cpy_n, y_cpy26]
    exact hq0 c
  have hq := hq c
  have loop2 : ∀ j k : Nat, k + j = 20 → ∀ (M1 : q_M), (∀ a i, a ≠ 103 → a ≠ 104 → M1 a i = M a i) → (∀ i, i < 15 → M1 104 i = M 108 i) → (∀ i, i < k → M1 103 i = M 108 (15 + i)) → q_T 1 (d + 11) qP_X6_back 38 [] [qR 6 100, qI k] [] g M1 Q := by
    intro j
    induction j with
    | zero =>
      intro k hk M1 hf h1 h2
      rw [b_X6_back_38]
      have ek : (15 + (k : Int)).toNat = 15 + k := by omega
      simp (disch := omega) only [b_X6_back_0, x_loadR_0, x_loadS_0, f_6_12, y_if_ne_t, y_if_ne_f, b_X6_back_7, x_iconst, x_ret0, b_X6_back_10, x_storeI_1, x_loadI_1, y_ic_ge_t, y_ic_ge_f, b_X6_back_18, f_6_4, f_6_13, y_iald_23, y_iald_35, y_iald_40, y_iald_55, y_iast_23, y_iast_35, y_iast_40, y_iast_55, x_iinc_1, x_goto, b_X6_back_36, b_X6_back_44, f_6_3, x_iadd, b_X6_back_65, f_6_14, p_6_0, p_6_5, p_6_11, f_6_0, q_isL_I, q_isL_R, q_isL_S, true_and, and_true, and_self, List.length_nil, List.length_cons, Nat.zero_add, x_K, x_Kn, Int.reduceToNat, Nat.reduceAdd, Nat.reduceMul, Nat.reduceLeDiff, Nat.reduceLT, Nat.zero_le, Int.reduceAdd, Int.reduceSub, Int.reduceMul, Int.reduceNeg, q_add_e, q_sub_e, q_mul_e, q_neg_e, q_upd_s, q_upd_n, zr_shr0, zr_shr1, zr_shr2, zr_shr3, zr_shr4, zr_and, zr_dyn8, zr_or, zr_shl, q_cpy_n, y_cpy26, tn_c, q_upd_n]
      have e0 : M1 109 0 = M 109 0 := hf _ _ (by omega) (by omega)
      rw [e0]
      refine hq _ (fun a i ha hb hc => ?_) (fun i hi => ?_) (fun i hi => ?_) ?_ ?_ ?_
      · rw [q_upd_n (by omega), q_upd_n (by omega), q_upd_n (by omega)]; exact hf a i ha hb
      · rw [q_upd_n (by omega), q_upd_n (by omega), q_upd_n (by omega)]; exact h1 i hi
      · rw [q_upd_n (by omega), q_upd_n (by omega), q_upd_n (by omega)]; exact h2 i (by omega)
      · rw [q_upd_n (by omega), q_upd_n (by omega), q_upd_s]
      · rw [q_upd_n (by omega), q_upd_s]; exact hf _ _ (by omega) (by omega)
      · rw [q_upd_s]; exact hf _ _ (by omega) (by omega)
    | succ j ih =>
      intro k hk M1 hf h1 h2
      rw [b_X6_back_38]
      have ek : (15 + (k : Int)).toNat = 15 + k := by omega
      simp (disch := omega) only [b_X6_back_0, x_loadR_0, x_loadS_0, f_6_12, y_if_ne_t, y_if_ne_f, b_X6_back_7, x_iconst, x_ret0, b_X6_back_10, x_storeI_1, x_loadI_1, y_ic_ge_t, y_ic_ge_f, b_X6_back_18, f_6_4, f_6_13, y_iald_23, y_iald_35, y_iald_40, y_iald_55, y_iast_23, y_iast_35, y_iast_40, y_iast_55, x_iinc_1, x_goto, b_X6_back_36, b_X6_back_44, f_6_3, x_iadd, b_X6_back_65, f_6_14, p_6_0, p_6_5, p_6_11, f_6_0, q_isL_I, q_isL_R, q_isL_S, true_and, and_true, and_self, List.length_nil, List.length_cons, Nat.zero_add, x_K, x_Kn, Int.reduceToNat, Nat.reduceAdd, Nat.reduceMul, Nat.reduceLeDiff, Nat.reduceLT, Nat.zero_le, Int.reduceAdd, Int.reduceSub, Int.reduceMul, Int.reduceNeg, q_add_e, q_sub_e, q_mul_e, q_neg_e, q_upd_s, q_upd_n, zr_shr0, zr_shr1, zr_shr2, zr_shr3, zr_shr4, zr_and, zr_dyn8, zr_or, zr_shl, q_cpy_n, y_cpy26, ek, Int.toNat_natCast]
      refine ih (k + 1) (by omega) _ (fun a i ha hb => ?_) (fun i hi => ?_) (fun i hi => ?_)
      · rw [q_upd_n (by omega)]; exact hf a i ha hb
      · rw [q_upd_n (by omega)]; exact h1 i hi
      · by_cases e : i = k
        · subst e
          rw [q_upd_s]; exact hf _ _ (by omega) (by omega)
        · rw [q_upd_n (by omega)]; exact h2 i (by omega)
  have loop1 : ∀ j k : Nat, k + j = 15 → ∀ (M1 : q_M), (∀ a i, a ≠ 103 → a ≠ 104 → M1 a i = M a i) → (∀ i, i < k → M1 104 i = M 108 i) → q_T 1 (d + 11) qP_X6_back 12 [] [qR 6 100, qI k] [] g M1 Q := by
    intro j
    induction j with
    | zero =>
      intro k hk M1 hf h1
      rw [b_X6_back_12]
      simp (disch := omega) only [b_X6_back_0, x_loadR_0, x_loadS_0, f_6_12, y_if_ne_t, y_if_ne_f, b_X6_back_7, x_iconst, x_ret0, b_X6_back_10, x_storeI_1, x_loadI_1, y_ic_ge_t, y_ic_ge_f, b_X6_back_18, f_6_4, f_6_13, y_iald_23, y_iald_35, y_iald_40, y_iald_55, y_iast_23, y_iast_35, y_iast_40, y_iast_55, x_iinc_1, x_goto, b_X6_back_36, b_X6_back_44, f_6_3, x_iadd, b_X6_back_65, f_6_14, p_6_0, p_6_5, p_6_11, f_6_0, q_isL_I, q_isL_R, q_isL_S, true_and, and_true, and_self, List.length_nil, List.length_cons, Nat.zero_add, x_K, x_Kn, Int.reduceToNat, Nat.reduceAdd, Nat.reduceMul, Nat.reduceLeDiff, Nat.reduceLT, Nat.zero_le, Int.reduceAdd, Int.reduceSub, Int.reduceMul, Int.reduceNeg, q_add_e, q_sub_e, q_mul_e, q_neg_e, q_upd_s, q_upd_n, zr_shr0, zr_shr1, zr_shr2, zr_shr3, zr_shr4, zr_and, zr_dyn8, zr_or, zr_shl, q_cpy_n, y_cpy26]
      exact loop2 20 0 rfl _ hf (fun i hi => h1 i (by omega)) (fun i hi => absurd hi (by omega))
    | succ j ih =>
      intro k hk M1 hf h1
      rw [b_X6_back_12]
      simp (disch := omega) only [b_X6_back_0, x_loadR_0, x_loadS_0, f_6_12, y_if_ne_t, y_if_ne_f, b_X6_back_7, x_iconst, x_ret0, b_X6_back_10, x_storeI_1, x_loadI_1, y_ic_ge_t, y_ic_ge_f, b_X6_back_18, f_6_4, f_6_13, y_iald_23, y_iald_35, y_iald_40, y_iald_55, y_iast_23, y_iast_35, y_iast_40, y_iast_55, x_iinc_1, x_goto, b_X6_back_36, b_X6_back_44, f_6_3, x_iadd, b_X6_back_65, f_6_14, p_6_0, p_6_5, p_6_11, f_6_0, q_isL_I, q_isL_R, q_isL_S, true_and, and_true, and_self, List.length_nil, List.length_cons, Nat.zero_add, x_K, x_Kn, Int.reduceToNat, Nat.reduceAdd, Nat.reduceMul, Nat.reduceLeDiff, Nat.reduceLT, Nat.zero_le, Int.reduceAdd, Int.reduceSub, Int.reduceMul, Int.reduceNeg, q_add_e, q_sub_e, q_mul_e, q_neg_e, q_upd_s, q_upd_n, zr_shr0, zr_shr1, zr_shr2, zr_shr3, zr_shr4, zr_and, zr_dyn8, zr_or, zr_shl, q_cpy_n, y_cpy26, Int.toNat_natCast]
      refine ih (k + 1) (by omega) _ (fun a i ha hb => ?_) (fun i hi => ?_)
      · rw [q_upd_n (by omega)]; exact hf a i ha hb
      · by_cases e : i = k
        · subst e
          rw [q_upd_s]; exact hf _ _ (by omega) (by omega)
        · rw [q_upd_n (by omega)]; exact h1 i (by omega)
  simp (disch := omega) only [b_X6_back_0, x_loadR_0, x_loadS_0, f_6_12, y_if_ne_t, y_if_ne_f, b_X6_back_7, x_iconst, x_ret0, b_X6_back_10, x_storeI_1, x_loadI_1, y_ic_ge_t, y_ic_ge_f, b_X6_back_18, f_6_4, f_6_13, y_iald_23, y_iald_35, y_iald_40, y_iald_55, y_iast_23, y_iast_35, y_iast_40, y_iast_55, x_iinc_1, x_goto, b_X6_back_36, b_X6_back_44, f_6_3, x_iadd, b_X6_back_65, f_6_14, p_6_0, p_6_5, p_6_11, f_6_0, q_isL_I, q_isL_R, q_isL_S, true_and, and_true, and_self, List.length_nil, List.length_cons, Nat.zero_add, x_K, x_Kn, Int.reduceToNat, Nat.reduceAdd, Nat.reduceMul, Nat.reduceLeDiff, Nat.reduceLT, Nat.zero_le, Int.reduceAdd, Int.reduceSub, Int.reduceMul, Int.reduceNeg, q_add_e, q_sub_e, q_mul_e, q_neg_e, q_upd_s, q_upd_n, zr_shr0, zr_shr1, zr_shr2, zr_shr3, zr_shr4, zr_and, zr_dyn8, zr_or, zr_shl, q_cpy_n, y_cpy26]
  exact loop1 15 0 rfl _ (fun a i ha hb => rfl) (fun i hi => absurd hi (by omega))
