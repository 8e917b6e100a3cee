/-! THE MODEL: stones, sheets, just so -/
def B_stn (S : q_M) (km wh hv : Int) : Int := if F_stB km wh hv = false then -2 else if S 9 0 = 5 then -4 else S 9 0
set_option maxHeartbeats 4000000 in
theorem mx_stone {Vt : Nat → Nat → (Nat → Int) → Int} {d tm : Nat} {g : q_G} {M : q_M} {km wh hv : Int} {Q : Option q_V → q_G → q_M → Prop} (hI : q_MI Vt tm M) (hq0 : ¬(F_stB km wh hv = true ∧ M 100 0 ≠ 5) → Q (some (qI (B_stn (mW M) km wh hv))) g M) (hq1 : F_stB km wh hv = true ∧ M 100 0 ≠ 5 → ∀ M2 : q_M, mW M2 = F_add (mW M) km wh hv → (∀ a i, a ≠ 101 → a ≠ 102 → a ≠ 104 → (a = 100 → i ≠ 0) → M2 a i = M a i) → (∀ i, i < (M 100 0).toNat → M2 101 i = M 101 i ∧ M2 102 i = M 102 i) → Q (some (qI (B_stn (mW M) km wh hv))) g M2) : q_S 1 (d + 10) 139 [qR 6 100, qI km, qI wh, qI hv] g M Q := by
  have n0 := hI.1.1
  rw [s_X6_stone]
  have n0a := n0.1
  have n0b := n0.2
  unfold B_stn at hq0 hq1
  rw [mW_90] at hq0 hq1
  unfold F_stB at hq0 hq1
  have bad : ¬(0 ≤ km ∧ km < 60 ∧ 0 ≤ wh ∧ wh < 100 ∧ 0 ≤ hv ∧ hv < 100) → Q (some (qI (-2))) g M := by
    intro z
    have h := hq0 (fun y => z (of_decide_eq_true y.1))
    rw [if_pos (decide_eq_false z)] at h
    exact h
  by_cases c1 : 0 ≤ km ∧ km ≤ 59
  · by_cases c2 : 0 ≤ wh ∧ wh ≤ 99
    · by_cases c3 : 0 ≤ hv ∧ hv ≤ 99
      · have cc : 0 ≤ km ∧ km < 60 ∧ 0 ≤ wh ∧ wh < 100 ∧ 0 ≤ hv ∧ hv < 100 := by omega
        rw [if_neg (show ¬decide (0 ≤ km ∧ km < 60 ∧ 0 ≤ wh ∧ wh < 100 ∧ 0 ≤ hv ∧ hv < 100) = false by rw [decide_eq_true cc]; decide)] at hq0 hq1
        by_cases c4 : M 100 0 = 5
        · have h := hq0 (fun y => y.2 c4)
          rw [if_pos c4] at h
          simp (disch := omega) only [b_X6_stone_0, x_loadI_1, x_iconst, y_if_eq_t, y_if_eq_f, b_X6_stone_10, x_loadI_2, b_X6_stone_20, x_loadI_3, y_if_ne_t, y_if_ne_f, b_X6_stone_30, x_ret0, b_X6_stone_33, x_loadR_0, x_loadS_0, f_6_0, y_ic_ne_t, y_ic_ne_f, b_X6_stone_41, b_X6_stone_44, f_6_1, y_idiv, y_iast_25, y_iast_35, f_6_2, y_irem, f_6_4, x_imul, x_iadd, x_dupI, x_dupR, p_6_0, x_isub, q_isL_I, q_isL_R, q_isL_S, true_and, and_true, and_self, List.length_nil, List.length_cons, Nat.zero_add, x_K, x_Kn, Int.reduceToNat, Nat.reduceAdd, Nat.reduceMul, Nat.reduceLeDiff, Nat.reduceLT, Nat.zero_le, Int.reduceAdd, Int.reduceSub, Int.reduceMul, Int.reduceNeg, q_add_e, q_sub_e, q_mul_e, q_neg_e, q_upd_s, q_upd_n, zr_shr0, zr_shr1, zr_shr2, zr_shr3, zr_shr4, zr_and, zr_dyn8, zr_or, zr_shl, q_cpy_n, y_cpy26, c_X6_in, mp_in, c1, c2, c3, and_self, if_true]
          exact h
        · have h := hq1 ⟨decide_eq_true cc, c4⟩
          rw [if_neg c4] at h
          obtain ⟨N, hN⟩ : ∃ N : Nat, M 100 0 = N := ⟨(M 100 0).toNat, by omega⟩
          have ed : q_div km 10 = km / 10 := q_div_e (by omega) (by omega) (by omega) (by omega)
          have er : q_rem km 10 = km % 10 := q_rem_e (by omega) (by omega) (by omega) (by omega)
          have fin := h _ (mW_add (km := km) (wh := wh) (hv := hv) hN) (fun a i h1 h2 h3 h4 => by
            have z : a ≠ 100 ∨ i ≠ 0 := by
              by_cases y : a = 100
              · exact Or.inr (h4 y)
              · exact Or.inl y
            rw [q_upd_n z, q_upd_n (by omega), q_upd_n (by omega), q_upd_n (by omega), q_upd_n (by omega), q_upd_n (by omega)]) (fun i hi => ⟨by simp (disch := omega) only [q_upd_n], by simp (disch := omega) only [q_upd_n]⟩)
          rw [hN] at fin
          simp (disch := omega) only [b_X6_stone_0, x_loadI_1, x_iconst, y_if_eq_t, y_if_eq_f, b_X6_stone_10, x_loadI_2, b_X6_stone_20, x_loadI_3, y_if_ne_t, y_if_ne_f, b_X6_stone_30, x_ret0, b_X6_stone_33, x_loadR_0, x_loadS_0, f_6_0, y_ic_ne_t, y_ic_ne_f, b_X6_stone_41, b_X6_stone_44, f_6_1, y_idiv, y_iast_25, y_iast_35, f_6_2, y_irem, f_6_4, x_imul, x_iadd, x_dupI, x_dupR, p_6_0, x_isub, q_isL_I, q_isL_R, q_isL_S, true_and, and_true, and_self, List.length_nil, List.length_cons, Nat.zero_add, x_K, x_Kn, Int.reduceToNat, Nat.reduceAdd, Nat.reduceMul, Nat.reduceLeDiff, Nat.reduceLT, Nat.zero_le, Int.reduceAdd, Int.reduceSub, Int.reduceMul, Int.reduceNeg, q_add_e, q_sub_e, q_mul_e, q_neg_e, q_upd_s, q_upd_n, zr_shr0, zr_shr1, zr_shr2, zr_shr3, zr_shr4, zr_and, zr_dyn8, zr_or, zr_shl, q_cpy_n, y_cpy26, c_X6_in, mp_in, c1, c2, c3, and_self, if_true, hN, ed, er, Int.toNat_natCast, tn_30, tn_31, tn_32]
          first
            | exact fin
            | (rw [show (N : Int) + 1 - 1 = N by omega]; exact fin)
      · simp (disch := omega) only [b_X6_stone_0, x_loadI_1, x_iconst, y_if_eq_t, y_if_eq_f, b_X6_stone_10, x_loadI_2, b_X6_stone_20, x_loadI_3, y_if_ne_t, y_if_ne_f, b_X6_stone_30, x_ret0, b_X6_stone_33, x_loadR_0, x_loadS_0, f_6_0, y_ic_ne_t, y_ic_ne_f, b_X6_stone_41, b_X6_stone_44, f_6_1, y_idiv, y_iast_25, y_iast_35, f_6_2, y_irem, f_6_4, x_imul, x_iadd, x_dupI, x_dupR, p_6_0, x_isub, q_isL_I, q_isL_R, q_isL_S, true_and, and_true, and_self, List.length_nil, List.length_cons, Nat.zero_add, x_K, x_Kn, Int.reduceToNat, Nat.reduceAdd, Nat.reduceMul, Nat.reduceLeDiff, Nat.reduceLT, Nat.zero_le, Int.reduceAdd, Int.reduceSub, Int.reduceMul, Int.reduceNeg, q_add_e, q_sub_e, q_mul_e, q_neg_e, q_upd_s, q_upd_n, zr_shr0, zr_shr1, zr_shr2, zr_shr3, zr_shr4, zr_and, zr_dyn8, zr_or, zr_shl, q_cpy_n, y_cpy26, c_X6_in, mp_in, c1, c2, c3, and_self, if_true, if_false]
        exact bad (by omega)
    · simp (disch := omega) only [b_X6_stone_0, x_loadI_1, x_iconst, y_if_eq_t, y_if_eq_f, b_X6_stone_10, x_loadI_2, b_X6_stone_20, x_loadI_3, y_if_ne_t, y_if_ne_f, b_X6_stone_30, x_ret0, b_X6_stone_33, x_loadR_0, x_loadS_0, f_6_0, y_ic_ne_t, y_ic_ne_f, b_X6_stone_41, b_X6_stone_44, f_6_1, y_idiv, y_iast_25, y_iast_35, f_6_2, y_irem, f_6_4, x_imul, x_iadd, x_dupI, x_dupR, p_6_0, x_isub, q_isL_I, q_isL_R, q_isL_S, true_and, and_true, and_self, List.length_nil, List.length_cons, Nat.zero_add, x_K, x_Kn, Int.reduceToNat, Nat.reduceAdd, Nat.reduceMul, Nat.reduceLeDiff, Nat.reduceLT, Nat.zero_le, Int.reduceAdd, Int.reduceSub, Int.reduceMul, Int.reduceNeg, q_add_e, q_sub_e, q_mul_e, q_neg_e, q_upd_s, q_upd_n, zr_shr0, zr_shr1, zr_shr2, zr_shr3, zr_shr4, zr_and, zr_dyn8, zr_or, zr_shl, q_cpy_n, y_cpy26, c_X6_in, mp_in, c1, c2, and_self, if_true, if_false]
      exact bad (by omega)
  · simp (disch := omega) only [b_X6_stone_0, x_loadI_1, x_iconst, y_if_eq_t, y_if_eq_f, b_X6_stone_10, x_loadI_2, b_X6_stone_20, x_loadI_3, y_if_ne_t, y_if_ne_f, b_X6_stone_30, x_ret0, b_X6_stone_33, x_loadR_0, x_loadS_0, f_6_0, y_ic_ne_t, y_ic_ne_f, b_X6_stone_41, b_X6_stone_44, f_6_1, y_idiv, y_iast_25, y_iast_35, f_6_2, y_irem, f_6_4, x_imul, x_iadd, x_dupI, x_dupR, p_6_0, x_isub, q_isL_I, q_isL_R, q_isL_S, true_and, and_true, and_self, List.length_nil, List.length_cons, Nat.zero_add, x_K, x_Kn, Int.reduceToNat, Nat.reduceAdd, Nat.reduceMul, Nat.reduceLeDiff, Nat.reduceLT, Nat.zero_le, Int.reduceAdd, Int.reduceSub, Int.reduceMul, Int.reduceNeg, q_add_e, q_sub_e, q_mul_e, q_neg_e, q_upd_s, q_upd_n, zr_shr0, zr_shr1, zr_shr2, zr_shr3, zr_shr4, zr_and, zr_dyn8, zr_or, zr_shl, q_cpy_n, y_cpy26, c_X6_in, mp_in, c1, if_false]
    exact bad (by omega)
def B_put (S : q_M) (p w v : Int) : Int := if ¬(0 ≤ p ∧ p ≤ S 9 0 - 1) then -5 else if ¬((0 ≤ w ∧ w ≤ 1) ∧ (0 ≤ v ∧ v ≤ 99)) then -7 else if w = 0 then S 2 p.toNat else S 3 p.toNat
def F_pt (S : q_M) (p : Nat) (w v : Int) : q_M := if w = 0 then F_lay S p v else q_upd S 3 p v
def B_ptk (S : q_M) (p w v : Int) : Prop := (0 ≤ p ∧ p ≤ S 9 0 - 1) ∧ (0 ≤ w ∧ w ≤ 1) ∧ (0 ≤ v ∧ v ≤ 99)
set_option maxHeartbeats 4000000 in
theorem mx_put {Vt : Nat → Nat → (Nat → Int) → Int} {d tm : Nat} {g : q_G} {M : q_M} {p w v : Int} {Q : Option q_V → q_G → q_M → Prop} (hI : q_MI Vt tm M) (hq0 : ¬B_ptk (mW M) p w v → Q (some (qI (B_put (mW M) p w v))) g M) (hq1 : B_ptk (mW M) p w v → ∀ M2 : q_M, mW M2 = F_pt (mW M) p.toNat w v → (∀ a i, a ≠ 104 → M2 a i = M a i) → Q (some (qI (B_put (mW M) p w v))) g M2) : q_S 1 (d + 10) 140 [qR 6 100, qI p, qI w, qI v] g M Q := by
  have n0 := hI.1.1
  rw [s_X6_put]
  unfold B_put at hq0 hq1
  unfold B_ptk at hq0 hq1
  rw [mW_90] at hq0 hq1
  by_cases c1 : 0 ≤ p ∧ p ≤ M 100 0 - 1
  · rw [if_neg (show ¬¬(0 ≤ p ∧ p ≤ M 100 0 - 1) from fun z => z c1)] at hq0 hq1
    obtain ⟨N, rfl⟩ : ∃ N : Nat, p = N := ⟨p.toNat, by omega⟩
    have hNn : N < (M 100 0).toNat := by omega
    by_cases c2 : 0 ≤ w ∧ w ≤ 1
    · by_cases c3 : 0 ≤ v ∧ v ≤ 99
      · have hin := hI.1.2.2.2.2.2.2.1 N (by omega)
        have h := hq1 ⟨c1, c2, c3⟩
        rw [if_neg (show ¬¬((0 ≤ w ∧ w ≤ 1) ∧ (0 ≤ v ∧ v ≤ 99)) from fun z => z ⟨c2, c3⟩), Int.toNat_natCast, mW_2 hNn, mW_3 hNn] at h
        rcases (show w = 0 ∨ w = 1 by omega) with k | k
        · subst k
          rw [if_pos rfl] at h
          have hM : mW (q_upd (q_upd M 104 (3 * N) v) 104 (3 * N + 2) (-1)) = F_pt (mW M) N 0 v := by
            unfold F_pt
            rw [if_pos rfl, mW_up4 (by rw [q_upd_n (by omega)]; exact hNn), mW_up2 hNn, if_pos rfl]
            rfl
          simp (disch := omega) only [b_X6_put_0, x_loadR_0, x_loadS_0, x_loadI_1, y_if_ne_t, y_if_ne_f, b_X6_put_8, x_iconst, x_ret0, b_X6_put_11, x_loadI_2, y_if_eq_t, y_if_eq_f, b_X6_put_20, x_loadI_3, b_X6_put_30, b_X6_put_33, f_6_4, x_imul, x_iadd, y_iald_35, x_storeI_4, y_iast_35, b_X6_put_69, x_goto, b_X6_put_73, b_X6_put_83, x_loadI_4, q_isL_I, q_isL_R, q_isL_S, true_and, and_true, and_self, List.length_nil, List.length_cons, Nat.zero_add, x_K, x_Kn, Int.reduceToNat, Nat.reduceAdd, Nat.reduceMul, Nat.reduceLeDiff, Nat.reduceLT, Nat.zero_le, Int.reduceAdd, Int.reduceSub, Int.reduceMul, Int.reduceNeg, q_add_e, q_sub_e, q_mul_e, q_neg_e, q_upd_s, q_upd_n, zr_shr0, zr_shr1, zr_shr2, zr_shr3, zr_shr4, zr_and, zr_dyn8, zr_or, zr_shl, q_cpy_n, y_cpy26, c_X6_isStone, mp_isStone, c1, c_X6_in, mp_in, c2, c3, and_self, if_true, Int.add_zero, tn_30, tn_32]
          exact h _ hM (fun a i ha => by rw [q_upd_n (by omega), q_upd_n (by omega)])
        · subst k
          rw [if_neg (by decide)] at h
          have hM : mW (q_upd (q_upd M 104 (3 * N + 1) v) 104 (3 * N + 2) (M 104 (3 * N + 2))) = F_pt (mW M) N 1 v := by
            unfold F_pt
            rw [if_neg (by decide), q_upd_id (q_upd_n (by omega)), mW_up3 hNn]
          simp (disch := omega) only [b_X6_put_0, x_loadR_0, x_loadS_0, x_loadI_1, y_if_ne_t, y_if_ne_f, b_X6_put_8, x_iconst, x_ret0, b_X6_put_11, x_loadI_2, y_if_eq_t, y_if_eq_f, b_X6_put_20, x_loadI_3, b_X6_put_30, b_X6_put_33, f_6_4, x_imul, x_iadd, y_iald_35, x_storeI_4, y_iast_35, b_X6_put_69, x_goto, b_X6_put_73, b_X6_put_83, x_loadI_4, q_isL_I, q_isL_R, q_isL_S, true_and, and_true, and_self, List.length_nil, List.length_cons, Nat.zero_add, x_K, x_Kn, Int.reduceToNat, Nat.reduceAdd, Nat.reduceMul, Nat.reduceLeDiff, Nat.reduceLT, Nat.zero_le, Int.reduceAdd, Int.reduceSub, Int.reduceMul, Int.reduceNeg, q_add_e, q_sub_e, q_mul_e, q_neg_e, q_upd_s, q_upd_n, zr_shr0, zr_shr1, zr_shr2, zr_shr3, zr_shr4, zr_and, zr_dyn8, zr_or, zr_shl, q_cpy_n, y_cpy26, c_X6_isStone, mp_isStone, c1, c_X6_in, mp_in, c2, c3, and_self, if_true, tn_31, tn_32]
          exact h _ hM (fun a i ha => by rw [q_upd_n (by omega), q_upd_n (by omega)])
      · have h := hq0 (fun z => c3 z.2.2)
        rw [if_pos (show ¬((0 ≤ w ∧ w ≤ 1) ∧ (0 ≤ v ∧ v ≤ 99)) from fun z => c3 z.2)] at h
        simp (disch := omega) only [b_X6_put_0, x_loadR_0, x_loadS_0, x_loadI_1, y_if_ne_t, y_if_ne_f, b_X6_put_8, x_iconst, x_ret0, b_X6_put_11, x_loadI_2, y_if_eq_t, y_if_eq_f, b_X6_put_20, x_loadI_3, b_X6_put_30, b_X6_put_33, f_6_4, x_imul, x_iadd, y_iald_35, x_storeI_4, y_iast_35, b_X6_put_69, x_goto, b_X6_put_73, b_X6_put_83, x_loadI_4, q_isL_I, q_isL_R, q_isL_S, true_and, and_true, and_self, List.length_nil, List.length_cons, Nat.zero_add, x_K, x_Kn, Int.reduceToNat, Nat.reduceAdd, Nat.reduceMul, Nat.reduceLeDiff, Nat.reduceLT, Nat.zero_le, Int.reduceAdd, Int.reduceSub, Int.reduceMul, Int.reduceNeg, q_add_e, q_sub_e, q_mul_e, q_neg_e, q_upd_s, q_upd_n, zr_shr0, zr_shr1, zr_shr2, zr_shr3, zr_shr4, zr_and, zr_dyn8, zr_or, zr_shl, q_cpy_n, y_cpy26, c_X6_isStone, mp_isStone, c1, c_X6_in, mp_in, c2, c3, and_self, if_true, if_false]
        exact h
    · have h := hq0 (fun z => c2 z.2.1)
      rw [if_pos (show ¬((0 ≤ w ∧ w ≤ 1) ∧ (0 ≤ v ∧ v ≤ 99)) from fun z => c2 z.1)] at h
      simp (disch := omega) only [b_X6_put_0, x_loadR_0, x_loadS_0, x_loadI_1, y_if_ne_t, y_if_ne_f, b_X6_put_8, x_iconst, x_ret0, b_X6_put_11, x_loadI_2, y_if_eq_t, y_if_eq_f, b_X6_put_20, x_loadI_3, b_X6_put_30, b_X6_put_33, f_6_4, x_imul, x_iadd, y_iald_35, x_storeI_4, y_iast_35, b_X6_put_69, x_goto, b_X6_put_73, b_X6_put_83, x_loadI_4, q_isL_I, q_isL_R, q_isL_S, true_and, and_true, and_self, List.length_nil, List.length_cons, Nat.zero_add, x_K, x_Kn, Int.reduceToNat, Nat.reduceAdd, Nat.reduceMul, Nat.reduceLeDiff, Nat.reduceLT, Nat.zero_le, Int.reduceAdd, Int.reduceSub, Int.reduceMul, Int.reduceNeg, q_add_e, q_sub_e, q_mul_e, q_neg_e, q_upd_s, q_upd_n, zr_shr0, zr_shr1, zr_shr2, zr_shr3, zr_shr4, zr_and, zr_dyn8, zr_or, zr_shl, q_cpy_n, y_cpy26, c_X6_isStone, mp_isStone, c1, c_X6_in, mp_in, c2, and_self, if_true, if_false]
      exact h
  · have h := hq0 (fun z => c1 z.1)
    rw [if_pos c1] at h
    simp (disch := omega) only [b_X6_put_0, x_loadR_0, x_loadS_0, x_loadI_1, y_if_ne_t, y_if_ne_f, b_X6_put_8, x_iconst, x_ret0, b_X6_put_11, x_loadI_2, y_if_eq_t, y_if_eq_f, b_X6_put_20, x_loadI_3, b_X6_put_30, b_X6_put_33, f_6_4, x_imul, x_iadd, y_iald_35, x_storeI_4, y_iast_35, b_X6_put_69, x_goto, b_X6_put_73, b_X6_put_83, x_loadI_4, q_isL_I, q_isL_R, q_isL_S, true_and, and_true, and_self, List.length_nil, List.length_cons, Nat.zero_add, x_K, x_Kn, Int.reduceToNat, Nat.reduceAdd, Nat.reduceMul, Nat.reduceLeDiff, Nat.reduceLT, Nat.zero_le, Int.reduceAdd, Int.reduceSub, Int.reduceMul, Int.reduceNeg, q_add_e, q_sub_e, q_mul_e, q_neg_e, q_upd_s, q_upd_n, zr_shr0, zr_shr1, zr_shr2, zr_shr3, zr_shr4, zr_and, zr_dyn8, zr_or, zr_shl, q_cpy_n, y_cpy26, c_X6_isStone, mp_isStone, c1, if_false]
    exact h
set_option maxHeartbeats 4000000 in
theorem mx_sheet {Vt : Nat → Nat → (Nat → Int) → Int} {d tm : Nat} {g : q_G} {M : q_M} {s so n : Int} {Q : Option q_V → q_G → q_M → Prop} (hI : q_MI Vt tm M) (hq0 : A_sheet s so n ≠ 1 → Q (some (qI (A_sheet s so n))) g M) (hq1 : A_sheet s so n = 1 → ∀ M2 : q_M, M2 110 s.toNat = so → M2 111 s.toNat = (if so = -1 then 0 else n) → (∀ i, i < 40 → M2 112 (40 * s.toNat + i) = 0) → (∀ a i, (a = 110 ∨ a = 111 → i ≠ s.toNat) → (a = 112 → i < 40 * s.toNat ∨ 40 * s.toNat + 40 ≤ i) → M2 a i = M a i) → Q (some (qI 1)) g M2) : q_S 1 (d + 11) 193 [qR 6 100, qI s, qI so, qI n] g M Q := by
  have n0 := hI.1.1
  rw [s_X6_sheet]
  by_cases c1 : 0 ≤ s ∧ s ≤ 3
  · obtain ⟨S, rfl⟩ : ∃ S : Nat, s = S := ⟨s.toNat, by omega⟩
    have loop : A_sheet S so n = 1 → ∀ j k : Nat, k + j = 40 → ∀ M1 : q_M, M1 110 S = so → M1 111 S = (if so = -1 then 0 else n) → (∀ i, i < k → M1 112 (40 * S + i) = 0) → (∀ a i, (a = 110 ∨ a = 111 → i ≠ S) → (a = 112 → i < 40 * S ∨ 40 * S + 40 ≤ i) → M1 a i = M a i) → q_T 1 (d + 11) qP_X6_sheet 70 [] [qR 6 100, qI S, qI so, qI n, qI k] [] g M1 Q := by
      intro hA j
      have hq := hq1 hA
      rw [Int.toNat_natCast] at hq
      induction j with
      | zero =>
        intro k hk M1 g0 g1 g2 g3
        rw [b_X6_sheet_70]
        simp (disch := omega) only [b_X6_sheet_0, x_loadI_1, x_iconst, y_if_eq_t, y_if_eq_f, b_X6_sheet_9, x_loadI_2, b_X6_sheet_18, y_ic_eq_t, y_ic_eq_f, b_X6_sheet_23, x_loadI_3, y_ic_le_t, y_ic_le_f, b_X6_sheet_29, x_ret0, b_X6_sheet_32, b_X6_sheet_37, y_if_ge_t, y_if_ge_f, b_X6_sheet_41, b_X6_sheet_44, x_loadR_0, x_loadS_0, f_6_15, y_iast_24, y_iast_180, f_6_16, y_ic_ne_t, y_ic_ne_f, b_X6_sheet_61, x_goto, b_X6_sheet_65, b_X6_sheet_66, x_storeI_4, x_loadI_4, y_ic_ge_t, y_ic_ge_f, b_X6_sheet_77, f_6_17, x_imul, x_iadd, x_iinc_4, b_X6_sheet_96, q_isL_I, q_isL_R, q_isL_S, true_and, and_true, and_self, List.length_nil, List.length_cons, Nat.zero_add, x_K, x_Kn, Int.reduceToNat, Nat.reduceAdd, Nat.reduceMul, Nat.reduceLeDiff, Nat.reduceLT, Nat.zero_le, Int.reduceAdd, Int.reduceSub, Int.reduceMul, Int.reduceNeg, q_add_e, q_sub_e, q_mul_e, q_neg_e, q_upd_s, q_upd_n, zr_shr0, zr_shr1, zr_shr2, zr_shr3, zr_shr4, zr_and, zr_dyn8, zr_or, zr_shl, q_cpy_n, y_cpy26]
        exact hq M1 g0 g1 (fun i hi => g2 i (by omega)) g3
      | succ j ih =>
        intro k hk M1 g0 g1 g2 g3
        rw [b_X6_sheet_70]
        simp (disch := omega) only [b_X6_sheet_0, x_loadI_1, x_iconst, y_if_eq_t, y_if_eq_f, b_X6_sheet_9, x_loadI_2, b_X6_sheet_18, y_ic_eq_t, y_ic_eq_f, b_X6_sheet_23, x_loadI_3, y_ic_le_t, y_ic_le_f, b_X6_sheet_29, x_ret0, b_X6_sheet_32, b_X6_sheet_37, y_if_ge_t, y_if_ge_f, b_X6_sheet_41, b_X6_sheet_44, x_loadR_0, x_loadS_0, f_6_15, y_iast_24, y_iast_180, f_6_16, y_ic_ne_t, y_ic_ne_f, b_X6_sheet_61, x_goto, b_X6_sheet_65, b_X6_sheet_66, x_storeI_4, x_loadI_4, y_ic_ge_t, y_ic_ge_f, b_X6_sheet_77, f_6_17, x_imul, x_iadd, x_iinc_4, b_X6_sheet_96, q_isL_I, q_isL_R, q_isL_S, true_and, and_true, and_self, List.length_nil, List.length_cons, Nat.zero_add, x_K, x_Kn, Int.reduceToNat, Nat.reduceAdd, Nat.reduceMul, Nat.reduceLeDiff, Nat.reduceLT, Nat.zero_le, Int.reduceAdd, Int.reduceSub, Int.reduceMul, Int.reduceNeg, q_add_e, q_sub_e, q_mul_e, q_neg_e, q_upd_s, q_upd_n, zr_shr0, zr_shr1, zr_shr2, zr_shr3, zr_shr4, zr_and, zr_dyn8, zr_or, zr_shl, q_cpy_n, y_cpy26, tn_c]
        refine ih (k + 1) (by omega) _ ((q_upd_n (by omega)).trans g0) ((q_upd_n (by omega)).trans g1) (fun i hi => ?_) (fun a i h1 h2 => ?_)
        · by_cases e : i = k
          · rw [e, q_upd_s]
          · rw [q_upd_n (by omega)]
            exact g2 i (by omega)
        · rw [q_upd_n (by
            by_cases z : a = 112
            · exact Or.inr (by have := h2 z; omega)
            · exact Or.inl z)]
          exact g3 a i h1 h2
    by_cases c2 : -1 ≤ so ∧ so ≤ 2
    · by_cases c3 : so = -1
      · have eA : A_sheet S so n = 1 := by unfold A_sheet; rw [if_neg (by omega), if_pos c3]
        have q1 : ∀ a i, (a = 110 ∨ a = 111 → i ≠ S) → (a = 112 → i < 40 * S ∨ 40 * S + 40 ≤ i) → q_upd (q_upd M 110 S so) 111 S 0 a i = M a i := fun a i h1 _ => by rw [q_upd_n (by omega), q_upd_n (by omega)]
        simp (disch := omega) only [b_X6_sheet_0, x_loadI_1, x_iconst, y_if_eq_t, y_if_eq_f, b_X6_sheet_9, x_loadI_2, b_X6_sheet_18, y_ic_eq_t, y_ic_eq_f, b_X6_sheet_23, x_loadI_3, y_ic_le_t, y_ic_le_f, b_X6_sheet_29, x_ret0, b_X6_sheet_32, b_X6_sheet_37, y_if_ge_t, y_if_ge_f, b_X6_sheet_41, b_X6_sheet_44, x_loadR_0, x_loadS_0, f_6_15, y_iast_24, y_iast_180, f_6_16, y_ic_ne_t, y_ic_ne_f, b_X6_sheet_61, x_goto, b_X6_sheet_65, b_X6_sheet_66, x_storeI_4, x_loadI_4, y_ic_ge_t, y_ic_ge_f, b_X6_sheet_77, f_6_17, x_imul, x_iadd, x_iinc_4, b_X6_sheet_96, q_isL_I, q_isL_R, q_isL_S, true_and, and_true, and_self, List.length_nil, List.length_cons, Nat.zero_add, x_K, x_Kn, Int.reduceToNat, Nat.reduceAdd, Nat.reduceMul, Nat.reduceLeDiff, Nat.reduceLT, Nat.zero_le, Int.reduceAdd, Int.reduceSub, Int.reduceMul, Int.reduceNeg, q_add_e, q_sub_e, q_mul_e, q_neg_e, q_upd_s, q_upd_n, zr_shr0, zr_shr1, zr_shr2, zr_shr3, zr_shr4, zr_and, zr_dyn8, zr_or, zr_shl, q_cpy_n, y_cpy26, c_X6_in, mp_in, c1, c2, and_self, if_true, Int.toNat_natCast]
        exact loop eA 40 0 rfl _ (by rw [q_upd_n (by omega), q_upd_s]) (by rw [q_upd_s, if_pos c3]) (fun i hi => absurd hi (by omega)) q1
      · by_cases c4 : 40 < n
        · have eA : A_sheet S so n = -2 := by unfold A_sheet; rw [if_neg (by omega), if_neg (by omega), if_pos c4]
          have hq := hq0 (by rw [eA]; decide)
          rw [eA] at hq
          simp (disch := omega) only [b_X6_sheet_0, x_loadI_1, x_iconst, y_if_eq_t, y_if_eq_f, b_X6_sheet_9, x_loadI_2, b_X6_sheet_18, y_ic_eq_t, y_ic_eq_f, b_X6_sheet_23, x_loadI_3, y_ic_le_t, y_ic_le_f, b_X6_sheet_29, x_ret0, b_X6_sheet_32, b_X6_sheet_37, y_if_ge_t, y_if_ge_f, b_X6_sheet_41, b_X6_sheet_44, x_loadR_0, x_loadS_0, f_6_15, y_iast_24, y_iast_180, f_6_16, y_ic_ne_t, y_ic_ne_f, b_X6_sheet_61, x_goto, b_X6_sheet_65, b_X6_sheet_66, x_storeI_4, x_loadI_4, y_ic_ge_t, y_ic_ge_f, b_X6_sheet_77, f_6_17, x_imul, x_iadd, x_iinc_4, b_X6_sheet_96, q_isL_I, q_isL_R, q_isL_S, true_and, and_true, and_self, List.length_nil, List.length_cons, Nat.zero_add, x_K, x_Kn, Int.reduceToNat, Nat.reduceAdd, Nat.reduceMul, Nat.reduceLeDiff, Nat.reduceLT, Nat.zero_le, Int.reduceAdd, Int.reduceSub, Int.reduceMul, Int.reduceNeg, q_add_e, q_sub_e, q_mul_e, q_neg_e, q_upd_s, q_upd_n, zr_shr0, zr_shr1, zr_shr2, zr_shr3, zr_shr4, zr_and, zr_dyn8, zr_or, zr_shl, q_cpy_n, y_cpy26, c_X6_in, mp_in, c1, c2, and_self, if_true]
          exact hq
        · by_cases c5 : n < 0
          · have eA : A_sheet S so n = -14 := by unfold A_sheet; rw [if_neg (by omega), if_neg (by omega), if_neg c4, if_pos c5]
            have hq := hq0 (by rw [eA]; decide)
            rw [eA] at hq
            simp (disch := omega) only [b_X6_sheet_0, x_loadI_1, x_iconst, y_if_eq_t, y_if_eq_f, b_X6_sheet_9, x_loadI_2, b_X6_sheet_18, y_ic_eq_t, y_ic_eq_f, b_X6_sheet_23, x_loadI_3, y_ic_le_t, y_ic_le_f, b_X6_sheet_29, x_ret0, b_X6_sheet_32, b_X6_sheet_37, y_if_ge_t, y_if_ge_f, b_X6_sheet_41, b_X6_sheet_44, x_loadR_0, x_loadS_0, f_6_15, y_iast_24, y_iast_180, f_6_16, y_ic_ne_t, y_ic_ne_f, b_X6_sheet_61, x_goto, b_X6_sheet_65, b_X6_sheet_66, x_storeI_4, x_loadI_4, y_ic_ge_t, y_ic_ge_f, b_X6_sheet_77, f_6_17, x_imul, x_iadd, x_iinc_4, b_X6_sheet_96, q_isL_I, q_isL_R, q_isL_S, true_and, and_true, and_self, List.length_nil, List.length_cons, Nat.zero_add, x_K, x_Kn, Int.reduceToNat, Nat.reduceAdd, Nat.reduceMul, Nat.reduceLeDiff, Nat.reduceLT, Nat.zero_le, Int.reduceAdd, Int.reduceSub, Int.reduceMul, Int.reduceNeg, q_add_e, q_sub_e, q_mul_e, q_neg_e, q_upd_s, q_upd_n, zr_shr0, zr_shr1, zr_shr2, zr_shr3, zr_shr4, zr_and, zr_dyn8, zr_or, zr_shl, q_cpy_n, y_cpy26, c_X6_in, mp_in, c1, c2, and_self, if_true]
            exact hq
          · have eA : A_sheet S so n = 1 := by unfold A_sheet; rw [if_neg (by omega), if_neg (by omega), if_neg c4, if_neg c5]
            have q1 : ∀ a i, (a = 110 ∨ a = 111 → i ≠ S) → (a = 112 → i < 40 * S ∨ 40 * S + 40 ≤ i) → q_upd (q_upd M 110 S so) 111 S n a i = M a i := fun a i h1 _ => by rw [q_upd_n (by omega), q_upd_n (by omega)]
            simp (disch := omega) only [b_X6_sheet_0, x_loadI_1, x_iconst, y_if_eq_t, y_if_eq_f, b_X6_sheet_9, x_loadI_2, b_X6_sheet_18, y_ic_eq_t, y_ic_eq_f, b_X6_sheet_23, x_loadI_3, y_ic_le_t, y_ic_le_f, b_X6_sheet_29, x_ret0, b_X6_sheet_32, b_X6_sheet_37, y_if_ge_t, y_if_ge_f, b_X6_sheet_41, b_X6_sheet_44, x_loadR_0, x_loadS_0, f_6_15, y_iast_24, y_iast_180, f_6_16, y_ic_ne_t, y_ic_ne_f, b_X6_sheet_61, x_goto, b_X6_sheet_65, b_X6_sheet_66, x_storeI_4, x_loadI_4, y_ic_ge_t, y_ic_ge_f, b_X6_sheet_77, f_6_17, x_imul, x_iadd, x_iinc_4, b_X6_sheet_96, q_isL_I, q_isL_R, q_isL_S, true_and, and_true, and_self, List.length_nil, List.length_cons, Nat.zero_add, x_K, x_Kn, Int.reduceToNat, Nat.reduceAdd, Nat.reduceMul, Nat.reduceLeDiff, Nat.reduceLT, Nat.zero_le, Int.reduceAdd, Int.reduceSub, Int.reduceMul, Int.reduceNeg, q_add_e, q_sub_e, q_mul_e, q_neg_e, q_upd_s, q_upd_n, zr_shr0, zr_shr1, zr_shr2, zr_shr3, zr_shr4, zr_and, zr_dyn8, zr_or, zr_shl, q_cpy_n, y_cpy26, c_X6_in, mp_in, c1, c2, and_self, if_true, Int.toNat_natCast]
            exact loop eA 40 0 rfl _ (by rw [q_upd_n (by omega), q_upd_s]) (by rw [q_upd_s, if_neg c3]) (fun i hi => absurd hi (by omega)) q1
    · have eA : A_sheet S so n = -2 := by unfold A_sheet; rw [if_pos (by omega)]
      have hq := hq0 (by rw [eA]; decide)
      rw [eA] at hq
      simp (disch := omega) only [b_X6_sheet_0, x_loadI_1, x_iconst, y_if_eq_t, y_if_eq_f, b_X6_sheet_9, x_loadI_2, b_X6_sheet_18, y_ic_eq_t, y_ic_eq_f, b_X6_sheet_23, x_loadI_3, y_ic_le_t, y_ic_le_f, b_X6_sheet_29, x_ret0, b_X6_sheet_32, b_X6_sheet_37, y_if_ge_t, y_if_ge_f, b_X6_sheet_41, b_X6_sheet_44, x_loadR_0, x_loadS_0, f_6_15, y_iast_24, y_iast_180, f_6_16, y_ic_ne_t, y_ic_ne_f, b_X6_sheet_61, x_goto, b_X6_sheet_65, b_X6_sheet_66, x_storeI_4, x_loadI_4, y_ic_ge_t, y_ic_ge_f, b_X6_sheet_77, f_6_17, x_imul, x_iadd, x_iinc_4, b_X6_sheet_96, q_isL_I, q_isL_R, q_isL_S, true_and, and_true, and_self, List.length_nil, List.length_cons, Nat.zero_add, x_K, x_Kn, Int.reduceToNat, Nat.reduceAdd, Nat.reduceMul, Nat.reduceLeDiff, Nat.reduceLT, Nat.zero_le, Int.reduceAdd, Int.reduceSub, Int.reduceMul, Int.reduceNeg, q_add_e, q_sub_e, q_mul_e, q_neg_e, q_upd_s, q_upd_n, zr_shr0, zr_shr1, zr_shr2, zr_shr3, zr_shr4, zr_and, zr_dyn8, zr_or, zr_shl, q_cpy_n, y_cpy26, c_X6_in, mp_in, c1, c2, and_self, if_true, if_false]
      exact hq
  · have eA : A_sheet s so n = -2 := by unfold A_sheet; rw [if_pos (by omega)]
    have hq := hq0 (by rw [eA]; decide)
    rw [eA] at hq
    simp (disch := omega) only [b_X6_sheet_0, x_loadI_1, x_iconst, y_if_eq_t, y_if_eq_f, b_X6_sheet_9, x_loadI_2, b_X6_sheet_18, y_ic_eq_t, y_ic_eq_f, b_X6_sheet_23, x_loadI_3, y_ic_le_t, y_ic_le_f, b_X6_sheet_29, x_ret0, b_X6_sheet_32, b_X6_sheet_37, y_if_ge_t, y_if_ge_f, b_X6_sheet_41, b_X6_sheet_44, x_loadR_0, x_loadS_0, f_6_15, y_iast_24, y_iast_180, f_6_16, y_ic_ne_t, y_ic_ne_f, b_X6_sheet_61, x_goto, b_X6_sheet_65, b_X6_sheet_66, x_storeI_4, x_loadI_4, y_ic_ge_t, y_ic_ge_f, b_X6_sheet_77, f_6_17, x_imul, x_iadd, x_iinc_4, b_X6_sheet_96, q_isL_I, q_isL_R, q_isL_S, true_and, and_true, and_self, List.length_nil, List.length_cons, Nat.zero_add, x_K, x_Kn, Int.reduceToNat, Nat.reduceAdd, Nat.reduceMul, Nat.reduceLeDiff, Nat.reduceLT, Nat.zero_le, Int.reduceAdd, Int.reduceSub, Int.reduceMul, Int.reduceNeg, q_add_e, q_sub_e, q_mul_e, q_neg_e, q_upd_s, q_upd_n, zr_shr0, zr_shr1, zr_shr2, zr_shr3, zr_shr4, zr_and, zr_dyn8, zr_or, zr_shl, q_cpy_n, y_cpy26, c_X6_in, mp_in, c1, if_false]
    exact hq
def B_cell (M : q_M) (s i : Int) : Int := if ¬(0 ≤ s ∧ s < 4) then -2 else if M 110 s.toNat = -1 then -11 else if i < 0 ∨ M 111 s.toNat ≤ i then -12 else 1
set_option maxHeartbeats 4000000 in
theorem mx_cell {Vt : Nat → Nat → (Nat → Int) → Int} {d tm : Nat} {g : q_G} {M : q_M} {s i v : Int} {Q : Option q_V → q_G → q_M → Prop} (hI : q_MI Vt tm M) (hq0 : B_cell M s i ≠ 1 → Q (some (qI (B_cell M s i))) g M) (hq1 : B_cell M s i = 1 → Q (some (qI 1)) g (q_upd M 112 (40 * s.toNat + i.toNat) (F_cvt (M 110 s.toNat) v))) : q_S 1 (d + 11) 194 [qR 6 100, qI s, qI i, qI v] g M Q := by
  have n0 := hI.1.1
  rw [s_X6_cell]
  by_cases c1 : 0 ≤ s ∧ s ≤ 3
  · obtain ⟨S, rfl⟩ : ∃ S : Nat, s = S := ⟨s.toNat, by omega⟩
    have hz := hI.2.2.2.1 S (by omega)
    by_cases c2 : M 110 S = -1
    · simp (disch := omega) only [b_X6_cell_0, x_loadI_1, x_iconst, y_if_ne_t, y_if_ne_f, b_X6_cell_9, x_ret0, b_X6_cell_12, x_loadR_0, x_loadS_0, f_6_15, y_iald_24, y_iald_180, y_ic_ne_t, y_ic_ne_f, b_X6_cell_22, b_X6_cell_25, x_loadI_2, f_6_16, x_isub, b_X6_cell_41, b_X6_cell_44, f_6_17, x_imul, x_iadd, b_X6_cell_63, x_loadI_3, x_i2b, x_goto, b_X6_cell_68, b_X6_cell_78, x_i2s, b_X6_cell_83, b_X6_cell_84, y_iast_24, y_iast_180, q_isL_I, q_isL_R, q_isL_S, true_and, and_true, and_self, List.length_nil, List.length_cons, Nat.zero_add, x_K, x_Kn, Int.reduceToNat, Nat.reduceAdd, Nat.reduceMul, Nat.reduceLeDiff, Nat.reduceLT, Nat.zero_le, Int.reduceAdd, Int.reduceSub, Int.reduceMul, Int.reduceNeg, q_add_e, q_sub_e, q_mul_e, q_neg_e, q_upd_s, q_upd_n, zr_shr0, zr_shr1, zr_shr2, zr_shr3, zr_shr4, zr_and, zr_dyn8, zr_or, zr_shl, q_cpy_n, y_cpy26, c_X6_in, mp_in, c1, and_self, if_true, Int.toNat_natCast]
      have eA : B_cell M S i = -11 := by unfold B_cell; rw [if_neg (show ¬¬(0 ≤ (S : Int) ∧ (S : Int) < 4) by omega), Int.toNat_natCast, if_pos c2]
      have h := hq0 (by rw [eA]; decide)
      rw [eA] at h
      exact h
    · by_cases c3 : 0 ≤ i ∧ i ≤ M 111 S - 1
      · obtain ⟨I, rfl⟩ : ∃ I : Nat, i = I := ⟨i.toNat, by omega⟩
        have eA : B_cell M S I = 1 := by unfold B_cell; rw [if_neg (show ¬¬(0 ≤ (S : Int) ∧ (S : Int) < 4) by omega), Int.toNat_natCast, if_neg c2, if_neg (by omega)]
        have h := hq1 eA
        rw [Int.toNat_natCast, Int.toNat_natCast] at h
        unfold F_cvt at h
        by_cases c4 : M 110 S = 0
        · simp (disch := omega) only [b_X6_cell_0, x_loadI_1, x_iconst, y_if_ne_t, y_if_ne_f, b_X6_cell_9, x_ret0, b_X6_cell_12, x_loadR_0, x_loadS_0, f_6_15, y_iald_24, y_iald_180, y_ic_ne_t, y_ic_ne_f, b_X6_cell_22, b_X6_cell_25, x_loadI_2, f_6_16, x_isub, b_X6_cell_41, b_X6_cell_44, f_6_17, x_imul, x_iadd, b_X6_cell_63, x_loadI_3, x_i2b, x_goto, b_X6_cell_68, b_X6_cell_78, x_i2s, b_X6_cell_83, b_X6_cell_84, y_iast_24, y_iast_180, q_isL_I, q_isL_R, q_isL_S, true_and, and_true, and_self, List.length_nil, List.length_cons, Nat.zero_add, x_K, x_Kn, Int.reduceToNat, Nat.reduceAdd, Nat.reduceMul, Nat.reduceLeDiff, Nat.reduceLT, Nat.zero_le, Int.reduceAdd, Int.reduceSub, Int.reduceMul, Int.reduceNeg, q_add_e, q_sub_e, q_mul_e, q_neg_e, q_upd_s, q_upd_n, zr_shr0, zr_shr1, zr_shr2, zr_shr3, zr_shr4, zr_and, zr_dyn8, zr_or, zr_shl, q_cpy_n, y_cpy26, c_X6_in, mp_in, c1, c3, and_self, if_true, Int.toNat_natCast, tn_c]
          rw [if_pos c4] at h
          exact h
        · by_cases c5 : M 110 S = 1
          · simp (disch := omega) only [b_X6_cell_0, x_loadI_1, x_iconst, y_if_ne_t, y_if_ne_f, b_X6_cell_9, x_ret0, b_X6_cell_12, x_loadR_0, x_loadS_0, f_6_15, y_iald_24, y_iald_180, y_ic_ne_t, y_ic_ne_f, b_X6_cell_22, b_X6_cell_25, x_loadI_2, f_6_16, x_isub, b_X6_cell_41, b_X6_cell_44, f_6_17, x_imul, x_iadd, b_X6_cell_63, x_loadI_3, x_i2b, x_goto, b_X6_cell_68, b_X6_cell_78, x_i2s, b_X6_cell_83, b_X6_cell_84, y_iast_24, y_iast_180, q_isL_I, q_isL_R, q_isL_S, true_and, and_true, and_self, List.length_nil, List.length_cons, Nat.zero_add, x_K, x_Kn, Int.reduceToNat, Nat.reduceAdd, Nat.reduceMul, Nat.reduceLeDiff, Nat.reduceLT, Nat.zero_le, Int.reduceAdd, Int.reduceSub, Int.reduceMul, Int.reduceNeg, q_add_e, q_sub_e, q_mul_e, q_neg_e, q_upd_s, q_upd_n, zr_shr0, zr_shr1, zr_shr2, zr_shr3, zr_shr4, zr_and, zr_dyn8, zr_or, zr_shl, q_cpy_n, y_cpy26, c_X6_in, mp_in, c1, c3, and_self, if_true, Int.toNat_natCast, tn_c]
            rw [if_neg c4, if_pos c5] at h
            exact h
          · simp (disch := omega) only [b_X6_cell_0, x_loadI_1, x_iconst, y_if_ne_t, y_if_ne_f, b_X6_cell_9, x_ret0, b_X6_cell_12, x_loadR_0, x_loadS_0, f_6_15, y_iald_24, y_iald_180, y_ic_ne_t, y_ic_ne_f, b_X6_cell_22, b_X6_cell_25, x_loadI_2, f_6_16, x_isub, b_X6_cell_41, b_X6_cell_44, f_6_17, x_imul, x_iadd, b_X6_cell_63, x_loadI_3, x_i2b, x_goto, b_X6_cell_68, b_X6_cell_78, x_i2s, b_X6_cell_83, b_X6_cell_84, y_iast_24, y_iast_180, q_isL_I, q_isL_R, q_isL_S, true_and, and_true, and_self, List.length_nil, List.length_cons, Nat.zero_add, x_K, x_Kn, Int.reduceToNat, Nat.reduceAdd, Nat.reduceMul, Nat.reduceLeDiff, Nat.reduceLT, Nat.zero_le, Int.reduceAdd, Int.reduceSub, Int.reduceMul, Int.reduceNeg, q_add_e, q_sub_e, q_mul_e, q_neg_e, q_upd_s, q_upd_n, zr_shr0, zr_shr1, zr_shr2, zr_shr3, zr_shr4, zr_and, zr_dyn8, zr_or, zr_shl, q_cpy_n, y_cpy26, c_X6_in, mp_in, c1, c3, and_self, if_true, Int.toNat_natCast, tn_c]
            rw [if_neg c4, if_neg c5] at h
            exact h
      · simp (disch := omega) only [b_X6_cell_0, x_loadI_1, x_iconst, y_if_ne_t, y_if_ne_f, b_X6_cell_9, x_ret0, b_X6_cell_12, x_loadR_0, x_loadS_0, f_6_15, y_iald_24, y_iald_180, y_ic_ne_t, y_ic_ne_f, b_X6_cell_22, b_X6_cell_25, x_loadI_2, f_6_16, x_isub, b_X6_cell_41, b_X6_cell_44, f_6_17, x_imul, x_iadd, b_X6_cell_63, x_loadI_3, x_i2b, x_goto, b_X6_cell_68, b_X6_cell_78, x_i2s, b_X6_cell_83, b_X6_cell_84, y_iast_24, y_iast_180, q_isL_I, q_isL_R, q_isL_S, true_and, and_true, and_self, List.length_nil, List.length_cons, Nat.zero_add, x_K, x_Kn, Int.reduceToNat, Nat.reduceAdd, Nat.reduceMul, Nat.reduceLeDiff, Nat.reduceLT, Nat.zero_le, Int.reduceAdd, Int.reduceSub, Int.reduceMul, Int.reduceNeg, q_add_e, q_sub_e, q_mul_e, q_neg_e, q_upd_s, q_upd_n, zr_shr0, zr_shr1, zr_shr2, zr_shr3, zr_shr4, zr_and, zr_dyn8, zr_or, zr_shl, q_cpy_n, y_cpy26, c_X6_in, mp_in, c1, c3, and_self, if_true, if_false, Int.toNat_natCast]
        have eA : B_cell M S i = -12 := by unfold B_cell; rw [if_neg (show ¬¬(0 ≤ (S : Int) ∧ (S : Int) < 4) by omega), Int.toNat_natCast, if_neg c2, if_pos (by omega)]
        have h := hq0 (by rw [eA]; decide)
        rw [eA] at h
        exact h
  · have eA : B_cell M s i = -2 := by unfold B_cell; rw [if_pos (by omega)]
    have h := hq0 (by rw [eA]; decide)
    rw [eA] at h
    simp (disch := omega) only [b_X6_cell_0, x_loadI_1, x_iconst, y_if_ne_t, y_if_ne_f, b_X6_cell_9, x_ret0, b_X6_cell_12, x_loadR_0, x_loadS_0, f_6_15, y_iald_24, y_iald_180, y_ic_ne_t, y_ic_ne_f, b_X6_cell_22, b_X6_cell_25, x_loadI_2, f_6_16, x_isub, b_X6_cell_41, b_X6_cell_44, f_6_17, x_imul, x_iadd, b_X6_cell_63, x_loadI_3, x_i2b, x_goto, b_X6_cell_68, b_X6_cell_78, x_i2s, b_X6_cell_83, b_X6_cell_84, y_iast_24, y_iast_180, q_isL_I, q_isL_R, q_isL_S, true_and, and_true, and_self, List.length_nil, List.length_cons, Nat.zero_add, x_K, x_Kn, Int.reduceToNat, Nat.reduceAdd, Nat.reduceMul, Nat.reduceLeDiff, Nat.reduceLT, Nat.zero_le, Int.reduceAdd, Int.reduceSub, Int.reduceMul, Int.reduceNeg, q_add_e, q_sub_e, q_mul_e, q_neg_e, q_upd_s, q_upd_n, zr_shr0, zr_shr1, zr_shr2, zr_shr3, zr_shr4, zr_and, zr_dyn8, zr_or, zr_shl, q_cpy_n, y_cpy26, c_X6_in, mp_in, c1, if_false]
    exact h
