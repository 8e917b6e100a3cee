/-! THE MODEL: what is against peace, how much together, in digits, whom one asks next -/
section AGAINST
variable {d : Nat} {g : q_G} {M : q_M} {x : (Nat → Int) × (Nat → Int)}
/-- whom a building would take, as the model has it -/
def G_T (W : Nat → Nat → Int) (R : Nat → Int) (f : Nat → Int) (n : Nat) : Nat → Nat → Bool := fun p b => F_takes f (fun q => W q b) (R b) b n p
set_option maxHeartbeats 4000000 in
theorem mp_against (h0 : 0 ≤ M 100 0) (h5 : M 100 0 ≤ 5) (hx : q_x5 (M 100 0).toNat x) (Q : Option q_V → q_G → q_M → Prop) : q_S 1 (d + 2) 164 [qR 6 100] g (q_yM M x) Q = Q (some (qI (F_cmp (mL M) (G_T (mWn M) (mR M) x.1 (M 100 0).toNat) x.1 (M 100 0).toNat 0))) g (q_yM M x) := by
  refine q_S_eq (fun Q hq => ?_) Q
  have e0 : q_yM M x 100 0 = M 100 0 := ry_n (by omega) (by omega)
  have eL : ∀ i, q_yM M x 119 i = M 119 i := fun i => ry_n (by omega) (by omega)
  rw [s_X6_against]
  have loop : ∀ j p : Nat, p + j = (M 100 0).toNat → ∀ l2 : q_V, q_isL l2 = false → Q (some (qI (F_cmp (mL M) (G_T (mWn M) (mR M) x.1 (M 100 0).toNat) x.1 j p))) g (q_yM M x) → q_T 1 (d + 2) qP_X6_against 2 [] [qR 6 100, qI p, l2] [] g (q_yM M x) Q := by
    intro j
    induction j with
    | zero =>
      intro p hp l2 hl2 hq
      rw [F_cmp] at hq
      rw [b_X6_against_2]
      simp (disch := omega) only [b_X6_against_0, x_iconst, x_storeI_1, x_loadI_1, x_loadR_0, x_loadS_0, f_6_0, y_ic_ge_t, y_ic_ge_f, b_X6_against_10, f_6_33, y_iald_25, y_iald_45, y_ic_eq_t, y_ic_eq_f, b_X6_against_20, f_6_31, x_imul, x_iadd, y_if_gt_t, y_if_gt_f, b_X6_against_38, x_ret0, b_X6_against_46, x_storeI_2, x_loadI_2, b_X6_against_53, y_if_eq_t, y_if_eq_f, b_X6_against_62, b_X6_against_71, b_X6_against_78, x_iinc_2, x_goto, b_X6_against_84, x_iinc_1, b_X6_against_90, q_isL_I, q_isL_R, q_isL_S, true_and, and_true, and_self, List.length_nil, List.length_cons, Nat.zero_add, x_K, x_Kn, Int.reduceToNat, Nat.reduceAdd, Nat.reduceMul, Nat.reduceLeDiff, Nat.reduceLT, Nat.zero_le, Int.reduceAdd, Int.reduceSub, Int.reduceMul, Int.reduceNeg, q_add_e, q_sub_e, q_mul_e, q_neg_e, q_upd_s, q_upd_n, zr_shr0, zr_shr1, zr_shr2, zr_shr3, zr_shr4, zr_and, zr_dyn8, zr_or, zr_shl, q_cpy_n, y_cpy26, e0]
      exact hq
    | succ j ih =>
      intro p hp l2 hl2 hq
      have hxp := hx p (by omega)
      rw [F_cmp] at hq
      have inner : ∀ k b : Nat, b + k = 5 → (if F_cB (mL M) (G_T (mWn M) (mR M) x.1 (M 100 0).toNat) x.1 p k b = -1 then Q (some (qI (F_cmp (mL M) (G_T (mWn M) (mR M) x.1 (M 100 0).toNat) x.1 j (p + 1)))) g (q_yM M x) else Q (some (qI (10 * p + F_cB (mL M) (G_T (mWn M) (mR M) x.1 (M 100 0).toNat) x.1 p k b))) g (q_yM M x)) → q_T 1 (d + 2) qP_X6_against 48 [] [qR 6 100, qI p, qI b] [] g (q_yM M x) Q := by
        intro k
        induction k with
        | zero =>
          intro b hb hq
          rw [F_cB, if_pos rfl] at hq
          rw [b_X6_against_48]
          simp (disch := omega) only [b_X6_against_0, x_iconst, x_storeI_1, x_loadI_1, x_loadR_0, x_loadS_0, f_6_0, y_ic_ge_t, y_ic_ge_f, b_X6_against_10, f_6_33, y_iald_25, y_iald_45, y_ic_eq_t, y_ic_eq_f, b_X6_against_20, f_6_31, x_imul, x_iadd, y_if_gt_t, y_if_gt_f, b_X6_against_38, x_ret0, b_X6_against_46, x_storeI_2, x_loadI_2, b_X6_against_53, y_if_eq_t, y_if_eq_f, b_X6_against_62, b_X6_against_71, b_X6_against_78, x_iinc_2, x_goto, b_X6_against_84, x_iinc_1, b_X6_against_90, q_isL_I, q_isL_R, q_isL_S, true_and, and_true, and_self, List.length_nil, List.length_cons, Nat.zero_add, x_K, x_Kn, Int.reduceToNat, Nat.reduceAdd, Nat.reduceMul, Nat.reduceLeDiff, Nat.reduceLT, Nat.zero_le, Int.reduceAdd, Int.reduceSub, Int.reduceMul, Int.reduceNeg, q_add_e, q_sub_e, q_mul_e, q_neg_e, q_upd_s, q_upd_n, zr_shr0, zr_shr1, zr_shr2, zr_shr3, zr_shr4, zr_and, zr_dyn8, zr_or, zr_shl, q_cpy_n, y_cpy26]
          exact ih (p + 1) (by omega) _ rfl hq
        | succ k ih2 =>
          intro b hb hq
          have ih3 := ih2 (b + 1) (by omega)
          rw [F_cB] at hq
          rw [b_X6_against_48]
          by_cases r1 : F_rth (mL M p) b (x.1 p).toNat = true
          · by_cases r2 : G_T (mWn M) (mR M) x.1 (M 100 0).toNat p b = true
            · rw [if_pos (show F_rth (mL M p) b (x.1 p).toNat = true ∧ G_T (mWn M) (mR M) x.1 (M 100 0).toNat p b = true from ⟨r1, r2⟩), if_neg (by omega)] at hq
              have r3 : F_takes x.1 (fun q => mWn M q b) (mR M b) b (M 100 0).toNat p = true := r2
              simp (disch := omega) only [b_X6_against_0, x_iconst, x_storeI_1, x_loadI_1, x_loadR_0, x_loadS_0, f_6_0, y_ic_ge_t, y_ic_ge_f, b_X6_against_10, f_6_33, y_iald_25, y_iald_45, y_ic_eq_t, y_ic_eq_f, b_X6_against_20, f_6_31, x_imul, x_iadd, y_if_gt_t, y_if_gt_f, b_X6_against_38, x_ret0, b_X6_against_46, x_storeI_2, x_loadI_2, b_X6_against_53, y_if_eq_t, y_if_eq_f, b_X6_against_62, b_X6_against_71, b_X6_against_78, x_iinc_2, x_goto, b_X6_against_84, x_iinc_1, b_X6_against_90, q_isL_I, q_isL_R, q_isL_S, true_and, and_true, and_self, List.length_nil, List.length_cons, Nat.zero_add, x_K, x_Kn, Int.reduceToNat, Nat.reduceAdd, Nat.reduceMul, Nat.reduceLeDiff, Nat.reduceLT, Nat.zero_le, Int.reduceAdd, Int.reduceSub, Int.reduceMul, Int.reduceNeg, q_add_e, q_sub_e, q_mul_e, q_neg_e, q_upd_s, q_upd_n, zr_shr0, zr_shr1, zr_shr2, zr_shr3, zr_shr4, zr_and, zr_dyn8, zr_or, zr_shl, q_cpy_n, y_cpy26, c_X6_wouldRather, mp_wouldRather, hx, r1, if_true, c_X6_wouldTake, mp_wouldTake, r3]
              exact hq
            · rw [if_neg (show ¬(F_rth (mL M p) b (x.1 p).toNat = true ∧ G_T (mWn M) (mR M) x.1 (M 100 0).toNat p b = true) from fun z => r2 z.2)] at hq
              have r3 : ¬F_takes x.1 (fun q => mWn M q b) (mR M b) b (M 100 0).toNat p = true := r2
              simp (disch := omega) only [b_X6_against_0, x_iconst, x_storeI_1, x_loadI_1, x_loadR_0, x_loadS_0, f_6_0, y_ic_ge_t, y_ic_ge_f, b_X6_against_10, f_6_33, y_iald_25, y_iald_45, y_ic_eq_t, y_ic_eq_f, b_X6_against_20, f_6_31, x_imul, x_iadd, y_if_gt_t, y_if_gt_f, b_X6_against_38, x_ret0, b_X6_against_46, x_storeI_2, x_loadI_2, b_X6_against_53, y_if_eq_t, y_if_eq_f, b_X6_against_62, b_X6_against_71, b_X6_against_78, x_iinc_2, x_goto, b_X6_against_84, x_iinc_1, b_X6_against_90, q_isL_I, q_isL_R, q_isL_S, true_and, and_true, and_self, List.length_nil, List.length_cons, Nat.zero_add, x_K, x_Kn, Int.reduceToNat, Nat.reduceAdd, Nat.reduceMul, Nat.reduceLeDiff, Nat.reduceLT, Nat.zero_le, Int.reduceAdd, Int.reduceSub, Int.reduceMul, Int.reduceNeg, q_add_e, q_sub_e, q_mul_e, q_neg_e, q_upd_s, q_upd_n, zr_shr0, zr_shr1, zr_shr2, zr_shr3, zr_shr4, zr_and, zr_dyn8, zr_or, zr_shl, q_cpy_n, y_cpy26, c_X6_wouldRather, mp_wouldRather, hx, r1, if_true, c_X6_wouldTake, mp_wouldTake, r3, Bool.false_eq_true, if_false]
              exact ih3 hq
          · rw [if_neg (show ¬(F_rth (mL M p) b (x.1 p).toNat = true ∧ G_T (mWn M) (mR M) x.1 (M 100 0).toNat p b = true) from fun z => r1 z.1)] at hq
            simp (disch := omega) only [b_X6_against_0, x_iconst, x_storeI_1, x_loadI_1, x_loadR_0, x_loadS_0, f_6_0, y_ic_ge_t, y_ic_ge_f, b_X6_against_10, f_6_33, y_iald_25, y_iald_45, y_ic_eq_t, y_ic_eq_f, b_X6_against_20, f_6_31, x_imul, x_iadd, y_if_gt_t, y_if_gt_f, b_X6_against_38, x_ret0, b_X6_against_46, x_storeI_2, x_loadI_2, b_X6_against_53, y_if_eq_t, y_if_eq_f, b_X6_against_62, b_X6_against_71, b_X6_against_78, x_iinc_2, x_goto, b_X6_against_84, x_iinc_1, b_X6_against_90, q_isL_I, q_isL_R, q_isL_S, true_and, and_true, and_self, List.length_nil, List.length_cons, Nat.zero_add, x_K, x_Kn, Int.reduceToNat, Nat.reduceAdd, Nat.reduceMul, Nat.reduceLeDiff, Nat.reduceLT, Nat.zero_le, Int.reduceAdd, Int.reduceSub, Int.reduceMul, Int.reduceNeg, q_add_e, q_sub_e, q_mul_e, q_neg_e, q_upd_s, q_upd_n, zr_shr0, zr_shr1, zr_shr2, zr_shr3, zr_shr4, zr_and, zr_dyn8, zr_or, zr_shl, q_cpy_n, y_cpy26, c_X6_wouldRather, mp_wouldRather, hx, r1, Bool.false_eq_true, if_false]
            exact ih3 hq
      have inner0 := inner 5 0 (by omega)
      rw [b_X6_against_2]
      by_cases c1 : x.1 p = 5
      · rw [if_neg (fun z => z.1 c1)] at hq
        have er : m_raw (x.1 p) = -1 := if_pos c1
        simp (disch := omega) only [b_X6_against_0, x_iconst, x_storeI_1, x_loadI_1, x_loadR_0, x_loadS_0, f_6_0, y_ic_ge_t, y_ic_ge_f, b_X6_against_10, f_6_33, y_iald_25, y_iald_45, y_ic_eq_t, y_ic_eq_f, b_X6_against_20, f_6_31, x_imul, x_iadd, y_if_gt_t, y_if_gt_f, b_X6_against_38, x_ret0, b_X6_against_46, x_storeI_2, x_loadI_2, b_X6_against_53, y_if_eq_t, y_if_eq_f, b_X6_against_62, b_X6_against_71, b_X6_against_78, x_iinc_2, x_goto, b_X6_against_84, x_iinc_1, b_X6_against_90, q_isL_I, q_isL_R, q_isL_S, true_and, and_true, and_self, List.length_nil, List.length_cons, Nat.zero_add, x_K, x_Kn, Int.reduceToNat, Nat.reduceAdd, Nat.reduceMul, Nat.reduceLeDiff, Nat.reduceLT, Nat.zero_le, Int.reduceAdd, Int.reduceSub, Int.reduceMul, Int.reduceNeg, q_add_e, q_sub_e, q_mul_e, q_neg_e, q_upd_s, q_upd_n, zr_shr0, zr_shr1, zr_shr2, zr_shr3, zr_shr4, zr_and, zr_dyn8, zr_or, zr_shl, q_cpy_n, y_cpy26, e0, Int.toNat_natCast, ry_f, er, hl2]
        refine inner0 ?_
        split
        · rename_i z
          rw [if_pos z] at hq
          exact hq
        · rename_i z
          rw [if_neg z] at hq
          exact hq
      · obtain ⟨F, hF⟩ : ∃ F : Nat, x.1 p = F := ⟨(x.1 p).toNat, by omega⟩
        have hF5 : F < 5 := by omega
        have er : m_raw (x.1 p) = (F : Int) := by rw [hF]; exact m_raw_n (by omega) (by omega)
        have l2e : mL M p F = M 119 (5 * p + F) := mL_e hF5
        rw [hF, Int.toNat_natCast] at hq
        by_cases c2 : mL M p F ≤ 0
        · rw [if_pos ⟨by omega, c2⟩] at hq
          simp (disch := omega) only [b_X6_against_0, x_iconst, x_storeI_1, x_loadI_1, x_loadR_0, x_loadS_0, f_6_0, y_ic_ge_t, y_ic_ge_f, b_X6_against_10, f_6_33, y_iald_25, y_iald_45, y_ic_eq_t, y_ic_eq_f, b_X6_against_20, f_6_31, x_imul, x_iadd, y_if_gt_t, y_if_gt_f, b_X6_against_38, x_ret0, b_X6_against_46, x_storeI_2, x_loadI_2, b_X6_against_53, y_if_eq_t, y_if_eq_f, b_X6_against_62, b_X6_against_71, b_X6_against_78, x_iinc_2, x_goto, b_X6_against_84, x_iinc_1, b_X6_against_90, q_isL_I, q_isL_R, q_isL_S, true_and, and_true, and_self, List.length_nil, List.length_cons, Nat.zero_add, x_K, x_Kn, Int.reduceToNat, Nat.reduceAdd, Nat.reduceMul, Nat.reduceLeDiff, Nat.reduceLT, Nat.zero_le, Int.reduceAdd, Int.reduceSub, Int.reduceMul, Int.reduceNeg, q_add_e, q_sub_e, q_mul_e, q_neg_e, q_upd_s, q_upd_n, zr_shr0, zr_shr1, zr_shr2, zr_shr3, zr_shr4, zr_and, zr_dyn8, zr_or, zr_shl, q_cpy_n, y_cpy26, e0, Int.toNat_natCast, ry_f, er, tn_5, eL, hl2]
          exact hq
        · rw [if_neg (fun z => c2 z.2)] at hq
          simp (disch := omega) only [b_X6_against_0, x_iconst, x_storeI_1, x_loadI_1, x_loadR_0, x_loadS_0, f_6_0, y_ic_ge_t, y_ic_ge_f, b_X6_against_10, f_6_33, y_iald_25, y_iald_45, y_ic_eq_t, y_ic_eq_f, b_X6_against_20, f_6_31, x_imul, x_iadd, y_if_gt_t, y_if_gt_f, b_X6_against_38, x_ret0, b_X6_against_46, x_storeI_2, x_loadI_2, b_X6_against_53, y_if_eq_t, y_if_eq_f, b_X6_against_62, b_X6_against_71, b_X6_against_78, x_iinc_2, x_goto, b_X6_against_84, x_iinc_1, b_X6_against_90, q_isL_I, q_isL_R, q_isL_S, true_and, and_true, and_self, List.length_nil, List.length_cons, Nat.zero_add, x_K, x_Kn, Int.reduceToNat, Nat.reduceAdd, Nat.reduceMul, Nat.reduceLeDiff, Nat.reduceLT, Nat.zero_le, Int.reduceAdd, Int.reduceSub, Int.reduceMul, Int.reduceNeg, q_add_e, q_sub_e, q_mul_e, q_neg_e, q_upd_s, q_upd_n, zr_shr0, zr_shr1, zr_shr2, zr_shr3, zr_shr4, zr_and, zr_dyn8, zr_or, zr_shl, q_cpy_n, y_cpy26, e0, Int.toNat_natCast, ry_f, er, tn_5, eL, hl2]
          refine inner0 ?_
          split
          · rename_i z
            rw [if_pos z] at hq
            exact hq
          · rename_i z
            rw [if_neg z] at hq
            exact hq
  simp (disch := omega) only [b_X6_against_0, x_iconst, x_storeI_1, x_loadI_1, x_loadR_0, x_loadS_0, f_6_0, y_ic_ge_t, y_ic_ge_f, b_X6_against_10, f_6_33, y_iald_25, y_iald_45, y_ic_eq_t, y_ic_eq_f, b_X6_against_20, f_6_31, x_imul, x_iadd, y_if_gt_t, y_if_gt_f, b_X6_against_38, x_ret0, b_X6_against_46, x_storeI_2, x_loadI_2, b_X6_against_53, y_if_eq_t, y_if_eq_f, b_X6_against_62, b_X6_against_71, b_X6_against_78, x_iinc_2, x_goto, b_X6_against_84, x_iinc_1, b_X6_against_90, q_isL_I, q_isL_R, q_isL_S, true_and, and_true, and_self, List.length_nil, List.length_cons, Nat.zero_add, x_K, x_Kn, Int.reduceToNat, Nat.reduceAdd, Nat.reduceMul, Nat.reduceLeDiff, Nat.reduceLT, Nat.zero_le, Int.reduceAdd, Int.reduceSub, Int.reduceMul, Int.reduceNeg, q_add_e, q_sub_e, q_mul_e, q_neg_e, q_upd_s, q_upd_n, zr_shr0, zr_shr1, zr_shr2, zr_shr3, zr_shr4, zr_and, zr_dyn8, zr_or, zr_shl, q_cpy_n, y_cpy26]
  exact loop (M 100 0).toNat 0 (by omega) _ rfl hq
theorem F_sum_le3 {L : Nat → Nat → Int} {f : Nat → Int} {N : Nat} (hf : ∀ i, i < N → 0 ≤ f i ∧ f i ≤ 5) (hL : ∀ p b, p < N → b < 6 → -1000 ≤ L p b ∧ L p b ≤ 1000) : ∀ n : Nat, n ≤ N → -1000 * n ≤ F_sum L f n ∧ F_sum L f n ≤ 1000 * n
  | 0, _ => by rw [F_sum]; omega
  | n + 1, hn => by
    have h := F_sum_le3 hf hL n (by omega)
    have h3 := hf n (by omega)
    have h2 := hL n (f n).toNat (by omega) (by omega)
    rw [F_sum]
    omega
set_option maxHeartbeats 4000000 in
theorem mp_sumOf {wt : Int} (h0 : 0 ≤ M 100 0) (h5 : M 100 0 ≤ 5) (hx : q_x5 (M 100 0).toNat x) (hL : ∀ p b, p < (M 100 0).toNat → b < 6 → -1000 ≤ mL M p b ∧ mL M p b ≤ 1000) (hW : ∀ p b, p < (M 100 0).toNat → b < 6 → -1000 ≤ mWn M p b ∧ mWn M p b ≤ 1000) (Q : Option q_V → q_G → q_M → Prop) : q_S 1 d 165 [qR 6 100, qI wt] g (q_yM M x) Q = Q (some (qI (if wt = 1 then F_sum (mL M) x.1 (M 100 0).toNat else F_sum (mWn M) x.1 (M 100 0).toNat))) g (q_yM M x) := by
  refine q_S_eq (fun Q hq => ?_) Q
  have e0 : q_yM M x 100 0 = M 100 0 := ry_n (by omega) (by omega)
  have eL : ∀ i, q_yM M x 119 i = M 119 i := fun i => ry_n (by omega) (by omega)
  have eW : ∀ i, q_yM M x 120 i = M 120 i := fun i => ry_n (by omega) (by omega)
  rw [s_X6_sumOf]
  have loop : ∀ j k : Nat, k + j = (M 100 0).toNat → q_T 1 d qP_X6_sumOf 4 [] [qR 6 100, qI wt, qI (if wt = 1 then F_sum (mL M) x.1 k else F_sum (mWn M) x.1 k), qI k] [] g (q_yM M x) Q := by
    intro j
    induction j with
    | zero =>
      intro k hk
      have e : k = (M 100 0).toNat := by omega
      rw [← e] at hq
      rw [b_X6_sumOf_4]
      simp (disch := omega) only [b_X6_sumOf_0, x_iconst, x_storeI_2, x_storeI_3, x_loadI_3, x_loadR_0, x_loadS_0, f_6_0, y_ic_ge_t, y_ic_ge_f, b_X6_sumOf_12, f_6_33, y_iald_25, y_iald_45, y_ic_eq_t, y_ic_eq_f, b_X6_sumOf_22, x_loadI_2, x_loadI_1, y_ic_ne_t, y_ic_ne_f, b_X6_sumOf_28, f_6_31, x_imul, x_iadd, x_goto, b_X6_sumOf_46, f_6_32, b_X6_sumOf_61, b_X6_sumOf_63, x_iinc_3, b_X6_sumOf_69, x_ret0, q_isL_I, q_isL_R, q_isL_S, true_and, and_true, and_self, List.length_nil, List.length_cons, Nat.zero_add, x_K, x_Kn, Int.reduceToNat, Nat.reduceAdd, Nat.reduceMul, Nat.reduceLeDiff, Nat.reduceLT, Nat.zero_le, Int.reduceAdd, Int.reduceSub, Int.reduceMul, Int.reduceNeg, q_add_e, q_sub_e, q_mul_e, q_neg_e, q_upd_s, q_upd_n, zr_shr0, zr_shr1, zr_shr2, zr_shr3, zr_shr4, zr_and, zr_dyn8, zr_or, zr_shl, q_cpy_n, y_cpy26, e0]
      exact hq
    | succ j ih =>
      intro k hk
      have hxk := hx k (by omega)
      have b1 := F_sum_le3 (N := (M 100 0).toNat) (L := mL M) (f := x.1) (fun i hi => hx i hi) hL k (by omega)
      have b2 := F_sum_le3 (N := (M 100 0).toNat) (L := mWn M) (f := x.1) (fun i hi => hx i hi) hW k (by omega)
      have ih2 := ih (k + 1) (by omega)
      rw [F_sum, F_sum] at ih2
      rw [b_X6_sumOf_4]
      by_cases c5 : x.1 k = 5
      · have er : m_raw (x.1 k) = -1 := if_pos c5
        have z1 : mL M k (x.1 k).toNat = 0 := by rw [c5]; rfl
        have z2 : mWn M k (x.1 k).toNat = 0 := by rw [c5]; rfl
        rw [z1, z2, Int.add_zero, Int.add_zero] at ih2
        simp (disch := omega) only [b_X6_sumOf_0, x_iconst, x_storeI_2, x_storeI_3, x_loadI_3, x_loadR_0, x_loadS_0, f_6_0, y_ic_ge_t, y_ic_ge_f, b_X6_sumOf_12, f_6_33, y_iald_25, y_iald_45, y_ic_eq_t, y_ic_eq_f, b_X6_sumOf_22, x_loadI_2, x_loadI_1, y_ic_ne_t, y_ic_ne_f, b_X6_sumOf_28, f_6_31, x_imul, x_iadd, x_goto, b_X6_sumOf_46, f_6_32, b_X6_sumOf_61, b_X6_sumOf_63, x_iinc_3, b_X6_sumOf_69, x_ret0, q_isL_I, q_isL_R, q_isL_S, true_and, and_true, and_self, List.length_nil, List.length_cons, Nat.zero_add, x_K, x_Kn, Int.reduceToNat, Nat.reduceAdd, Nat.reduceMul, Nat.reduceLeDiff, Nat.reduceLT, Nat.zero_le, Int.reduceAdd, Int.reduceSub, Int.reduceMul, Int.reduceNeg, q_add_e, q_sub_e, q_mul_e, q_neg_e, q_upd_s, q_upd_n, zr_shr0, zr_shr1, zr_shr2, zr_shr3, zr_shr4, zr_and, zr_dyn8, zr_or, zr_shl, q_cpy_n, y_cpy26, e0, Int.toNat_natCast, ry_f, er]
        exact ih2
      · obtain ⟨F, hF⟩ : ∃ F : Nat, x.1 k = F := ⟨(x.1 k).toNat, by omega⟩
        have hF5 : F < 5 := by omega
        have er : m_raw (x.1 k) = (F : Int) := by rw [hF]; exact m_raw_n (by omega) (by omega)
        have l1 : mL M k F = M 119 (5 * k + F) := mL_e hF5
        have l2 : mWn M k F = M 120 (5 * k + F) := mWn_e hF5
        have r1 := hL k F (by omega) (by omega)
        have r2 := hW k F (by omega) (by omega)
        rw [hF, Int.toNat_natCast, l1, l2] at ih2
        by_cases cw : wt = 1
        · subst cw
          rw [if_pos rfl] at ih2
          simp (disch := omega) only [b_X6_sumOf_0, x_iconst, x_storeI_2, x_storeI_3, x_loadI_3, x_loadR_0, x_loadS_0, f_6_0, y_ic_ge_t, y_ic_ge_f, b_X6_sumOf_12, f_6_33, y_iald_25, y_iald_45, y_ic_eq_t, y_ic_eq_f, b_X6_sumOf_22, x_loadI_2, x_loadI_1, y_ic_ne_t, y_ic_ne_f, b_X6_sumOf_28, f_6_31, x_imul, x_iadd, x_goto, b_X6_sumOf_46, f_6_32, b_X6_sumOf_61, b_X6_sumOf_63, x_iinc_3, b_X6_sumOf_69, x_ret0, q_isL_I, q_isL_R, q_isL_S, true_and, and_true, and_self, List.length_nil, List.length_cons, Nat.zero_add, x_K, x_Kn, Int.reduceToNat, Nat.reduceAdd, Nat.reduceMul, Nat.reduceLeDiff, Nat.reduceLT, Nat.zero_le, Int.reduceAdd, Int.reduceSub, Int.reduceMul, Int.reduceNeg, q_add_e, q_sub_e, q_mul_e, q_neg_e, q_upd_s, q_upd_n, zr_shr0, zr_shr1, zr_shr2, zr_shr3, zr_shr4, zr_and, zr_dyn8, zr_or, zr_shl, q_cpy_n, y_cpy26, e0, Int.toNat_natCast, ry_f, er, tn_5, eL, if_true]
          exact ih2
        · rw [if_neg cw] at ih2
          simp (disch := omega) only [b_X6_sumOf_0, x_iconst, x_storeI_2, x_storeI_3, x_loadI_3, x_loadR_0, x_loadS_0, f_6_0, y_ic_ge_t, y_ic_ge_f, b_X6_sumOf_12, f_6_33, y_iald_25, y_iald_45, y_ic_eq_t, y_ic_eq_f, b_X6_sumOf_22, x_loadI_2, x_loadI_1, y_ic_ne_t, y_ic_ne_f, b_X6_sumOf_28, f_6_31, x_imul, x_iadd, x_goto, b_X6_sumOf_46, f_6_32, b_X6_sumOf_61, b_X6_sumOf_63, x_iinc_3, b_X6_sumOf_69, x_ret0, q_isL_I, q_isL_R, q_isL_S, true_and, and_true, and_self, List.length_nil, List.length_cons, Nat.zero_add, x_K, x_Kn, Int.reduceToNat, Nat.reduceAdd, Nat.reduceMul, Nat.reduceLeDiff, Nat.reduceLT, Nat.zero_le, Int.reduceAdd, Int.reduceSub, Int.reduceMul, Int.reduceNeg, q_add_e, q_sub_e, q_mul_e, q_neg_e, q_upd_s, q_upd_n, zr_shr0, zr_shr1, zr_shr2, zr_shr3, zr_shr4, zr_and, zr_dyn8, zr_or, zr_shl, q_cpy_n, y_cpy26, e0, Int.toNat_natCast, ry_f, er, tn_5, eW, cw, if_false]
          exact ih2
  have l := loop (M 100 0).toNat 0 (by omega)
  rw [F_sum, F_sum, show (if wt = 1 then (0 : Int) else 0) = 0 by split <;> rfl] at l
  simp (disch := omega) only [b_X6_sumOf_0, x_iconst, x_storeI_2, x_storeI_3, x_loadI_3, x_loadR_0, x_loadS_0, f_6_0, y_ic_ge_t, y_ic_ge_f, b_X6_sumOf_12, f_6_33, y_iald_25, y_iald_45, y_ic_eq_t, y_ic_eq_f, b_X6_sumOf_22, x_loadI_2, x_loadI_1, y_ic_ne_t, y_ic_ne_f, b_X6_sumOf_28, f_6_31, x_imul, x_iadd, x_goto, b_X6_sumOf_46, f_6_32, b_X6_sumOf_61, b_X6_sumOf_63, x_iinc_3, b_X6_sumOf_69, x_ret0, q_isL_I, q_isL_R, q_isL_S, true_and, and_true, and_self, List.length_nil, List.length_cons, Nat.zero_add, x_K, x_Kn, Int.reduceToNat, Nat.reduceAdd, Nat.reduceMul, Nat.reduceLeDiff, Nat.reduceLT, Nat.zero_le, Int.reduceAdd, Int.reduceSub, Int.reduceMul, Int.reduceNeg, q_add_e, q_sub_e, q_mul_e, q_neg_e, q_upd_s, q_upd_n, zr_shr0, zr_shr1, zr_shr2, zr_shr3, zr_shr4, zr_and, zr_dyn8, zr_or, zr_shl, q_cpy_n, y_cpy26]
  exact l
theorem mp_sittingDigits (h0 : 0 ≤ M 100 0) (h5 : M 100 0 ≤ 5) (hx : q_x5 (M 100 0).toNat x) (Q : Option q_V → q_G → q_M → Prop) : q_S 1 d 166 [qR 6 100] g (q_yM M x) Q = Q (some (qI (F_dig x.1 (M 100 0).toNat))) g (q_yM M x) := by
  refine q_S_eq (fun Q hq => ?_) Q
  have e0 : q_yM M x 100 0 = M 100 0 := ry_n (by omega) (by omega)
  have hf : ∀ i, 0 ≤ (fun i => if i < (M 100 0).toNat then x.1 i else 0) i ∧ (fun i => if i < (M 100 0).toNat then x.1 i else 0) i ≤ 5 := by
    intro i
    show 0 ≤ (if i < (M 100 0).toNat then x.1 i else 0) ∧ (if i < (M 100 0).toNat then x.1 i else 0) ≤ 5
    by_cases c : i < (M 100 0).toNat
    · rw [if_pos c]
      exact hx i c
    · rw [if_neg c]
      omega
  rw [s_X6_sittingDigits]
  have loop : ∀ j k : Nat, k + j = (M 100 0).toNat → q_T 1 d qP_X6_sittingDigits 4 [] [qR 6 100, qI (F_dig x.1 k), qI k] [] g (q_yM M x) Q := by
    intro j
    induction j with
    | zero =>
      intro k hk
      have e : k = (M 100 0).toNat := by omega
      rw [← e] at hq
      rw [b_X6_sittingDigits_4]
      simp (disch := omega) only [b_X6_sittingDigits_0, x_iconst, x_storeI_1, x_storeI_2, x_loadI_2, x_loadR_0, x_loadS_0, f_6_0, y_ic_ge_t, y_ic_ge_f, b_X6_sittingDigits_12, x_loadI_1, x_imul, f_6_33, y_iald_25, x_iadd, x_iinc_2, x_goto, b_X6_sittingDigits_32, x_ret0, q_isL_I, q_isL_R, q_isL_S, true_and, and_true, and_self, List.length_nil, List.length_cons, Nat.zero_add, x_K, x_Kn, Int.reduceToNat, Nat.reduceAdd, Nat.reduceMul, Nat.reduceLeDiff, Nat.reduceLT, Nat.zero_le, Int.reduceAdd, Int.reduceSub, Int.reduceMul, Int.reduceNeg, q_add_e, q_sub_e, q_mul_e, q_neg_e, q_upd_s, q_upd_n, zr_shr0, zr_shr1, zr_shr2, zr_shr3, zr_shr4, zr_and, zr_dyn8, zr_or, zr_shl, q_cpy_n, y_cpy26, e0]
      exact hq
    | succ j ih =>
      intro k hk
      have hxk := hx k (by omega)
      have hd := F_dig_le _ hf k (by omega)
      rw [← F_dig_cong (f := x.1) k (fun i hi => (if_pos (by omega)).symm)] at hd
      have ih2 := ih (k + 1) (by omega)
      rw [F_dig] at ih2
      have e : (if x.1 k = 5 then 0 else x.1 k + 1) = m_raw (x.1 k) + 1 := by
        unfold m_raw
        by_cases c : x.1 k = 5
        · rw [if_pos c, if_pos c]
          rfl
        · rw [if_neg c, if_neg c, if_neg (by omega)]
      have eb : -1 ≤ m_raw (x.1 k) ∧ m_raw (x.1 k) ≤ 4 := by
        unfold m_raw
        (repeat' split) <;> omega
      have e2 : 10 * F_dig x.1 k + (m_raw (x.1 k) + 1) = 10 * F_dig x.1 k + m_raw (x.1 k) + 1 := by omega
      rw [e, e2] at ih2
      rw [b_X6_sittingDigits_4]
      simp (disch := omega) only [b_X6_sittingDigits_0, x_iconst, x_storeI_1, x_storeI_2, x_loadI_2, x_loadR_0, x_loadS_0, f_6_0, y_ic_ge_t, y_ic_ge_f, b_X6_sittingDigits_12, x_loadI_1, x_imul, f_6_33, y_iald_25, x_iadd, x_iinc_2, x_goto, b_X6_sittingDigits_32, x_ret0, q_isL_I, q_isL_R, q_isL_S, true_and, and_true, and_self, List.length_nil, List.length_cons, Nat.zero_add, x_K, x_Kn, Int.reduceToNat, Nat.reduceAdd, Nat.reduceMul, Nat.reduceLeDiff, Nat.reduceLT, Nat.zero_le, Int.reduceAdd, Int.reduceSub, Int.reduceMul, Int.reduceNeg, q_add_e, q_sub_e, q_mul_e, q_neg_e, q_upd_s, q_upd_n, zr_shr0, zr_shr1, zr_shr2, zr_shr3, zr_shr4, zr_and, zr_dyn8, zr_or, zr_shl, q_cpy_n, y_cpy26, e0, Int.toNat_natCast, ry_f]
      exact ih2
  simp (disch := omega) only [b_X6_sittingDigits_0, x_iconst, x_storeI_1, x_storeI_2, x_loadI_2, x_loadR_0, x_loadS_0, f_6_0, y_ic_ge_t, y_ic_ge_f, b_X6_sittingDigits_12, x_loadI_1, x_imul, f_6_33, y_iald_25, x_iadd, x_iinc_2, x_goto, b_X6_sittingDigits_32, x_ret0, q_isL_I, q_isL_R, q_isL_S, true_and, and_true, and_self, List.length_nil, List.length_cons, Nat.zero_add, x_K, x_Kn, Int.reduceToNat, Nat.reduceAdd, Nat.reduceMul, Nat.reduceLeDiff, Nat.reduceLT, Nat.zero_le, Int.reduceAdd, Int.reduceSub, Int.reduceMul, Int.reduceNeg, q_add_e, q_sub_e, q_mul_e, q_neg_e, q_upd_s, q_upd_n, zr_shr0, zr_shr1, zr_shr2, zr_shr3, zr_shr4, zr_and, zr_dyn8, zr_or, zr_shl, q_cpy_n, y_cpy26]
  exact loop (M 100 0).toNat 0 (by omega)
set_option maxHeartbeats 4000000 in
theorem mp_nextAsked {p : Nat} (hp : p < 5) (Q : Option q_V → q_G → q_M → Prop) : q_S 1 d 168 [qR 6 100, qI p] g (q_yM M x) Q = Q (some (qI (m_no (F_best (mL M p) (fun k => decide (q_and (q_shr (x.2 p) k) 1 = 0)) 5).1))) g (q_yM M x) := by
  refine q_S_eq (fun Q hq => ?_) Q
  have eL : ∀ i, q_yM M x 119 i = M 119 i := fun i => ry_n (by omega) (by omega)
  rw [s_X6_nextAsked]
  generalize hK : (fun k : Nat => decide (q_and (q_shr (x.2 p) k) 1 = 0)) = ok at hq
  have loop : ∀ j k : Nat, k + j = 5 → q_T 1 d qP_X6_nextAsked 7 [] [qR 6 100, qI p, qI (m_no (F_best (mL M p) ok k).1), qI (F_best (mL M p) ok k).2, qI k] [] g (q_yM M x) Q := by
    intro j
    induction j with
    | zero =>
      intro k hk
      have e : k = 5 := by omega
      subst e
      rw [b_X6_nextAsked_7]
      simp (disch := omega) only [b_X6_nextAsked_0, x_iconst, x_storeI_2, x_storeI_3, x_storeI_4, x_loadI_4, y_ic_ge_t, y_ic_ge_f, b_X6_nextAsked_13, x_loadR_0, x_loadS_0, f_6_34, x_loadI_1, y_iald_25, y_iald_45, x_ishr, x_iand, y_if_ne_t, y_if_ne_f, b_X6_nextAsked_27, f_6_31, x_imul, x_iadd, x_loadI_3, y_ic_le_t, y_ic_le_f, b_X6_nextAsked_42, b_X6_nextAsked_57, x_iinc_4, x_goto, b_X6_nextAsked_63, x_loadI_2, x_ret0, q_isL_I, q_isL_R, q_isL_S, true_and, and_true, and_self, List.length_nil, List.length_cons, Nat.zero_add, x_K, x_Kn, Int.reduceToNat, Nat.reduceAdd, Nat.reduceMul, Nat.reduceLeDiff, Nat.reduceLT, Nat.zero_le, Int.reduceAdd, Int.reduceSub, Int.reduceMul, Int.reduceNeg, q_add_e, q_sub_e, q_mul_e, q_neg_e, q_upd_s, q_upd_n, zr_shr0, zr_shr1, zr_shr2, zr_shr3, zr_shr4, zr_and, zr_dyn8, zr_or, zr_shl, q_cpy_n, y_cpy26]
      exact hq
    | succ j ih =>
      intro k hk
      have ih2 := ih (k + 1) (by omega)
      rw [F_best] at ih2
      have hok : ok k = decide (q_and (q_shr (x.2 p) k) 1 = 0) := by rw [← hK]
      have l1 : mL M p k = M 119 (5 * p + k) := mL_e (by omega)
      have ek : m_no k = (k : Int) := if_neg (by omega)
      rw [b_X6_nextAsked_7]
      by_cases c1 : q_and (q_shr (x.2 p) k) 1 = 0
      · rw [hok, decide_eq_true c1, l1] at ih2
        by_cases c2 : (F_best (mL M p) ok k).2 < M 119 (5 * p + k)
        · rw [if_pos ⟨rfl, c2⟩] at ih2
          simp only [ek] at ih2
          simp (disch := omega) only [b_X6_nextAsked_0, x_iconst, x_storeI_2, x_storeI_3, x_storeI_4, x_loadI_4, y_ic_ge_t, y_ic_ge_f, b_X6_nextAsked_13, x_loadR_0, x_loadS_0, f_6_34, x_loadI_1, y_iald_25, y_iald_45, x_ishr, x_iand, y_if_ne_t, y_if_ne_f, b_X6_nextAsked_27, f_6_31, x_imul, x_iadd, x_loadI_3, y_ic_le_t, y_ic_le_f, b_X6_nextAsked_42, b_X6_nextAsked_57, x_iinc_4, x_goto, b_X6_nextAsked_63, x_loadI_2, x_ret0, q_isL_I, q_isL_R, q_isL_S, true_and, and_true, and_self, List.length_nil, List.length_cons, Nat.zero_add, x_K, x_Kn, Int.reduceToNat, Nat.reduceAdd, Nat.reduceMul, Nat.reduceLeDiff, Nat.reduceLT, Nat.zero_le, Int.reduceAdd, Int.reduceSub, Int.reduceMul, Int.reduceNeg, q_add_e, q_sub_e, q_mul_e, q_neg_e, q_upd_s, q_upd_n, zr_shr0, zr_shr1, zr_shr2, zr_shr3, zr_shr4, zr_and, zr_dyn8, zr_or, zr_shl, q_cpy_n, y_cpy26, Int.toNat_natCast, ry_s, c1, tn_5, eL]
          exact ih2
        · rw [if_neg (fun z => c2 z.2)] at ih2
          simp (disch := omega) only [b_X6_nextAsked_0, x_iconst, x_storeI_2, x_storeI_3, x_storeI_4, x_loadI_4, y_ic_ge_t, y_ic_ge_f, b_X6_nextAsked_13, x_loadR_0, x_loadS_0, f_6_34, x_loadI_1, y_iald_25, y_iald_45, x_ishr, x_iand, y_if_ne_t, y_if_ne_f, b_X6_nextAsked_27, f_6_31, x_imul, x_iadd, x_loadI_3, y_ic_le_t, y_ic_le_f, b_X6_nextAsked_42, b_X6_nextAsked_57, x_iinc_4, x_goto, b_X6_nextAsked_63, x_loadI_2, x_ret0, q_isL_I, q_isL_R, q_isL_S, true_and, and_true, and_self, List.length_nil, List.length_cons, Nat.zero_add, x_K, x_Kn, Int.reduceToNat, Nat.reduceAdd, Nat.reduceMul, Nat.reduceLeDiff, Nat.reduceLT, Nat.zero_le, Int.reduceAdd, Int.reduceSub, Int.reduceMul, Int.reduceNeg, q_add_e, q_sub_e, q_mul_e, q_neg_e, q_upd_s, q_upd_n, zr_shr0, zr_shr1, zr_shr2, zr_shr3, zr_shr4, zr_and, zr_dyn8, zr_or, zr_shl, q_cpy_n, y_cpy26, Int.toNat_natCast, ry_s, c1, tn_5, eL]
          exact ih2
      · rw [hok, decide_eq_false c1, if_neg (fun z => by cases z.1)] at ih2
        simp (disch := omega) only [b_X6_nextAsked_0, x_iconst, x_storeI_2, x_storeI_3, x_storeI_4, x_loadI_4, y_ic_ge_t, y_ic_ge_f, b_X6_nextAsked_13, x_loadR_0, x_loadS_0, f_6_34, x_loadI_1, y_iald_25, y_iald_45, x_ishr, x_iand, y_if_ne_t, y_if_ne_f, b_X6_nextAsked_27, f_6_31, x_imul, x_iadd, x_loadI_3, y_ic_le_t, y_ic_le_f, b_X6_nextAsked_42, b_X6_nextAsked_57, x_iinc_4, x_goto, b_X6_nextAsked_63, x_loadI_2, x_ret0, q_isL_I, q_isL_R, q_isL_S, true_and, and_true, and_self, List.length_nil, List.length_cons, Nat.zero_add, x_K, x_Kn, Int.reduceToNat, Nat.reduceAdd, Nat.reduceMul, Nat.reduceLeDiff, Nat.reduceLT, Nat.zero_le, Int.reduceAdd, Int.reduceSub, Int.reduceMul, Int.reduceNeg, q_add_e, q_sub_e, q_mul_e, q_neg_e, q_upd_s, q_upd_n, zr_shr0, zr_shr1, zr_shr2, zr_shr3, zr_shr4, zr_and, zr_dyn8, zr_or, zr_shl, q_cpy_n, y_cpy26, Int.toNat_natCast, ry_s]
        exact ih2
  simp (disch := omega) only [b_X6_nextAsked_0, x_iconst, x_storeI_2, x_storeI_3, x_storeI_4, x_loadI_4, y_ic_ge_t, y_ic_ge_f, b_X6_nextAsked_13, x_loadR_0, x_loadS_0, f_6_34, x_loadI_1, y_iald_25, y_iald_45, x_ishr, x_iand, y_if_ne_t, y_if_ne_f, b_X6_nextAsked_27, f_6_31, x_imul, x_iadd, x_loadI_3, y_ic_le_t, y_ic_le_f, b_X6_nextAsked_42, b_X6_nextAsked_57, x_iinc_4, x_goto, b_X6_nextAsked_63, x_loadI_2, x_ret0, q_isL_I, q_isL_R, q_isL_S, true_and, and_true, and_self, List.length_nil, List.length_cons, Nat.zero_add, x_K, x_Kn, Int.reduceToNat, Nat.reduceAdd, Nat.reduceMul, Nat.reduceLeDiff, Nat.reduceLT, Nat.zero_le, Int.reduceAdd, Int.reduceSub, Int.reduceMul, Int.reduceNeg, q_add_e, q_sub_e, q_mul_e, q_neg_e, q_upd_s, q_upd_n, zr_shr0, zr_shr1, zr_shr2, zr_shr3, zr_shr4, zr_and, zr_dyn8, zr_or, zr_shl, q_cpy_n, y_cpy26]
  exact loop 5 0 rfl
end AGAINST
