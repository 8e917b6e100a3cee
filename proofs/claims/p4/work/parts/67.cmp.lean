/-! THE CLASS'S CHOICE: what is against peace -/
def F_rth (L : Nat → Int) (b o : Nat) : Bool := decide (0 < L b ∧ (L o < L b ∨ (L b = L o ∧ b < o)))
def F_cB (L : Nat → Nat → Int) (T : Nat → Nat → Bool) (f : Nat → Int) (p : Nat) : Nat → Nat → Int
  | 0, _ => -1
  | j + 1, b => if F_rth (L p) b (f p).toNat = true ∧ T p b = true then b else F_cB L T f p j (b + 1)
def F_cmp (L : Nat → Nat → Int) (T : Nat → Nat → Bool) (f : Nat → Int) : Nat → Nat → Int
  | 0, _ => -1
  | j + 1, p => if f p ≠ 5 ∧ L p (f p).toNat ≤ 0 then 10 * p + 9 else if F_cB L T f p 5 0 = -1 then F_cmp L T f j (p + 1) else 10 * p + F_cB L T f p 5 0
def q_Tk (M : q_M) (c : Nat) : Nat → Nat → Bool := fun p b => F_takes1 (M (c + 2)) (fun q => M (c + 10 + (1 + q)) b) (M (c + 1) b) b (M c 5).toNat p
set_option maxHeartbeats 4000000 in
theorem sp_complaint {d : Nat} {g : q_G} {M : q_M} {c : Nat} {Q : Option q_V → q_G → q_M → Prop} (h0 : 0 ≤ M c 5) (h5 : M c 5 ≤ 5) (hf : ∀ i, 0 ≤ M (c + 2) i ∧ M (c + 2) i ≤ 5) (hq : Q (some (qI (F_cmp (q_Lk M c) (q_Tk M c) (M (c + 2)) (M c 5).toNat 0))) g M) : q_S 1 (d + 3) 17 [qR 0 c] g M Q := by
  have loop : ∀ j p : Nat, p + j = (M c 5).toNat → ∀ l : q_V, q_isL l = false → Q (some (qI (F_cmp (q_Lk M c) (q_Tk M c) (M (c + 2)) j p))) g M → q_T 1 (d + 3) qP_X0_complaint 2 [] [qR 0 c, qI p, l] [] g M Q := by
    intro j
    induction j with
    | zero =>
      intro p hp l hl hq
      rw [F_cmp] at hq
      rw [b_X0_complaint_2]
      simp (disch := omega) only [b_X0_complaint_0, x_iconst, x_storeI_1, x_loadI_1, x_loadR_0, x_loadS_0, f_0_5, y_ic_ge_t, y_ic_ge_f, b_X0_complaint_10, f_0_1, y_iald_26, y_ic_eq_t, y_ic_eq_f, b_X0_complaint_20, f_0_2, y_aald7, y_if_gt_t, y_if_gt_f, b_X0_complaint_36, x_imul, x_iadd, x_ret0, b_X0_complaint_44, x_storeI_2, x_loadI_2, b_X0_complaint_51, y_if_eq_t, y_if_eq_f, b_X0_complaint_66, b_X0_complaint_75, b_X0_complaint_82, x_iinc_2, x_goto, b_X0_complaint_88, x_iinc_1, b_X0_complaint_94, q_isL_I, q_isL_R, q_isL_S, true_and, and_true, and_self, List.length_nil, List.length_cons, Nat.zero_add, x_K, x_Kn, Int.reduceToNat, Nat.reduceAdd, Nat.reduceMul, Nat.reduceLeDiff, Nat.reduceLT, Nat.zero_le, Int.reduceAdd, Int.reduceSub, Int.reduceMul, Int.reduceNeg, q_add_e, q_sub_e, q_mul_e, q_neg_e, q_upd_s, q_upd_n, zr_shr0, zr_shr1, zr_shr2, zr_shr3, zr_shr4, zr_and, zr_dyn8, zr_or, zr_shl, q_cpy_n, y_cpy26]
      exact hq
    | succ j ih =>
      intro p hp l hl hq
      have hfp := hf p
      rw [F_cmp] at hq
      have inner : ∀ k b : Nat, b + k = 5 → (if F_cB (q_Lk M c) (q_Tk M c) (M (c + 2)) p k b = -1 then Q (some (qI (F_cmp (q_Lk M c) (q_Tk M c) (M (c + 2)) j (p + 1)))) g M else Q (some (qI (10 * p + F_cB (q_Lk M c) (q_Tk M c) (M (c + 2)) p k b))) g M) → q_T 1 (d + 3) qP_X0_complaint 46 [] [qR 0 c, qI p, qI b] [] g M Q := by
        intro k
        induction k with
        | zero =>
          intro b hb hq
          rw [F_cB, if_pos rfl] at hq
          rw [b_X0_complaint_46]
          simp (disch := omega) only [b_X0_complaint_0, x_iconst, x_storeI_1, x_loadI_1, x_loadR_0, x_loadS_0, f_0_5, y_ic_ge_t, y_ic_ge_f, b_X0_complaint_10, f_0_1, y_iald_26, y_ic_eq_t, y_ic_eq_f, b_X0_complaint_20, f_0_2, y_aald7, y_if_gt_t, y_if_gt_f, b_X0_complaint_36, x_imul, x_iadd, x_ret0, b_X0_complaint_44, x_storeI_2, x_loadI_2, b_X0_complaint_51, y_if_eq_t, y_if_eq_f, b_X0_complaint_66, b_X0_complaint_75, b_X0_complaint_82, x_iinc_2, x_goto, b_X0_complaint_88, x_iinc_1, b_X0_complaint_94, q_isL_I, q_isL_R, q_isL_S, true_and, and_true, and_self, List.length_nil, List.length_cons, Nat.zero_add, x_K, x_Kn, Int.reduceToNat, Nat.reduceAdd, Nat.reduceMul, Nat.reduceLeDiff, Nat.reduceLT, Nat.zero_le, Int.reduceAdd, Int.reduceSub, Int.reduceMul, Int.reduceNeg, q_add_e, q_sub_e, q_mul_e, q_neg_e, q_upd_s, q_upd_n, zr_shr0, zr_shr1, zr_shr2, zr_shr3, zr_shr4, zr_and, zr_dyn8, zr_or, zr_shl, q_cpy_n, y_cpy26]
          exact ih (p + 1) (by omega) _ rfl hq
        | succ k ih2 =>
          intro b hb hq
          have ih3 := ih2 (b + 1) (by omega)
          rw [F_cB] at hq
          have e1 : M (c + 3 + (1 + p)) b = q_Lk M c p b := rfl
          have e2 : M (c + 3 + (1 + p)) (M (c + 2) p).toNat = q_Lk M c p (M (c + 2) p).toNat := rfl
          have e3 : F_takes1 (M (c + 2)) (fun q => M (c + 10 + (1 + q)) b) (M (c + 1) b) b (M c 5).toNat p = q_Tk M c p b := rfl
          rw [b_X0_complaint_46]
          by_cases r1 : 0 < q_Lk M c p b ∧ (q_Lk M c p (M (c + 2) p).toNat < q_Lk M c p b ∨ (q_Lk M c p b = q_Lk M c p (M (c + 2) p).toNat ∧ (b : Int) < M (c + 2) p))
          · have r2 : F_rth (q_Lk M c p) b (M (c + 2) p).toNat = true := by
              refine decide_eq_true ⟨r1.1, ?_⟩
              omega
            by_cases r3 : q_Tk M c p b = true
            · rw [if_pos (show F_rth (q_Lk M c p) b (M (c + 2) p).toNat = true ∧ q_Tk M c p b = true from ⟨r2, r3⟩), if_neg (by omega)] at hq
              simp (disch := omega) only [b_X0_complaint_0, x_iconst, x_storeI_1, x_loadI_1, x_loadR_0, x_loadS_0, f_0_5, y_ic_ge_t, y_ic_ge_f, b_X0_complaint_10, f_0_1, y_iald_26, y_ic_eq_t, y_ic_eq_f, b_X0_complaint_20, f_0_2, y_aald7, y_if_gt_t, y_if_gt_f, b_X0_complaint_36, x_imul, x_iadd, x_ret0, b_X0_complaint_44, x_storeI_2, x_loadI_2, b_X0_complaint_51, y_if_eq_t, y_if_eq_f, b_X0_complaint_66, b_X0_complaint_75, b_X0_complaint_82, x_iinc_2, x_goto, b_X0_complaint_88, x_iinc_1, b_X0_complaint_94, q_isL_I, q_isL_R, q_isL_S, true_and, and_true, and_self, List.length_nil, List.length_cons, Nat.zero_add, x_K, x_Kn, Int.reduceToNat, Nat.reduceAdd, Nat.reduceMul, Nat.reduceLeDiff, Nat.reduceLT, Nat.zero_le, Int.reduceAdd, Int.reduceSub, Int.reduceMul, Int.reduceNeg, q_add_e, q_sub_e, q_mul_e, q_neg_e, q_upd_s, q_upd_n, zr_shr0, zr_shr1, zr_shr2, zr_shr3, zr_shr4, zr_and, zr_dyn8, zr_or, zr_shl, q_cpy_n, y_cpy26, c_X0_ratherBeIn, sp_ratherBeIn, c_X0_takes, sp_takes, Int.toNat_natCast, e1, e2, e3, r1, r3, and_self, if_true]
              exact hq
            · rw [if_neg (show ¬(F_rth (q_Lk M c p) b (M (c + 2) p).toNat = true ∧ q_Tk M c p b = true) from fun z => r3 z.2)] at hq
              simp (disch := omega) only [b_X0_complaint_0, x_iconst, x_storeI_1, x_loadI_1, x_loadR_0, x_loadS_0, f_0_5, y_ic_ge_t, y_ic_ge_f, b_X0_complaint_10, f_0_1, y_iald_26, y_ic_eq_t, y_ic_eq_f, b_X0_complaint_20, f_0_2, y_aald7, y_if_gt_t, y_if_gt_f, b_X0_complaint_36, x_imul, x_iadd, x_ret0, b_X0_complaint_44, x_storeI_2, x_loadI_2, b_X0_complaint_51, y_if_eq_t, y_if_eq_f, b_X0_complaint_66, b_X0_complaint_75, b_X0_complaint_82, x_iinc_2, x_goto, b_X0_complaint_88, x_iinc_1, b_X0_complaint_94, q_isL_I, q_isL_R, q_isL_S, true_and, and_true, and_self, List.length_nil, List.length_cons, Nat.zero_add, x_K, x_Kn, Int.reduceToNat, Nat.reduceAdd, Nat.reduceMul, Nat.reduceLeDiff, Nat.reduceLT, Nat.zero_le, Int.reduceAdd, Int.reduceSub, Int.reduceMul, Int.reduceNeg, q_add_e, q_sub_e, q_mul_e, q_neg_e, q_upd_s, q_upd_n, zr_shr0, zr_shr1, zr_shr2, zr_shr3, zr_shr4, zr_and, zr_dyn8, zr_or, zr_shl, q_cpy_n, y_cpy26, c_X0_ratherBeIn, sp_ratherBeIn, c_X0_takes, sp_takes, Int.toNat_natCast, e1, e2, e3, r1, r3, Bool.false_eq_true, if_false, and_self, if_true]
              exact ih3 hq
          · have r2 : ¬F_rth (q_Lk M c p) b (M (c + 2) p).toNat = true := by
              intro z
              have z2 := of_decide_eq_true z
              exact r1 ⟨z2.1, by omega⟩
            rw [if_neg (show ¬(F_rth (q_Lk M c p) b (M (c + 2) p).toNat = true ∧ q_Tk M c p b = true) from fun z => r2 z.1)] at hq
            simp (disch := omega) only [b_X0_complaint_0, x_iconst, x_storeI_1, x_loadI_1, x_loadR_0, x_loadS_0, f_0_5, y_ic_ge_t, y_ic_ge_f, b_X0_complaint_10, f_0_1, y_iald_26, y_ic_eq_t, y_ic_eq_f, b_X0_complaint_20, f_0_2, y_aald7, y_if_gt_t, y_if_gt_f, b_X0_complaint_36, x_imul, x_iadd, x_ret0, b_X0_complaint_44, x_storeI_2, x_loadI_2, b_X0_complaint_51, y_if_eq_t, y_if_eq_f, b_X0_complaint_66, b_X0_complaint_75, b_X0_complaint_82, x_iinc_2, x_goto, b_X0_complaint_88, x_iinc_1, b_X0_complaint_94, q_isL_I, q_isL_R, q_isL_S, true_and, and_true, and_self, List.length_nil, List.length_cons, Nat.zero_add, x_K, x_Kn, Int.reduceToNat, Nat.reduceAdd, Nat.reduceMul, Nat.reduceLeDiff, Nat.reduceLT, Nat.zero_le, Int.reduceAdd, Int.reduceSub, Int.reduceMul, Int.reduceNeg, q_add_e, q_sub_e, q_mul_e, q_neg_e, q_upd_s, q_upd_n, zr_shr0, zr_shr1, zr_shr2, zr_shr3, zr_shr4, zr_and, zr_dyn8, zr_or, zr_shl, q_cpy_n, y_cpy26, c_X0_ratherBeIn, sp_ratherBeIn, Int.toNat_natCast, e1, e2, r1, if_false]
            exact ih3 hq
      have e2 : M (c + 3 + (1 + p)) (M (c + 2) p).toNat = q_Lk M c p (M (c + 2) p).toNat := rfl
      have inner0 := inner 5 0 (by omega)
      rw [b_X0_complaint_2]
      by_cases c1 : M (c + 2) p = 5
      · rw [if_neg (fun z => z.1 c1)] at hq
        simp (disch := omega) only [b_X0_complaint_0, x_iconst, x_storeI_1, x_loadI_1, x_loadR_0, x_loadS_0, f_0_5, y_ic_ge_t, y_ic_ge_f, b_X0_complaint_10, f_0_1, y_iald_26, y_ic_eq_t, y_ic_eq_f, b_X0_complaint_20, f_0_2, y_aald7, y_if_gt_t, y_if_gt_f, b_X0_complaint_36, x_imul, x_iadd, x_ret0, b_X0_complaint_44, x_storeI_2, x_loadI_2, b_X0_complaint_51, y_if_eq_t, y_if_eq_f, b_X0_complaint_66, b_X0_complaint_75, b_X0_complaint_82, x_iinc_2, x_goto, b_X0_complaint_88, x_iinc_1, b_X0_complaint_94, q_isL_I, q_isL_R, q_isL_S, true_and, and_true, and_self, List.length_nil, List.length_cons, Nat.zero_add, x_K, x_Kn, Int.reduceToNat, Nat.reduceAdd, Nat.reduceMul, Nat.reduceLeDiff, Nat.reduceLT, Nat.zero_le, Int.reduceAdd, Int.reduceSub, Int.reduceMul, Int.reduceNeg, q_add_e, q_sub_e, q_mul_e, q_neg_e, q_upd_s, q_upd_n, zr_shr0, zr_shr1, zr_shr2, zr_shr3, zr_shr4, zr_and, zr_dyn8, zr_or, zr_shl, q_cpy_n, y_cpy26, Int.toNat_natCast, hl]
        refine inner0 ?_
        split
        · rename_i z
          rw [if_pos z] at hq
          exact hq
        · rename_i z
          rw [if_neg z] at hq
          exact hq
      · by_cases c2 : q_Lk M c p (M (c + 2) p).toNat ≤ 0
        · rw [if_pos ⟨c1, c2⟩] at hq
          simp (disch := omega) only [b_X0_complaint_0, x_iconst, x_storeI_1, x_loadI_1, x_loadR_0, x_loadS_0, f_0_5, y_ic_ge_t, y_ic_ge_f, b_X0_complaint_10, f_0_1, y_iald_26, y_ic_eq_t, y_ic_eq_f, b_X0_complaint_20, f_0_2, y_aald7, y_if_gt_t, y_if_gt_f, b_X0_complaint_36, x_imul, x_iadd, x_ret0, b_X0_complaint_44, x_storeI_2, x_loadI_2, b_X0_complaint_51, y_if_eq_t, y_if_eq_f, b_X0_complaint_66, b_X0_complaint_75, b_X0_complaint_82, x_iinc_2, x_goto, b_X0_complaint_88, x_iinc_1, b_X0_complaint_94, q_isL_I, q_isL_R, q_isL_S, true_and, and_true, and_self, List.length_nil, List.length_cons, Nat.zero_add, x_K, x_Kn, Int.reduceToNat, Nat.reduceAdd, Nat.reduceMul, Nat.reduceLeDiff, Nat.reduceLT, Nat.zero_le, Int.reduceAdd, Int.reduceSub, Int.reduceMul, Int.reduceNeg, q_add_e, q_sub_e, q_mul_e, q_neg_e, q_upd_s, q_upd_n, zr_shr0, zr_shr1, zr_shr2, zr_shr3, zr_shr4, zr_and, zr_dyn8, zr_or, zr_shl, q_cpy_n, y_cpy26, Int.toNat_natCast, e2, hl]
          exact hq
        · rw [if_neg (fun z => c2 z.2)] at hq
          simp (disch := omega) only [b_X0_complaint_0, x_iconst, x_storeI_1, x_loadI_1, x_loadR_0, x_loadS_0, f_0_5, y_ic_ge_t, y_ic_ge_f, b_X0_complaint_10, f_0_1, y_iald_26, y_ic_eq_t, y_ic_eq_f, b_X0_complaint_20, f_0_2, y_aald7, y_if_gt_t, y_if_gt_f, b_X0_complaint_36, x_imul, x_iadd, x_ret0, b_X0_complaint_44, x_storeI_2, x_loadI_2, b_X0_complaint_51, y_if_eq_t, y_if_eq_f, b_X0_complaint_66, b_X0_complaint_75, b_X0_complaint_82, x_iinc_2, x_goto, b_X0_complaint_88, x_iinc_1, b_X0_complaint_94, q_isL_I, q_isL_R, q_isL_S, true_and, and_true, and_self, List.length_nil, List.length_cons, Nat.zero_add, x_K, x_Kn, Int.reduceToNat, Nat.reduceAdd, Nat.reduceMul, Nat.reduceLeDiff, Nat.reduceLT, Nat.zero_le, Int.reduceAdd, Int.reduceSub, Int.reduceMul, Int.reduceNeg, q_add_e, q_sub_e, q_mul_e, q_neg_e, q_upd_s, q_upd_n, zr_shr0, zr_shr1, zr_shr2, zr_shr3, zr_shr4, zr_and, zr_dyn8, zr_or, zr_shl, q_cpy_n, y_cpy26, Int.toNat_natCast, e2, hl]
          refine inner0 ?_
          split
          · rename_i z
            rw [if_pos z] at hq
            exact hq
          · rename_i z
            rw [if_neg z] at hq
            exact hq
  rw [s_X0_complaint]
  simp (disch := omega) only [b_X0_complaint_0, x_iconst, x_storeI_1, x_loadI_1, x_loadR_0, x_loadS_0, f_0_5, y_ic_ge_t, y_ic_ge_f, b_X0_complaint_10, f_0_1, y_iald_26, y_ic_eq_t, y_ic_eq_f, b_X0_complaint_20, f_0_2, y_aald7, y_if_gt_t, y_if_gt_f, b_X0_complaint_36, x_imul, x_iadd, x_ret0, b_X0_complaint_44, x_storeI_2, x_loadI_2, b_X0_complaint_51, y_if_eq_t, y_if_eq_f, b_X0_complaint_66, b_X0_complaint_75, b_X0_complaint_82, x_iinc_2, x_goto, b_X0_complaint_88, x_iinc_1, b_X0_complaint_94, q_isL_I, q_isL_R, q_isL_S, true_and, and_true, and_self, List.length_nil, List.length_cons, Nat.zero_add, x_K, x_Kn, Int.reduceToNat, Nat.reduceAdd, Nat.reduceMul, Nat.reduceLeDiff, Nat.reduceLT, Nat.zero_le, Int.reduceAdd, Int.reduceSub, Int.reduceMul, Int.reduceNeg, q_add_e, q_sub_e, q_mul_e, q_neg_e, q_upd_s, q_upd_n, zr_shr0, zr_shr1, zr_shr2, zr_shr3, zr_shr4, zr_and, zr_dyn8, zr_or, zr_shl, q_cpy_n, y_cpy26]
  exact loop (M c 5).toNat 0 (by omega) _ rfl hq
