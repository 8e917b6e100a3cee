/-! THE CLASS'S SHEETS: a row made, a number written -/
def q_shM (M : q_M) (a : Nat) (so n : Int) (f : Nat → Int) : q_M := fun b i => if b = a + 1 ∧ i < 40 then f i else if b = a ∧ i = 1 then so else if b = a ∧ i = 2 then n else M b i
theorem q_shM_n {M : q_M} {a b i : Nat} {so n : Int} {f : Nat → Int} (h : b ≠ a) (h2 : b ≠ a + 1) : q_shM M a so n f b i = M b i := by
  unfold q_shM
  rw [if_neg (fun z => h2 z.1), if_neg (fun z => h z.1), if_neg (fun z => h z.1)]
theorem q_shM_1 {M : q_M} {a : Nat} {so n : Int} {f : Nat → Int} : q_shM M a so n f a 1 = so := by
  unfold q_shM
  rw [if_neg (by omega), if_pos ⟨rfl, rfl⟩]
theorem q_shM_2 {M : q_M} {a : Nat} {so n : Int} {f : Nat → Int} : q_shM M a so n f a 2 = n := by
  unfold q_shM
  rw [if_neg (by omega), if_neg (by omega), if_pos ⟨rfl, rfl⟩]
theorem q_shM_c {M : q_M} {a i : Nat} {so n : Int} {f : Nat → Int} (h : i < 40) : q_shM M a so n f (a + 1) i = f i := if_pos ⟨rfl, h⟩
theorem q_shM_u {M : q_M} {a p : Nat} {so n v : Int} {f : Nat → Int} (h : p < 40) : q_upd (q_shM M a so n f) (a + 1) p v = q_shM M a so n (F_u f p v) := by
  funext b i
  by_cases c : b = a + 1 ∧ i = p
  · obtain ⟨rfl, rfl⟩ := c
    rw [q_upd_s, q_shM_c h]
    exact (if_pos rfl).symm
  · rw [q_upd_n (by omega)]
    unfold q_shM F_u
    by_cases c1 : b = a + 1 ∧ i < 40
    · rw [if_pos c1, if_pos c1, if_neg (fun z => c ⟨c1.1, z⟩)]
    · rw [if_neg c1, if_neg c1]
theorem sp_become {d : Nat} {g : q_G} {M : q_M} {a : Nat} {so n : Int} {Q : Option q_V → q_G → q_M → Prop} (hq : Q none g (q_shM M a so n (fun _ => 0))) : q_S 1 d 44 [qR 2 a, qI so, qI n] g M Q := by
  rw [s_X2_become]
  have loop : ∀ j k : Nat, k + j = 40 → q_T 1 d qP_X2_become 12 [] [qR 2 a, qI so, qI n, qI k] [] g (q_shM M a so n (fun i => if i < k then 0 else M (a + 1) i)) Q := by
    intro j
    induction j with
    | zero =>
      intro k hk
      have e : k = 40 := by omega
      subst e
      have e2 : q_shM M a so n (fun i => if i < 40 then 0 else M (a + 1) i) = q_shM M a so n (fun _ => 0) := by
        funext b i
        unfold q_shM
        by_cases c : b = a + 1 ∧ i < 40
        · rw [if_pos c, if_pos c]
          exact if_pos c.2
        · rw [if_neg c, if_neg c]
      rw [b_X2_become_12, e2]
      simp (disch := omega) only [b_X2_become_0, x_loadR_0, x_loadS_0, x_loadI_1, p_2_1, x_loadI_2, p_2_2, x_iconst, x_storeI_3, x_loadI_3, y_ic_ge_t, y_ic_ge_f, b_X2_become_18, f_2_0, y_iast_60, x_iinc_3, x_goto, b_X2_become_31, x_vret, q_isL_I, q_isL_R, q_isL_S, true_and, and_true, and_self, List.length_nil, List.length_cons, Nat.zero_add, x_K, x_Kn, Int.reduceToNat, Nat.reduceAdd, Nat.reduceMul, Nat.reduceLeDiff, Nat.reduceLT, Nat.zero_le, Int.reduceAdd, Int.reduceSub, Int.reduceMul, Int.reduceNeg, q_add_e, q_sub_e, q_mul_e, q_neg_e, q_upd_s, q_upd_n, zr_shr0, zr_shr1, zr_shr2, zr_shr3, zr_shr4, zr_and, zr_dyn8, zr_or, zr_shl, q_cpy_n, y_cpy26]
      exact hq
    | succ j ih =>
      intro k hk
      have e2 : F_u (fun i => if i < k then 0 else M (a + 1) i) k 0 = (fun i => if i < k + 1 then 0 else M (a + 1) i) := by
        funext i
        unfold F_u
        by_cases c : i = k
        · rw [if_pos c, if_pos (by omega)]
        · rw [if_neg c]
          by_cases c2 : i < k
          · rw [if_pos (show i < k + 1 by omega)]
            exact if_pos c2
          · rw [if_neg (show ¬i < k + 1 by omega)]
            exact if_neg c2
      rw [b_X2_become_12]
      simp (disch := omega) only [b_X2_become_0, x_loadR_0, x_loadS_0, x_loadI_1, p_2_1, x_loadI_2, p_2_2, x_iconst, x_storeI_3, x_loadI_3, y_ic_ge_t, y_ic_ge_f, b_X2_become_18, f_2_0, y_iast_60, x_iinc_3, x_goto, b_X2_become_31, x_vret, q_isL_I, q_isL_R, q_isL_S, true_and, and_true, and_self, List.length_nil, List.length_cons, Nat.zero_add, x_K, x_Kn, Int.reduceToNat, Nat.reduceAdd, Nat.reduceMul, Nat.reduceLeDiff, Nat.reduceLT, Nat.zero_le, Int.reduceAdd, Int.reduceSub, Int.reduceMul, Int.reduceNeg, q_add_e, q_sub_e, q_mul_e, q_neg_e, q_upd_s, q_upd_n, zr_shr0, zr_shr1, zr_shr2, zr_shr3, zr_shr4, zr_and, zr_dyn8, zr_or, zr_shl, q_cpy_n, y_cpy26, Int.toNat_natCast, q_shM_u, e2]
      exact ih (k + 1) (by omega)
  have e0 : q_upd (q_upd M a 1 so) a 2 n = q_shM M a so n (fun i => if i < 0 then 0 else M (a + 1) i) := by
    funext b i
    unfold q_shM
    by_cases c : b = a + 1 ∧ i < 40
    · rw [if_pos c, q_upd_n (by omega), q_upd_n (by omega), c.1]
      exact (if_neg (Nat.not_lt_zero i)).symm
    · rw [if_neg c]
      by_cases c1 : b = a ∧ i = 1
      · rw [if_pos c1, c1.1, c1.2, q_upd_n (by omega), q_upd_s]
      · rw [if_neg c1]
        by_cases c2 : b = a ∧ i = 2
        · rw [if_pos c2, c2.1, c2.2, q_upd_s]
        · rw [if_neg c2, q_upd_n (by omega), q_upd_n (by omega)]
  simp (disch := omega) only [b_X2_become_0, x_loadR_0, x_loadS_0, x_loadI_1, p_2_1, x_loadI_2, p_2_2, x_iconst, x_storeI_3, x_loadI_3, y_ic_ge_t, y_ic_ge_f, b_X2_become_18, f_2_0, y_iast_60, x_iinc_3, x_goto, b_X2_become_31, x_vret, q_isL_I, q_isL_R, q_isL_S, true_and, and_true, and_self, List.length_nil, List.length_cons, Nat.zero_add, x_K, x_Kn, Int.reduceToNat, Nat.reduceAdd, Nat.reduceMul, Nat.reduceLeDiff, Nat.reduceLT, Nat.zero_le, Int.reduceAdd, Int.reduceSub, Int.reduceMul, Int.reduceNeg, q_add_e, q_sub_e, q_mul_e, q_neg_e, q_upd_s, q_upd_n, zr_shr0, zr_shr1, zr_shr2, zr_shr3, zr_shr4, zr_and, zr_dyn8, zr_or, zr_shl, q_cpy_n, y_cpy26]
  rw [e0]
  exact loop 40 0 (by omega)
/-- a number as a row of a sort keeps it -/
def F_cvt (so v : Int) : Int := if so = 0 then q_i2b v else if so = 1 then q_i2s v else v
theorem sp_write {d : Nat} {g : q_G} {M : q_M} {a : Nat} {i v : Int} {Q : Option q_V → q_G → q_M → Prop} (hi : 0 ≤ i) (hi2 : i < M a 2) (h40 : M a 2 ≤ 40) (hq : Q none g (q_upd M (a + 1) i.toNat (F_cvt (M a 1) v))) : q_S 1 d 45 [qR 2 a, qI i, qI v] g M Q := by
  rw [s_X2_write]
  unfold F_cvt at hq
  by_cases c0 : M a 1 = 0
  · rw [if_pos c0] at hq
    simp (disch := omega) only [b_X2_write_0, x_loadI_1, y_if_lt_t, y_if_lt_f, b_X2_write_4, x_loadR_0, x_loadS_0, f_2_2, y_ic_ge_t, y_ic_ge_f, b_X2_write_12, f_2_0, f_2_1, y_if_ne_t, y_if_ne_f, b_X2_write_24, x_loadI_2, x_i2b, x_goto, b_X2_write_29, x_iconst, y_ic_ne_t, y_ic_ne_f, b_X2_write_37, x_i2s, b_X2_write_42, b_X2_write_43, y_iast_60, b_X2_write_44, x_vret, q_isL_I, q_isL_R, q_isL_S, true_and, and_true, and_self, List.length_nil, List.length_cons, Nat.zero_add, x_K, x_Kn, Int.reduceToNat, Nat.reduceAdd, Nat.reduceMul, Nat.reduceLeDiff, Nat.reduceLT, Nat.zero_le, Int.reduceAdd, Int.reduceSub, Int.reduceMul, Int.reduceNeg, q_add_e, q_sub_e, q_mul_e, q_neg_e, q_upd_s, q_upd_n, zr_shr0, zr_shr1, zr_shr2, zr_shr3, zr_shr4, zr_and, zr_dyn8, zr_or, zr_shl, q_cpy_n, y_cpy26]
    exact hq
  · rw [if_neg c0] at hq
    by_cases c1 : M a 1 = 1
    · rw [if_pos c1] at hq
      simp (disch := omega) only [b_X2_write_0, x_loadI_1, y_if_lt_t, y_if_lt_f, b_X2_write_4, x_loadR_0, x_loadS_0, f_2_2, y_ic_ge_t, y_ic_ge_f, b_X2_write_12, f_2_0, f_2_1, y_if_ne_t, y_if_ne_f, b_X2_write_24, x_loadI_2, x_i2b, x_goto, b_X2_write_29, x_iconst, y_ic_ne_t, y_ic_ne_f, b_X2_write_37, x_i2s, b_X2_write_42, b_X2_write_43, y_iast_60, b_X2_write_44, x_vret, q_isL_I, q_isL_R, q_isL_S, true_and, and_true, and_self, List.length_nil, List.length_cons, Nat.zero_add, x_K, x_Kn, Int.reduceToNat, Nat.reduceAdd, Nat.reduceMul, Nat.reduceLeDiff, Nat.reduceLT, Nat.zero_le, Int.reduceAdd, Int.reduceSub, Int.reduceMul, Int.reduceNeg, q_add_e, q_sub_e, q_mul_e, q_neg_e, q_upd_s, q_upd_n, zr_shr0, zr_shr1, zr_shr2, zr_shr3, zr_shr4, zr_and, zr_dyn8, zr_or, zr_shl, q_cpy_n, y_cpy26]
      exact hq
    · rw [if_neg c1] at hq
      simp (disch := omega) only [b_X2_write_0, x_loadI_1, y_if_lt_t, y_if_lt_f, b_X2_write_4, x_loadR_0, x_loadS_0, f_2_2, y_ic_ge_t, y_ic_ge_f, b_X2_write_12, f_2_0, f_2_1, y_if_ne_t, y_if_ne_f, b_X2_write_24, x_loadI_2, x_i2b, x_goto, b_X2_write_29, x_iconst, y_ic_ne_t, y_ic_ne_f, b_X2_write_37, x_i2s, b_X2_write_42, b_X2_write_43, y_iast_60, b_X2_write_44, x_vret, q_isL_I, q_isL_R, q_isL_S, true_and, and_true, and_self, List.length_nil, List.length_cons, Nat.zero_add, x_K, x_Kn, Int.reduceToNat, Nat.reduceAdd, Nat.reduceMul, Nat.reduceLeDiff, Nat.reduceLT, Nat.zero_le, Int.reduceAdd, Int.reduceSub, Int.reduceMul, Int.reduceNeg, q_add_e, q_sub_e, q_mul_e, q_neg_e, q_upd_s, q_upd_n, zr_shr0, zr_shr1, zr_shr2, zr_shr3, zr_shr4, zr_and, zr_dyn8, zr_or, zr_shl, q_cpy_n, y_cpy26]
      exact hq
/-! THE CLASS'S ENTRIES: sheet, cell -/
def A_sheet (s so n : Int) : Int := if ¬(0 ≤ s ∧ s < 4) ∨ so < -1 ∨ 2 < so then -2 else if so = -1 then 1 else if 40 < n then -2 else if n < 0 then -14 else 1
def q_sheetM (M : q_M) (s so n : Int) : q_M := if A_sheet s so n = 1 then q_shM M (6 + (86 + 2 * s.toNat)) so (if so = -1 then 0 else n) (fun _ => 0) else M
set_option maxHeartbeats 4000000 in
theorem sp_sheet {d : Nat} {g : q_G} {M : q_M} {s so n : Int} {Q : Option q_V → q_G → q_M → Prop} (hq : Q (some (qI (A_sheet s so n))) g (q_sheetM M s so n)) : q_S 1 (d + 1) 93 [qR 5 0, qI s, qI so, qI n] g M Q := by
  rw [s_X5_sheet]
  unfold q_sheetM at hq
  have bec : ∀ (nx : Nat) (ops : List Instr) (ls st : List q_V) (n2 : Int), (q_T 1 (d + 1) qP_X5_sheet nx ops ls st g (q_shM M (6 + (86 + 2 * s.toNat)) so n2 (fun _ => 0)) Q) → q_S 1 d 44 [qR 2 (6 + (86 + 2 * s.toNat)), qI so, qI n2] g M (q_K 1 (d + 1) qP_X5_sheet nx ops ls st Q) := fun nx ops ls st n2 h => sp_become h
  by_cases c1 : 0 ≤ s ∧ s < 4
  · rcases (show so < -1 ∨ so = -1 ∨ (0 ≤ so ∧ so ≤ 2) ∨ 2 < so by omega) with c2 | c2 | c2 | c2
    · have eA : A_sheet s so n = -2 := by unfold A_sheet; rw [if_pos (by omega)]
      rw [eA, if_neg (by omega)] at hq
      simp (disch := omega) only [b_X5_sheet_0, x_loadI_1, y_if_eq_t, y_if_eq_f, b_X5_sheet_7, x_loadI_2, x_iconst, y_ic_lt_t, y_ic_lt_f, b_X5_sheet_12, y_ic_le_t, y_ic_le_f, b_X5_sheet_17, x_ret0, b_X5_sheet_20, y_ic_ne_t, y_ic_ne_f, b_X5_sheet_25, x_loadR_0, x_loadS_0, f_5_7, y_aald9, b_X5_sheet_38, x_loadI_3, b_X5_sheet_44, b_X5_sheet_47, y_if_ge_t, y_if_ge_f, b_X5_sheet_51, b_X5_sheet_54, q_isL_I, q_isL_R, q_isL_S, true_and, and_true, and_self, List.length_nil, List.length_cons, Nat.zero_add, x_K, x_Kn, Int.reduceToNat, Nat.reduceAdd, Nat.reduceMul, Nat.reduceLeDiff, Nat.reduceLT, Nat.zero_le, Int.reduceAdd, Int.reduceSub, Int.reduceMul, Int.reduceNeg, q_add_e, q_sub_e, q_mul_e, q_neg_e, q_upd_s, q_upd_n, zr_shr0, zr_shr1, zr_shr2, zr_shr3, zr_shr4, zr_and, zr_dyn8, zr_or, zr_shl, q_cpy_n, y_cpy26, c_X5_isSheet, sp_isSheet, c1, and_self, if_true]
      exact hq
    · have eA : A_sheet s so n = 1 := by unfold A_sheet; rw [if_neg (by omega), if_pos c2]
      rw [eA, if_pos rfl, if_pos c2] at hq
      simp (disch := omega) only [b_X5_sheet_0, x_loadI_1, y_if_eq_t, y_if_eq_f, b_X5_sheet_7, x_loadI_2, x_iconst, y_ic_lt_t, y_ic_lt_f, b_X5_sheet_12, y_ic_le_t, y_ic_le_f, b_X5_sheet_17, x_ret0, b_X5_sheet_20, y_ic_ne_t, y_ic_ne_f, b_X5_sheet_25, x_loadR_0, x_loadS_0, f_5_7, y_aald9, b_X5_sheet_38, x_loadI_3, b_X5_sheet_44, b_X5_sheet_47, y_if_ge_t, y_if_ge_f, b_X5_sheet_51, b_X5_sheet_54, q_isL_I, q_isL_R, q_isL_S, true_and, and_true, and_self, List.length_nil, List.length_cons, Nat.zero_add, x_K, x_Kn, Int.reduceToNat, Nat.reduceAdd, Nat.reduceMul, Nat.reduceLeDiff, Nat.reduceLT, Nat.zero_le, Int.reduceAdd, Int.reduceSub, Int.reduceMul, Int.reduceNeg, q_add_e, q_sub_e, q_mul_e, q_neg_e, q_upd_s, q_upd_n, zr_shr0, zr_shr1, zr_shr2, zr_shr3, zr_shr4, zr_and, zr_dyn8, zr_or, zr_shl, q_cpy_n, y_cpy26, c_X5_isSheet, sp_isSheet, c1, and_self, if_true, c_X2_become]
      refine bec _ _ _ _ _ ?_
      simp (disch := omega) only [b_X5_sheet_0, x_loadI_1, y_if_eq_t, y_if_eq_f, b_X5_sheet_7, x_loadI_2, x_iconst, y_ic_lt_t, y_ic_lt_f, b_X5_sheet_12, y_ic_le_t, y_ic_le_f, b_X5_sheet_17, x_ret0, b_X5_sheet_20, y_ic_ne_t, y_ic_ne_f, b_X5_sheet_25, x_loadR_0, x_loadS_0, f_5_7, y_aald9, b_X5_sheet_38, x_loadI_3, b_X5_sheet_44, b_X5_sheet_47, y_if_ge_t, y_if_ge_f, b_X5_sheet_51, b_X5_sheet_54, q_isL_I, q_isL_R, q_isL_S, true_and, and_true, and_self, List.length_nil, List.length_cons, Nat.zero_add, x_K, x_Kn, Int.reduceToNat, Nat.reduceAdd, Nat.reduceMul, Nat.reduceLeDiff, Nat.reduceLT, Nat.zero_le, Int.reduceAdd, Int.reduceSub, Int.reduceMul, Int.reduceNeg, q_add_e, q_sub_e, q_mul_e, q_neg_e, q_upd_s, q_upd_n, zr_shr0, zr_shr1, zr_shr2, zr_shr3, zr_shr4, zr_and, zr_dyn8, zr_or, zr_shl, q_cpy_n, y_cpy26]
      exact hq
    · by_cases c3 : 40 < n
      · have eA : A_sheet s so n = -2 := by unfold A_sheet; rw [if_neg (by omega), if_neg (by omega), if_pos c3]
        rw [eA, if_neg (by omega)] at hq
        simp (disch := omega) only [b_X5_sheet_0, x_loadI_1, y_if_eq_t, y_if_eq_f, b_X5_sheet_7, x_loadI_2, x_iconst, y_ic_lt_t, y_ic_lt_f, b_X5_sheet_12, y_ic_le_t, y_ic_le_f, b_X5_sheet_17, x_ret0, b_X5_sheet_20, y_ic_ne_t, y_ic_ne_f, b_X5_sheet_25, x_loadR_0, x_loadS_0, f_5_7, y_aald9, b_X5_sheet_38, x_loadI_3, b_X5_sheet_44, b_X5_sheet_47, y_if_ge_t, y_if_ge_f, b_X5_sheet_51, b_X5_sheet_54, q_isL_I, q_isL_R, q_isL_S, true_and, and_true, and_self, List.length_nil, List.length_cons, Nat.zero_add, x_K, x_Kn, Int.reduceToNat, Nat.reduceAdd, Nat.reduceMul, Nat.reduceLeDiff, Nat.reduceLT, Nat.zero_le, Int.reduceAdd, Int.reduceSub, Int.reduceMul, Int.reduceNeg, q_add_e, q_sub_e, q_mul_e, q_neg_e, q_upd_s, q_upd_n, zr_shr0, zr_shr1, zr_shr2, zr_shr3, zr_shr4, zr_and, zr_dyn8, zr_or, zr_shl, q_cpy_n, y_cpy26, c_X5_isSheet, sp_isSheet, c1, and_self, if_true]
        exact hq
      · by_cases c4 : n < 0
        · have eA : A_sheet s so n = -14 := by unfold A_sheet; rw [if_neg (by omega), if_neg (by omega), if_neg c3, if_pos c4]
          rw [eA, if_neg (by omega)] at hq
          simp (disch := omega) only [b_X5_sheet_0, x_loadI_1, y_if_eq_t, y_if_eq_f, b_X5_sheet_7, x_loadI_2, x_iconst, y_ic_lt_t, y_ic_lt_f, b_X5_sheet_12, y_ic_le_t, y_ic_le_f, b_X5_sheet_17, x_ret0, b_X5_sheet_20, y_ic_ne_t, y_ic_ne_f, b_X5_sheet_25, x_loadR_0, x_loadS_0, f_5_7, y_aald9, b_X5_sheet_38, x_loadI_3, b_X5_sheet_44, b_X5_sheet_47, y_if_ge_t, y_if_ge_f, b_X5_sheet_51, b_X5_sheet_54, q_isL_I, q_isL_R, q_isL_S, true_and, and_true, and_self, List.length_nil, List.length_cons, Nat.zero_add, x_K, x_Kn, Int.reduceToNat, Nat.reduceAdd, Nat.reduceMul, Nat.reduceLeDiff, Nat.reduceLT, Nat.zero_le, Int.reduceAdd, Int.reduceSub, Int.reduceMul, Int.reduceNeg, q_add_e, q_sub_e, q_mul_e, q_neg_e, q_upd_s, q_upd_n, zr_shr0, zr_shr1, zr_shr2, zr_shr3, zr_shr4, zr_and, zr_dyn8, zr_or, zr_shl, q_cpy_n, y_cpy26, c_X5_isSheet, sp_isSheet, c1, and_self, if_true]
          exact hq
        · have eA : A_sheet s so n = 1 := by unfold A_sheet; rw [if_neg (by omega), if_neg (by omega), if_neg c3, if_neg c4]
          rw [eA, if_pos rfl, if_neg (show ¬so = -1 by omega)] at hq
          simp (disch := omega) only [b_X5_sheet_0, x_loadI_1, y_if_eq_t, y_if_eq_f, b_X5_sheet_7, x_loadI_2, x_iconst, y_ic_lt_t, y_ic_lt_f, b_X5_sheet_12, y_ic_le_t, y_ic_le_f, b_X5_sheet_17, x_ret0, b_X5_sheet_20, y_ic_ne_t, y_ic_ne_f, b_X5_sheet_25, x_loadR_0, x_loadS_0, f_5_7, y_aald9, b_X5_sheet_38, x_loadI_3, b_X5_sheet_44, b_X5_sheet_47, y_if_ge_t, y_if_ge_f, b_X5_sheet_51, b_X5_sheet_54, q_isL_I, q_isL_R, q_isL_S, true_and, and_true, and_self, List.length_nil, List.length_cons, Nat.zero_add, x_K, x_Kn, Int.reduceToNat, Nat.reduceAdd, Nat.reduceMul, Nat.reduceLeDiff, Nat.reduceLT, Nat.zero_le, Int.reduceAdd, Int.reduceSub, Int.reduceMul, Int.reduceNeg, q_add_e, q_sub_e, q_mul_e, q_neg_e, q_upd_s, q_upd_n, zr_shr0, zr_shr1, zr_shr2, zr_shr3, zr_shr4, zr_and, zr_dyn8, zr_or, zr_shl, q_cpy_n, y_cpy26, c_X5_isSheet, sp_isSheet, c1, and_self, if_true, c_X2_become]
          refine bec _ _ _ _ _ ?_
          simp (disch := omega) only [b_X5_sheet_0, x_loadI_1, y_if_eq_t, y_if_eq_f, b_X5_sheet_7, x_loadI_2, x_iconst, y_ic_lt_t, y_ic_lt_f, b_X5_sheet_12, y_ic_le_t, y_ic_le_f, b_X5_sheet_17, x_ret0, b_X5_sheet_20, y_ic_ne_t, y_ic_ne_f, b_X5_sheet_25, x_loadR_0, x_loadS_0, f_5_7, y_aald9, b_X5_sheet_38, x_loadI_3, b_X5_sheet_44, b_X5_sheet_47, y_if_ge_t, y_if_ge_f, b_X5_sheet_51, b_X5_sheet_54, q_isL_I, q_isL_R, q_isL_S, true_and, and_true, and_self, List.length_nil, List.length_cons, Nat.zero_add, x_K, x_Kn, Int.reduceToNat, Nat.reduceAdd, Nat.reduceMul, Nat.reduceLeDiff, Nat.reduceLT, Nat.zero_le, Int.reduceAdd, Int.reduceSub, Int.reduceMul, Int.reduceNeg, q_add_e, q_sub_e, q_mul_e, q_neg_e, q_upd_s, q_upd_n, zr_shr0, zr_shr1, zr_shr2, zr_shr3, zr_shr4, zr_and, zr_dyn8, zr_or, zr_shl, q_cpy_n, y_cpy26]
          exact hq
    · have eA : A_sheet s so n = -2 := by unfold A_sheet; rw [if_pos (by omega)]
      rw [eA, if_neg (by omega)] at hq
      simp (disch := omega) only [b_X5_sheet_0, x_loadI_1, y_if_eq_t, y_if_eq_f, b_X5_sheet_7, x_loadI_2, x_iconst, y_ic_lt_t, y_ic_lt_f, b_X5_sheet_12, y_ic_le_t, y_ic_le_f, b_X5_sheet_17, x_ret0, b_X5_sheet_20, y_ic_ne_t, y_ic_ne_f, b_X5_sheet_25, x_loadR_0, x_loadS_0, f_5_7, y_aald9, b_X5_sheet_38, x_loadI_3, b_X5_sheet_44, b_X5_sheet_47, y_if_ge_t, y_if_ge_f, b_X5_sheet_51, b_X5_sheet_54, q_isL_I, q_isL_R, q_isL_S, true_and, and_true, and_self, List.length_nil, List.length_cons, Nat.zero_add, x_K, x_Kn, Int.reduceToNat, Nat.reduceAdd, Nat.reduceMul, Nat.reduceLeDiff, Nat.reduceLT, Nat.zero_le, Int.reduceAdd, Int.reduceSub, Int.reduceMul, Int.reduceNeg, q_add_e, q_sub_e, q_mul_e, q_neg_e, q_upd_s, q_upd_n, zr_shr0, zr_shr1, zr_shr2, zr_shr3, zr_shr4, zr_and, zr_dyn8, zr_or, zr_shl, q_cpy_n, y_cpy26, c_X5_isSheet, sp_isSheet, c1, and_self, if_true]
      exact hq
  · have eA : A_sheet s so n = -2 := by unfold A_sheet; rw [if_pos (Or.inl c1)]
    rw [eA, if_neg (by omega)] at hq
    simp (disch := omega) only [b_X5_sheet_0, x_loadI_1, y_if_eq_t, y_if_eq_f, b_X5_sheet_7, x_loadI_2, x_iconst, y_ic_lt_t, y_ic_lt_f, b_X5_sheet_12, y_ic_le_t, y_ic_le_f, b_X5_sheet_17, x_ret0, b_X5_sheet_20, y_ic_ne_t, y_ic_ne_f, b_X5_sheet_25, x_loadR_0, x_loadS_0, f_5_7, y_aald9, b_X5_sheet_38, x_loadI_3, b_X5_sheet_44, b_X5_sheet_47, y_if_ge_t, y_if_ge_f, b_X5_sheet_51, b_X5_sheet_54, q_isL_I, q_isL_R, q_isL_S, true_and, and_true, and_self, List.length_nil, List.length_cons, Nat.zero_add, x_K, x_Kn, Int.reduceToNat, Nat.reduceAdd, Nat.reduceMul, Nat.reduceLeDiff, Nat.reduceLT, Nat.zero_le, Int.reduceAdd, Int.reduceSub, Int.reduceMul, Int.reduceNeg, q_add_e, q_sub_e, q_mul_e, q_neg_e, q_upd_s, q_upd_n, zr_shr0, zr_shr1, zr_shr2, zr_shr3, zr_shr4, zr_and, zr_dyn8, zr_or, zr_shl, q_cpy_n, y_cpy26, c_X5_isSheet, sp_isSheet, c1, if_false]
    exact hq
def A_cell (M : q_M) (s i : Int) : Int := if ¬(0 ≤ s ∧ s < 4) then -2 else if M (6 + (86 + 2 * s.toNat)) 1 = -1 then -11 else if i < 0 ∨ M (6 + (86 + 2 * s.toNat)) 2 ≤ i then -12 else 1
def q_cellM (M : q_M) (s i v : Int) : q_M := if A_cell M s i = 1 then q_upd M (6 + (86 + 2 * s.toNat) + 1) i.toNat (F_cvt (M (6 + (86 + 2 * s.toNat)) 1) v) else M
set_option maxHeartbeats 4000000 in
theorem sp_cell {d : Nat} {g : q_G} {M : q_M} {s i v : Int} {Q : Option q_V → q_G → q_M → Prop} (hs : q_shB M) (hq : Q (some (qI (A_cell M s i))) g (q_cellM M s i v)) : q_S 1 (d + 1) 94 [qR 5 0, qI s, qI i, qI v] g M Q := by
  rw [s_X5_cell]
  unfold q_cellM A_cell at hq
  by_cases c1 : 0 ≤ s ∧ s < 4
  · rw [if_neg (fun z => z c1)] at hq
    have hb := hs s.toNat (by omega)
    by_cases c2 : M (6 + (86 + 2 * s.toNat)) 1 = -1
    · rw [if_pos c2, if_neg (by omega)] at hq
      simp (disch := omega) only [b_X5_cell_0, x_loadI_1, y_if_ne_t, y_if_ne_f, b_X5_cell_7, x_iconst, x_ret0, b_X5_cell_10, x_loadR_0, x_loadS_0, f_5_7, y_aald9, y_if_eq_t, y_if_eq_f, b_X5_cell_22, b_X5_cell_25, x_loadI_2, y_if_lt_t, y_if_lt_f, b_X5_cell_29, f_2_2, y_ic_lt_t, y_ic_lt_f, b_X5_cell_42, b_X5_cell_45, x_loadI_3, q_isL_I, q_isL_R, q_isL_S, true_and, and_true, and_self, List.length_nil, List.length_cons, Nat.zero_add, x_K, x_Kn, Int.reduceToNat, Nat.reduceAdd, Nat.reduceMul, Nat.reduceLeDiff, Nat.reduceLT, Nat.zero_le, Int.reduceAdd, Int.reduceSub, Int.reduceMul, Int.reduceNeg, q_add_e, q_sub_e, q_mul_e, q_neg_e, q_upd_s, q_upd_n, zr_shr0, zr_shr1, zr_shr2, zr_shr3, zr_shr4, zr_and, zr_dyn8, zr_or, zr_shl, q_cpy_n, y_cpy26, c_X5_isSheet, sp_isSheet, c1, and_self, if_true, c_X2_isMissing, sp_isMissing, c2]
      exact hq
    · rw [if_neg c2] at hq
      by_cases c3 : i < 0
      · rw [if_pos (Or.inl c3), if_neg (by omega)] at hq
        simp (disch := omega) only [b_X5_cell_0, x_loadI_1, y_if_ne_t, y_if_ne_f, b_X5_cell_7, x_iconst, x_ret0, b_X5_cell_10, x_loadR_0, x_loadS_0, f_5_7, y_aald9, y_if_eq_t, y_if_eq_f, b_X5_cell_22, b_X5_cell_25, x_loadI_2, y_if_lt_t, y_if_lt_f, b_X5_cell_29, f_2_2, y_ic_lt_t, y_ic_lt_f, b_X5_cell_42, b_X5_cell_45, x_loadI_3, q_isL_I, q_isL_R, q_isL_S, true_and, and_true, and_self, List.length_nil, List.length_cons, Nat.zero_add, x_K, x_Kn, Int.reduceToNat, Nat.reduceAdd, Nat.reduceMul, Nat.reduceLeDiff, Nat.reduceLT, Nat.zero_le, Int.reduceAdd, Int.reduceSub, Int.reduceMul, Int.reduceNeg, q_add_e, q_sub_e, q_mul_e, q_neg_e, q_upd_s, q_upd_n, zr_shr0, zr_shr1, zr_shr2, zr_shr3, zr_shr4, zr_and, zr_dyn8, zr_or, zr_shl, q_cpy_n, y_cpy26, c_X5_isSheet, sp_isSheet, c1, and_self, if_true, c_X2_isMissing, sp_isMissing, c2, if_false]
        exact hq
      · by_cases c4 : M (6 + (86 + 2 * s.toNat)) 2 ≤ i
        · rw [if_pos (Or.inr c4), if_neg (by omega)] at hq
          simp (disch := omega) only [b_X5_cell_0, x_loadI_1, y_if_ne_t, y_if_ne_f, b_X5_cell_7, x_iconst, x_ret0, b_X5_cell_10, x_loadR_0, x_loadS_0, f_5_7, y_aald9, y_if_eq_t, y_if_eq_f, b_X5_cell_22, b_X5_cell_25, x_loadI_2, y_if_lt_t, y_if_lt_f, b_X5_cell_29, f_2_2, y_ic_lt_t, y_ic_lt_f, b_X5_cell_42, b_X5_cell_45, x_loadI_3, q_isL_I, q_isL_R, q_isL_S, true_and, and_true, and_self, List.length_nil, List.length_cons, Nat.zero_add, x_K, x_Kn, Int.reduceToNat, Nat.reduceAdd, Nat.reduceMul, Nat.reduceLeDiff, Nat.reduceLT, Nat.zero_le, Int.reduceAdd, Int.reduceSub, Int.reduceMul, Int.reduceNeg, q_add_e, q_sub_e, q_mul_e, q_neg_e, q_upd_s, q_upd_n, zr_shr0, zr_shr1, zr_shr2, zr_shr3, zr_shr4, zr_and, zr_dyn8, zr_or, zr_shl, q_cpy_n, y_cpy26, c_X5_isSheet, sp_isSheet, c1, and_self, if_true, c_X2_isMissing, sp_isMissing, c2, if_false]
          exact hq
        · rw [if_neg (by omega), if_pos rfl] at hq
          have wr : ∀ (nx : Nat) (ops : List Instr) (ls st : List q_V), (q_T 1 (d + 1) qP_X5_cell nx ops ls st g (q_upd M (6 + (86 + 2 * s.toNat) + 1) i.toNat (F_cvt (M (6 + (86 + 2 * s.toNat)) 1) v)) Q) → q_S 1 d 45 [qR 2 (6 + (86 + 2 * s.toNat)), qI i, qI v] g M (q_K 1 (d + 1) qP_X5_cell nx ops ls st Q) := fun nx ops ls st h => sp_write (by omega) (by omega) (by omega) h
          simp (disch := omega) only [b_X5_cell_0, x_loadI_1, y_if_ne_t, y_if_ne_f, b_X5_cell_7, x_iconst, x_ret0, b_X5_cell_10, x_loadR_0, x_loadS_0, f_5_7, y_aald9, y_if_eq_t, y_if_eq_f, b_X5_cell_22, b_X5_cell_25, x_loadI_2, y_if_lt_t, y_if_lt_f, b_X5_cell_29, f_2_2, y_ic_lt_t, y_ic_lt_f, b_X5_cell_42, b_X5_cell_45, x_loadI_3, q_isL_I, q_isL_R, q_isL_S, true_and, and_true, and_self, List.length_nil, List.length_cons, Nat.zero_add, x_K, x_Kn, Int.reduceToNat, Nat.reduceAdd, Nat.reduceMul, Nat.reduceLeDiff, Nat.reduceLT, Nat.zero_le, Int.reduceAdd, Int.reduceSub, Int.reduceMul, Int.reduceNeg, q_add_e, q_sub_e, q_mul_e, q_neg_e, q_upd_s, q_upd_n, zr_shr0, zr_shr1, zr_shr2, zr_shr3, zr_shr4, zr_and, zr_dyn8, zr_or, zr_shl, q_cpy_n, y_cpy26, c_X5_isSheet, sp_isSheet, c1, and_self, if_true, c_X2_isMissing, sp_isMissing, c2, if_false, c_X2_write]
          refine wr _ _ _ _ ?_
          simp (disch := omega) only [b_X5_cell_0, x_loadI_1, y_if_ne_t, y_if_ne_f, b_X5_cell_7, x_iconst, x_ret0, b_X5_cell_10, x_loadR_0, x_loadS_0, f_5_7, y_aald9, y_if_eq_t, y_if_eq_f, b_X5_cell_22, b_X5_cell_25, x_loadI_2, y_if_lt_t, y_if_lt_f, b_X5_cell_29, f_2_2, y_ic_lt_t, y_ic_lt_f, b_X5_cell_42, b_X5_cell_45, x_loadI_3, q_isL_I, q_isL_R, q_isL_S, true_and, and_true, and_self, List.length_nil, List.length_cons, Nat.zero_add, x_K, x_Kn, Int.reduceToNat, Nat.reduceAdd, Nat.reduceMul, Nat.reduceLeDiff, Nat.reduceLT, Nat.zero_le, Int.reduceAdd, Int.reduceSub, Int.reduceMul, Int.reduceNeg, q_add_e, q_sub_e, q_mul_e, q_neg_e, q_upd_s, q_upd_n, zr_shr0, zr_shr1, zr_shr2, zr_shr3, zr_shr4, zr_and, zr_dyn8, zr_or, zr_shl, q_cpy_n, y_cpy26]
          exact hq
  · rw [if_pos c1, if_neg (by omega)] at hq
    simp (disch := omega) only [b_X5_cell_0, x_loadI_1, y_if_ne_t, y_if_ne_f, b_X5_cell_7, x_iconst, x_ret0, b_X5_cell_10, x_loadR_0, x_loadS_0, f_5_7, y_aald9, y_if_eq_t, y_if_eq_f, b_X5_cell_22, b_X5_cell_25, x_loadI_2, y_if_lt_t, y_if_lt_f, b_X5_cell_29, f_2_2, y_ic_lt_t, y_ic_lt_f, b_X5_cell_42, b_X5_cell_45, x_loadI_3, q_isL_I, q_isL_R, q_isL_S, true_and, and_true, and_self, List.length_nil, List.length_cons, Nat.zero_add, x_K, x_Kn, Int.reduceToNat, Nat.reduceAdd, Nat.reduceMul, Nat.reduceLeDiff, Nat.reduceLT, Nat.zero_le, Int.reduceAdd, Int.reduceSub, Int.reduceMul, Int.reduceNeg, q_add_e, q_sub_e, q_mul_e, q_neg_e, q_upd_s, q_upd_n, zr_shr0, zr_shr1, zr_shr2, zr_shr3, zr_shr4, zr_and, zr_dyn8, zr_or, zr_shl, q_cpy_n, y_cpy26, c_X5_isSheet, sp_isSheet, c1, if_false]
    exact hq
