/-! THE MODEL, at 100: its small methods, its world in numbers -/
theorem mp_in {d : Nat} {g : q_G} {M : q_M} {v lo hi : Int} (Q : Option q_V → q_G → q_M → Prop) : q_S 1 d 110 [qI v, qI lo, qI hi] g M Q = Q (some (qI (if lo ≤ v ∧ v ≤ hi then 1 else 0))) g M := by
  rw [s_X6_in]
  by_cases h1 : lo ≤ v
  · by_cases h2 : v ≤ hi
    · rw [if_pos ⟨h1, h2⟩]
      simp (disch := omega) only [b_X6_in_0, x_loadI_0, x_loadI_1, y_ic_lt_t, y_ic_lt_f, b_X6_in_5, x_loadI_2, y_ic_gt_t, y_ic_gt_f, b_X6_in_10, x_iconst, x_goto, b_X6_in_14, b_X6_in_15, x_ret1_0, x_ret1_1, q_isL_I, q_isL_R, q_isL_S, true_and, and_true, and_self, List.length_nil, List.length_cons, Nat.zero_add, x_K, x_Kn, Int.reduceToNat, Nat.reduceAdd, Nat.reduceMul, Nat.reduceLeDiff, Nat.reduceLT, Nat.zero_le, Int.reduceAdd, Int.reduceSub, Int.reduceMul, Int.reduceNeg, q_add_e, q_sub_e, q_mul_e, q_neg_e, q_upd_s, q_upd_n, zr_shr0, zr_shr1, zr_shr2, zr_shr3, zr_shr4, zr_and, zr_dyn8, zr_or, zr_shl, q_cpy_n, y_cpy26]
    · rw [if_neg (fun z => h2 z.2)]
      simp (disch := omega) only [b_X6_in_0, x_loadI_0, x_loadI_1, y_ic_lt_t, y_ic_lt_f, b_X6_in_5, x_loadI_2, y_ic_gt_t, y_ic_gt_f, b_X6_in_10, x_iconst, x_goto, b_X6_in_14, b_X6_in_15, x_ret1_0, x_ret1_1, q_isL_I, q_isL_R, q_isL_S, true_and, and_true, and_self, List.length_nil, List.length_cons, Nat.zero_add, x_K, x_Kn, Int.reduceToNat, Nat.reduceAdd, Nat.reduceMul, Nat.reduceLeDiff, Nat.reduceLT, Nat.zero_le, Int.reduceAdd, Int.reduceSub, Int.reduceMul, Int.reduceNeg, q_add_e, q_sub_e, q_mul_e, q_neg_e, q_upd_s, q_upd_n, zr_shr0, zr_shr1, zr_shr2, zr_shr3, zr_shr4, zr_and, zr_dyn8, zr_or, zr_shl, q_cpy_n, y_cpy26]
  · rw [if_neg (fun z => h1 z.1)]
    simp (disch := omega) only [b_X6_in_0, x_loadI_0, x_loadI_1, y_ic_lt_t, y_ic_lt_f, b_X6_in_5, x_loadI_2, y_ic_gt_t, y_ic_gt_f, b_X6_in_10, x_iconst, x_goto, b_X6_in_14, b_X6_in_15, x_ret1_0, x_ret1_1, q_isL_I, q_isL_R, q_isL_S, true_and, and_true, and_self, List.length_nil, List.length_cons, Nat.zero_add, x_K, x_Kn, Int.reduceToNat, Nat.reduceAdd, Nat.reduceMul, Nat.reduceLeDiff, Nat.reduceLT, Nat.zero_le, Int.reduceAdd, Int.reduceSub, Int.reduceMul, Int.reduceNeg, q_add_e, q_sub_e, q_mul_e, q_neg_e, q_upd_s, q_upd_n, zr_shr0, zr_shr1, zr_shr2, zr_shr3, zr_shr4, zr_and, zr_dyn8, zr_or, zr_shl, q_cpy_n, y_cpy26]
theorem mp_within {d : Nat} {g : q_G} {M : q_M} {v lo hi : Int} (Q : Option q_V → q_G → q_M → Prop) : q_S 1 d 111 [qI v, qI lo, qI hi] g M Q = Q (some (qI (if v < lo then lo else if hi < v then hi else v))) g M := by
  rw [s_X6_within]
  by_cases h1 : v < lo
  · rw [if_pos h1]
    simp (disch := omega) only [b_X6_within_0, x_loadI_0, x_loadI_1, y_ic_ge_t, y_ic_ge_f, b_X6_within_5, x_goto, b_X6_within_9, x_loadI_2, y_ic_le_t, y_ic_le_f, b_X6_within_14, b_X6_within_18, b_X6_within_19, x_ret0, q_isL_I, q_isL_R, q_isL_S, true_and, and_true, and_self, List.length_nil, List.length_cons, Nat.zero_add, x_K, x_Kn, Int.reduceToNat, Nat.reduceAdd, Nat.reduceMul, Nat.reduceLeDiff, Nat.reduceLT, Nat.zero_le, Int.reduceAdd, Int.reduceSub, Int.reduceMul, Int.reduceNeg, q_add_e, q_sub_e, q_mul_e, q_neg_e, q_upd_s, q_upd_n, zr_shr0, zr_shr1, zr_shr2, zr_shr3, zr_shr4, zr_and, zr_dyn8, zr_or, zr_shl, q_cpy_n, y_cpy26]
  · rw [if_neg h1]
    by_cases h2 : hi < v
    · rw [if_pos h2]
      simp (disch := omega) only [b_X6_within_0, x_loadI_0, x_loadI_1, y_ic_ge_t, y_ic_ge_f, b_X6_within_5, x_goto, b_X6_within_9, x_loadI_2, y_ic_le_t, y_ic_le_f, b_X6_within_14, b_X6_within_18, b_X6_within_19, x_ret0, q_isL_I, q_isL_R, q_isL_S, true_and, and_true, and_self, List.length_nil, List.length_cons, Nat.zero_add, x_K, x_Kn, Int.reduceToNat, Nat.reduceAdd, Nat.reduceMul, Nat.reduceLeDiff, Nat.reduceLT, Nat.zero_le, Int.reduceAdd, Int.reduceSub, Int.reduceMul, Int.reduceNeg, q_add_e, q_sub_e, q_mul_e, q_neg_e, q_upd_s, q_upd_n, zr_shr0, zr_shr1, zr_shr2, zr_shr3, zr_shr4, zr_and, zr_dyn8, zr_or, zr_shl, q_cpy_n, y_cpy26]
    · rw [if_neg h2]
      simp (disch := omega) only [b_X6_within_0, x_loadI_0, x_loadI_1, y_ic_ge_t, y_ic_ge_f, b_X6_within_5, x_goto, b_X6_within_9, x_loadI_2, y_ic_le_t, y_ic_le_f, b_X6_within_14, b_X6_within_18, b_X6_within_19, x_ret0, q_isL_I, q_isL_R, q_isL_S, true_and, and_true, and_self, List.length_nil, List.length_cons, Nat.zero_add, x_K, x_Kn, Int.reduceToNat, Nat.reduceAdd, Nat.reduceMul, Nat.reduceLeDiff, Nat.reduceLT, Nat.zero_le, Int.reduceAdd, Int.reduceSub, Int.reduceMul, Int.reduceNeg, q_add_e, q_sub_e, q_mul_e, q_neg_e, q_upd_s, q_upd_n, zr_shr0, zr_shr1, zr_shr2, zr_shr3, zr_shr4, zr_and, zr_dyn8, zr_or, zr_shl, q_cpy_n, y_cpy26]
theorem mp_isStone {d : Nat} {g : q_G} {M : q_M} {p : Int} (h0 : 0 ≤ M 100 0) (h5 : M 100 0 ≤ 5) (Q : Option q_V → q_G → q_M → Prop) : q_S 1 (d + 1) 112 [qR 6 100, qI p] g M Q = Q (some (qI (if 0 ≤ p ∧ p ≤ M 100 0 - 1 then 1 else 0))) g M := by
  refine q_S_eq (fun Q hq => ?_) Q
  rw [s_X6_isStone]
  by_cases h : 0 ≤ p ∧ p ≤ M 100 0 - 1
  · rw [if_pos h] at hq
    simp (disch := omega) only [b_X6_isStone_0, x_loadI_1, x_iconst, x_loadR_0, x_loadS_0, f_6_0, x_isub, x_ret1_0, x_ret1_1, q_isL_I, q_isL_R, q_isL_S, true_and, and_true, and_self, List.length_nil, List.length_cons, Nat.zero_add, x_K, x_Kn, Int.reduceToNat, Nat.reduceAdd, Nat.reduceMul, Nat.reduceLeDiff, Nat.reduceLT, Nat.zero_le, Int.reduceAdd, Int.reduceSub, Int.reduceMul, Int.reduceNeg, q_add_e, q_sub_e, q_mul_e, q_neg_e, q_upd_s, q_upd_n, zr_shr0, zr_shr1, zr_shr2, zr_shr3, zr_shr4, zr_and, zr_dyn8, zr_or, zr_shl, q_cpy_n, y_cpy26, c_X6_in, mp_in, h, and_self, if_true]
    exact hq
  · rw [if_neg h] at hq
    simp (disch := omega) only [b_X6_isStone_0, x_loadI_1, x_iconst, x_loadR_0, x_loadS_0, f_6_0, x_isub, x_ret1_0, x_ret1_1, q_isL_I, q_isL_R, q_isL_S, true_and, and_true, and_self, List.length_nil, List.length_cons, Nat.zero_add, x_K, x_Kn, Int.reduceToNat, Nat.reduceAdd, Nat.reduceMul, Nat.reduceLeDiff, Nat.reduceLT, Nat.zero_le, Int.reduceAdd, Int.reduceSub, Int.reduceMul, Int.reduceNeg, q_add_e, q_sub_e, q_mul_e, q_neg_e, q_upd_s, q_upd_n, zr_shr0, zr_shr1, zr_shr2, zr_shr3, zr_shr4, zr_and, zr_dyn8, zr_or, zr_shl, q_cpy_n, y_cpy26, c_X6_in, mp_in, h, if_false]
    exact hq
theorem mp_isSite {d : Nat} {g : q_G} {M : q_M} {p : Int} (Q : Option q_V → q_G → q_M → Prop) : q_S 1 (d + 1) 113 [qI p] g M Q = Q (some (qI (if 0 ≤ p ∧ p ≤ 4 then 1 else 0))) g M := by
  refine q_S_eq (fun Q hq => ?_) Q
  rw [s_X6_isSite]
  by_cases h : 0 ≤ p ∧ p ≤ 4
  · rw [if_pos h] at hq
    simp (disch := omega) only [b_X6_isSite_0, x_loadI_0, x_iconst, x_ret1_0, x_ret1_1, q_isL_I, q_isL_R, q_isL_S, true_and, and_true, and_self, List.length_nil, List.length_cons, Nat.zero_add, x_K, x_Kn, Int.reduceToNat, Nat.reduceAdd, Nat.reduceMul, Nat.reduceLeDiff, Nat.reduceLT, Nat.zero_le, Int.reduceAdd, Int.reduceSub, Int.reduceMul, Int.reduceNeg, q_add_e, q_sub_e, q_mul_e, q_neg_e, q_upd_s, q_upd_n, zr_shr0, zr_shr1, zr_shr2, zr_shr3, zr_shr4, zr_and, zr_dyn8, zr_or, zr_shl, q_cpy_n, y_cpy26, c_X6_in, mp_in, h, and_self, if_true]
    exact hq
  · rw [if_neg h] at hq
    simp (disch := omega) only [b_X6_isSite_0, x_loadI_0, x_iconst, x_ret1_0, x_ret1_1, q_isL_I, q_isL_R, q_isL_S, true_and, and_true, and_self, List.length_nil, List.length_cons, Nat.zero_add, x_K, x_Kn, Int.reduceToNat, Nat.reduceAdd, Nat.reduceMul, Nat.reduceLeDiff, Nat.reduceLT, Nat.zero_le, Int.reduceAdd, Int.reduceSub, Int.reduceMul, Int.reduceNeg, q_add_e, q_sub_e, q_mul_e, q_neg_e, q_upd_s, q_upd_n, zr_shr0, zr_shr1, zr_shr2, zr_shr3, zr_shr4, zr_and, zr_dyn8, zr_or, zr_shl, q_cpy_n, y_cpy26, c_X6_in, mp_in, h, if_false]
    exact hq
theorem tn_30 {i : Nat} : (3 * (i : Int)).toNat = 3 * i := by omega
theorem tn_31 {i : Nat} : (3 * (i : Int) + 1).toNat = 3 * i + 1 := by omega
theorem tn_32 {i : Nat} : (3 * (i : Int) + 2).toNat = 3 * i + 2 := by omega
theorem tn_40 {i : Nat} : (4 * (i : Int)).toNat = 4 * i := by omega
theorem tn_41 {i : Nat} : (4 * (i : Int) + 1).toNat = 4 * i + 1 := by omega
theorem tn_42 {i : Nat} : (4 * (i : Int) + 2).toNat = 4 * i + 2 := by omega
theorem tn_43 {i : Nat} : (4 * (i : Int) + 3).toNat = 4 * i + 3 := by omega
theorem tn_5 {i j : Nat} : (5 * (i : Int) + (j : Int)).toNat = 5 * i + j := by omega
/-- in which building a stone of the model is: 5 none -/
def mIn (M : q_M) : Nat → Int := fun i => if M 104 (3 * i + 2) = -1 then 5 else M 104 (3 * i + 2)
def mW (M : q_M) : q_M := fun f i => match f with
  | 0 => if i < (M 100 0).toNat then M 101 i else 0
  | 1 => if i < (M 100 0).toNat then M 102 i else 0
  | 2 => if i < (M 100 0).toNat then M 104 (3 * i) else 0
  | 3 => if i < (M 100 0).toNat then M 104 (3 * i + 1) else 0
  | 4 => if i < (M 100 0).toNat then mIn M i else 0
  | 5 => if i < 5 then M 103 (4 * i) else 0
  | 6 => if i < 5 then M 103 (4 * i + 1) else 0
  | 7 => if i < 5 then M 103 (4 * i + 2) else 0
  | 8 => if i < 5 then M 103 (4 * i + 3) else 0
  | 9 => if i = 0 then M 100 0 else if i = 1 then M 100 5 else 0
  | _ => 0
theorem mW_0 {M : q_M} {i : Nat} (h : i < (M 100 0).toNat) : mW M 0 i = M 101 i := if_pos h
theorem mW_1 {M : q_M} {i : Nat} (h : i < (M 100 0).toNat) : mW M 1 i = M 102 i := if_pos h
theorem mW_2 {M : q_M} {i : Nat} (h : i < (M 100 0).toNat) : mW M 2 i = M 104 (3 * i) := if_pos h
theorem mW_3 {M : q_M} {i : Nat} (h : i < (M 100 0).toNat) : mW M 3 i = M 104 (3 * i + 1) := if_pos h
theorem mW_4 {M : q_M} {i : Nat} (h : i < (M 100 0).toNat) : mW M 4 i = mIn M i := if_pos h
theorem mW_5 {M : q_M} {i : Nat} (h : i < 5) : mW M 5 i = M 103 (4 * i) := if_pos h
theorem mW_6 {M : q_M} {i : Nat} (h : i < 5) : mW M 6 i = M 103 (4 * i + 1) := if_pos h
theorem mW_7 {M : q_M} {i : Nat} (h : i < 5) : mW M 7 i = M 103 (4 * i + 2) := if_pos h
theorem mW_8 {M : q_M} {i : Nat} (h : i < 5) : mW M 8 i = M 103 (4 * i + 3) := if_pos h
theorem mW_90 {M : q_M} : mW M 9 0 = M 100 0 := rfl
theorem mW_91 {M : q_M} : mW M 9 1 = M 100 5 := rfl
theorem mW_same {M M2 : q_M} (h : ∀ a i, ((a = 100 ∧ (i = 0 ∨ i = 5)) ∨ (101 ≤ a ∧ a ≤ 104)) → M2 a i = M a i) : mW M2 = mW M := by
  have e0 := h 100 0 (by omega)
  have e5 := h 100 5 (by omega)
  have e1 := fun i => h 101 i (by omega)
  have e2 := fun i => h 102 i (by omega)
  have e3 := fun i => h 103 i (by omega)
  have e4 := fun i => h 104 i (by omega)
  funext f i
  unfold mW mIn
  split <;> simp only [e0, e5, e1, e2, e3, e4]
/-- the model's numbers are in their bounds -/
def q_mb (M : q_M) : Prop := (0 ≤ M 100 0 ∧ M 100 0 ≤ 5) ∧ (0 ≤ M 100 5 ∧ M 100 5 ≤ 2000) ∧ (∀ i, i < 5 → 0 ≤ M 101 i ∧ M 101 i ≤ 5) ∧ (∀ i, i < 5 → 0 ≤ M 102 i ∧ M 102 i ≤ 9) ∧
  (∀ i, i < 5 → 0 ≤ M 104 (3 * i) ∧ M 104 (3 * i) ≤ 99) ∧ (∀ i, i < 5 → 0 ≤ M 104 (3 * i + 1) ∧ M 104 (3 * i + 1) ≤ 99) ∧ (∀ i, i < 5 → -1 ≤ M 104 (3 * i + 2) ∧ M 104 (3 * i + 2) ≤ 4) ∧
  (∀ i, i < 5 → 0 ≤ M 103 (4 * i) ∧ M 103 (4 * i) ≤ 99) ∧ (∀ i, i < 5 → 0 ≤ M 103 (4 * i + 1) ∧ M 103 (4 * i + 1) ≤ 6) ∧ (∀ i, i < 5 → 0 ≤ M 103 (4 * i + 2) ∧ M 103 (4 * i + 2) ≤ 99) ∧ (∀ i, i < 5 → 0 ≤ M 103 (4 * i + 3) ∧ M 103 (4 * i + 3) ≤ 99)
theorem q_mb_same {M M2 : q_M} (h : ∀ a i, ((a = 100 ∧ (i = 0 ∨ i = 5)) ∨ (101 ≤ a ∧ a ≤ 104)) → M2 a i = M a i) (hb : q_mb M) : q_mb M2 := by
  unfold q_mb at hb ⊢
  simp only [h 100 0 (by omega), h 100 5 (by omega), fun i => h 101 i (by omega), fun i => h 102 i (by omega), fun i => h 103 i (by omega), fun i => h 104 i (by omega)]
  exact hb
/-- the model's law: V is what the rule's text says -/
def q_lawN (V : Nat → (Nat → Int) → Int) (M : q_M) : Prop := ∀ M' : q_M, (∀ a i, (a = 106 ∨ a = 107) → M' a i = M a i) → M' 100 11 = M 100 11 → ∀ (d : Nat) (g : q_G) (Q : Option q_V → q_G → q_M → Prop) (part : Nat), part < 3 → (∀ M2 : q_M, (∀ a i, a ≠ 116 → M2 a i = M' a i) → Q (some (qI (V part (M' 117)))) g M2) → q_S 1 (d + 1) 135 [qR 6 100, qI part] g M' Q
def q_ml (V : Nat → (Nat → Int) → Int) (M : q_M) : Prop := q_mb M ∧ q_lawV V ∧ q_lawN V M
/-- what telling changes in the model: names and stack -/
def q_mf (M M2 : q_M) : Prop := ∀ a i, a ≠ 116 → a ≠ 117 → M2 a i = M a i
theorem q_mf_rf {M : q_M} : q_mf M M := fun _ _ _ _ => rfl
theorem q_mf_tr {M M2 M3 : q_M} (h : q_mf M M2) (h2 : q_mf M2 M3) : q_mf M M3 := fun a i h3 h4 => (h2 a i h3 h4).trans (h a i h3 h4)
theorem q_ml_same {V : Nat → (Nat → Int) → Int} {M M2 : q_M} (h : ∀ a i, ((a = 100 ∧ (i = 0 ∨ i = 5 ∨ i = 11)) ∨ (101 ≤ a ∧ a ≤ 104) ∨ a = 106 ∨ a = 107) → M2 a i = M a i) (hm : q_ml V M) : q_ml V M2 :=
  ⟨q_mb_same (fun a i ha => h a i (by omega)) hm.1, hm.2.1, fun M' h1 h2 => hm.2.2 M' (fun a i ha => (h1 a i ha).trans (h a i (by omega))) (h2.trans (h 100 11 (by omega)))⟩
theorem q_mf_ml {V : Nat → (Nat → Int) → Int} {M M2 : q_M} (h : q_mf M M2) (hm : q_ml V M) : q_ml V M2 := q_ml_same (fun a i ha => h a i (by omega) (by omega)) hm
theorem q_mf_mW {M M2 : q_M} (h : q_mf M M2) : mW M2 = mW M := mW_same (fun a i ha => h a i (by omega) (by omega))
