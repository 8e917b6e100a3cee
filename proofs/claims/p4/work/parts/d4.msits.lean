/-! THE MODEL: who sits where, by how all like and are wanted; x: in which building (5: none), who has sent whom away -/
def m_raw (v : Int) : Int := if v = 5 then -1 else if v = -1 then 5 else v
theorem m_raw_n {v : Int} (h : v ≠ 5) (h2 : v ≠ -1) : m_raw v = v := by
  unfold m_raw
  rw [if_neg h, if_neg h2]
theorem m_raw_raw {v : Int} : m_raw (m_raw v) = v := by
  unfold m_raw
  (repeat' split) <;> omega
def q_yM (M : q_M) (x : (Nat → Int) × (Nat → Int)) : q_M := fun a i => if a = 121 then (if i < 5 then m_raw (x.1 i) else M 121 i) else if a = 122 then (if i < 5 then x.2 i else M 122 i) else M a i
theorem ry_f {M : q_M} {x : (Nat → Int) × (Nat → Int)} {i : Nat} (h : i < 5) : q_yM M x 121 i = m_raw (x.1 i) := by
  unfold q_yM
  rw [if_pos rfl, if_pos h]
theorem ry_s {M : q_M} {x : (Nat → Int) × (Nat → Int)} {i : Nat} (h : i < 5) : q_yM M x 122 i = x.2 i := by
  unfold q_yM
  rw [if_neg (by omega), if_pos rfl, if_pos h]
theorem ry_n {M : q_M} {x : (Nat → Int) × (Nat → Int)} {a i : Nat} (h : a ≠ 121) (h2 : a ≠ 122) : q_yM M x a i = M a i := by
  unfold q_yM
  rw [if_neg h, if_neg h2]
theorem uy_f {M : q_M} {x : (Nat → Int) × (Nat → Int)} {p : Nat} {v w : Int} (hp : p < 5) (h : m_raw v = w) : q_upd (q_yM M x) 121 p w = q_yM M (F_u x.1 p v, x.2) := by
  funext a i
  by_cases c : a = 121 ∧ i = p
  · obtain ⟨rfl, rfl⟩ := c
    rw [q_upd_s, ry_f hp, ← h]
    exact congrArg m_raw (if_pos rfl).symm
  · rw [q_upd_n (by omega)]
    unfold q_yM F_u
    by_cases c1 : a = 121
    · rw [if_pos c1, if_pos c1]
      have c2 : i ≠ p := fun z => c ⟨c1, z⟩
      simp only [c2, if_false]
    · rw [if_neg c1, if_neg c1]
theorem uy_s {M : q_M} {x : (Nat → Int) × (Nat → Int)} {p : Nat} {v : Int} (hp : p < 5) : q_upd (q_yM M x) 122 p v = q_yM M (x.1, F_u x.2 p v) := by
  funext a i
  by_cases c : a = 122 ∧ i = p
  · obtain ⟨rfl, rfl⟩ := c
    rw [q_upd_s, ry_s hp]
    exact (if_pos rfl).symm
  · rw [q_upd_n (by omega)]
    unfold q_yM F_u
    by_cases c1 : a = 121
    · rw [if_pos c1, if_pos c1]
    · rw [if_neg c1, if_neg c1]
      by_cases c2 : a = 122
      · rw [if_pos c2, if_pos c2]
        have c3 : i ≠ p := fun z => c ⟨c2, z⟩
        simp only [c3, if_false]
      · rw [if_neg c2, if_neg c2]
/-- how the model's rows say that a stone likes a building, is wanted by it -/
def mL (M : q_M) : Nat → Nat → Int := fun p b => if b < 5 then M 119 (5 * p + b) else 0
def mWn (M : q_M) : Nat → Nat → Int := fun p b => if b < 5 then M 120 (5 * p + b) else 0
def mR (M : q_M) : Nat → Int := fun b => M 103 (4 * b + 1)
theorem mL_e {M : q_M} {p b : Nat} (h : b < 5) : mL M p b = M 119 (5 * p + b) := if_pos h
theorem mWn_e {M : q_M} {p b : Nat} (h : b < 5) : mWn M p b = M 120 (5 * p + b) := if_pos h
theorem m_raw_eq {v : Int} {b : Nat} (hb : b < 5) (hv : 0 ≤ v ∧ v ≤ 5) : m_raw v = b ↔ v = b := by
  unfold m_raw
  (repeat' split) <;> omega
def q_x5 (n : Nat) (x : (Nat → Int) × (Nat → Int)) : Prop := ∀ i, i < n → 0 ≤ x.1 i ∧ x.1 i ≤ 5
section SITS
variable {d : Nat} {g : q_G} {M : q_M} {x : (Nat → Int) × (Nat → Int)}
theorem mp_sitting {b : Nat} (hb : b < 5) (h0 : 0 ≤ M 100 0) (h5 : M 100 0 ≤ 5) (hx : q_x5 (M 100 0).toNat x) (Q : Option q_V → q_G → q_M → Prop) : q_S 1 d 160 [qR 6 100, qI b] g (q_yM M x) Q = Q (some (qI (F_cnt x.1 b (M 100 0).toNat))) g (q_yM M x) := by
  refine q_S_eq (fun Q hq => ?_) Q
  have e0 : q_yM M x 100 0 = M 100 0 := ry_n (by omega) (by omega)
  rw [s_X6_sitting]
  have loop : ∀ j k : Nat, k + j = (M 100 0).toNat → q_T 1 d qP_X6_sitting 4 [] [qR 6 100, qI b, qI (F_cnt x.1 b k), qI k] [] g (q_yM M x) Q := by
    intro j
    induction j with
    | zero =>
      intro k hk
      have e : k = (M 100 0).toNat := by omega
      rw [← e] at hq
      rw [b_X6_sitting_4]
      simp (disch := omega) only [b_X6_sitting_0, x_iconst, x_storeI_2, x_storeI_3, x_loadI_3, x_loadR_0, x_loadS_0, f_6_0, y_ic_ge_t, y_ic_ge_f, b_X6_sitting_12, x_loadI_2, f_6_33, y_iald_25, x_loadI_1, y_ic_ne_t, y_ic_ne_f, b_X6_sitting_23, x_goto, b_X6_sitting_27, b_X6_sitting_28, x_iadd, x_iinc_3, b_X6_sitting_36, x_ret0, q_isL_I, q_isL_R, q_isL_S, true_and, and_true, and_self, List.length_nil, List.length_cons, Nat.zero_add, x_K, x_Kn, Int.reduceToNat, Nat.reduceAdd, Nat.reduceMul, Nat.reduceLeDiff, Nat.reduceLT, Nat.zero_le, Int.reduceAdd, Int.reduceSub, Int.reduceMul, Int.reduceNeg, q_add_e, q_sub_e, q_mul_e, q_neg_e, q_upd_s, q_upd_n, zr_shr0, zr_shr1, zr_shr2, zr_shr3, zr_shr4, zr_and, zr_dyn8, zr_or, zr_shl, q_cpy_n, y_cpy26, e0]
      exact hq
    | succ j ih =>
      intro k hk
      have hc := F_cnt_le x.1 b k
      have hxk := hx k (by omega)
      have hr := m_raw_eq hb hxk
      have ih2 := ih (k + 1) (by omega)
      rw [F_cnt] at ih2
      rw [b_X6_sitting_4]
      by_cases c : x.1 k = b
      · rw [if_pos c] at ih2
        have c2 := hr.mpr c
        simp (disch := omega) only [b_X6_sitting_0, x_iconst, x_storeI_2, x_storeI_3, x_loadI_3, x_loadR_0, x_loadS_0, f_6_0, y_ic_ge_t, y_ic_ge_f, b_X6_sitting_12, x_loadI_2, f_6_33, y_iald_25, x_loadI_1, y_ic_ne_t, y_ic_ne_f, b_X6_sitting_23, x_goto, b_X6_sitting_27, b_X6_sitting_28, x_iadd, x_iinc_3, b_X6_sitting_36, x_ret0, q_isL_I, q_isL_R, q_isL_S, true_and, and_true, and_self, List.length_nil, List.length_cons, Nat.zero_add, x_K, x_Kn, Int.reduceToNat, Nat.reduceAdd, Nat.reduceMul, Nat.reduceLeDiff, Nat.reduceLT, Nat.zero_le, Int.reduceAdd, Int.reduceSub, Int.reduceMul, Int.reduceNeg, q_add_e, q_sub_e, q_mul_e, q_neg_e, q_upd_s, q_upd_n, zr_shr0, zr_shr1, zr_shr2, zr_shr3, zr_shr4, zr_and, zr_dyn8, zr_or, zr_shl, q_cpy_n, y_cpy26, e0, Int.toNat_natCast, ry_f]
        exact ih2
      · rw [if_neg c] at ih2
        have c2 : m_raw (x.1 k) ≠ b := fun z => c (hr.mp z)
        simp (disch := omega) only [b_X6_sitting_0, x_iconst, x_storeI_2, x_storeI_3, x_loadI_3, x_loadR_0, x_loadS_0, f_6_0, y_ic_ge_t, y_ic_ge_f, b_X6_sitting_12, x_loadI_2, f_6_33, y_iald_25, x_loadI_1, y_ic_ne_t, y_ic_ne_f, b_X6_sitting_23, x_goto, b_X6_sitting_27, b_X6_sitting_28, x_iadd, x_iinc_3, b_X6_sitting_36, x_ret0, q_isL_I, q_isL_R, q_isL_S, true_and, and_true, and_self, List.length_nil, List.length_cons, Nat.zero_add, x_K, x_Kn, Int.reduceToNat, Nat.reduceAdd, Nat.reduceMul, Nat.reduceLeDiff, Nat.reduceLT, Nat.zero_le, Int.reduceAdd, Int.reduceSub, Int.reduceMul, Int.reduceNeg, q_add_e, q_sub_e, q_mul_e, q_neg_e, q_upd_s, q_upd_n, zr_shr0, zr_shr1, zr_shr2, zr_shr3, zr_shr4, zr_and, zr_dyn8, zr_or, zr_shl, q_cpy_n, y_cpy26, e0, Int.toNat_natCast, ry_f]
        exact ih2
  simp (disch := omega) only [b_X6_sitting_0, x_iconst, x_storeI_2, x_storeI_3, x_loadI_3, x_loadR_0, x_loadS_0, f_6_0, y_ic_ge_t, y_ic_ge_f, b_X6_sitting_12, x_loadI_2, f_6_33, y_iald_25, x_loadI_1, y_ic_ne_t, y_ic_ne_f, b_X6_sitting_23, x_goto, b_X6_sitting_27, b_X6_sitting_28, x_iadd, x_iinc_3, b_X6_sitting_36, x_ret0, q_isL_I, q_isL_R, q_isL_S, true_and, and_true, and_self, List.length_nil, List.length_cons, Nat.zero_add, x_K, x_Kn, Int.reduceToNat, Nat.reduceAdd, Nat.reduceMul, Nat.reduceLeDiff, Nat.reduceLT, Nat.zero_le, Int.reduceAdd, Int.reduceSub, Int.reduceMul, Int.reduceNeg, q_add_e, q_sub_e, q_mul_e, q_neg_e, q_upd_s, q_upd_n, zr_shr0, zr_shr1, zr_shr2, zr_shr3, zr_shr4, zr_and, zr_dyn8, zr_or, zr_shl, q_cpy_n, y_cpy26]
  exact loop (M 100 0).toNat 0 (by omega)
set_option maxHeartbeats 4000000 in
theorem mp_lastSitting {b : Nat} (hb : b < 5) (h0 : 0 ≤ M 100 0) (h5 : M 100 0 ≤ 5) (hx : q_x5 (M 100 0).toNat x) (Q : Option q_V → q_G → q_M → Prop) : q_S 1 d 161 [qR 6 100, qI b] g (q_yM M x) Q = Q (some (qI (m_no (F_last x.1 (fun q => mWn M q b) b (M 100 0).toNat)))) g (q_yM M x) := by
  refine q_S_eq (fun Q hq => ?_) Q
  have e0 : q_yM M x 100 0 = M 100 0 := ry_n (by omega) (by omega)
  have eW : ∀ i, q_yM M x 120 i = M 120 i := fun i => ry_n (by omega) (by omega)
  rw [s_X6_lastSitting]
  have loop : ∀ j k : Nat, k + j = (M 100 0).toNat → ∀ l4 : q_V, q_isL l4 = false → q_T 1 d qP_X6_lastSitting 4 [] [qR 6 100, qI b, qI (m_no (F_last x.1 (fun q => mWn M q b) b k)), qI k, l4] [] g (q_yM M x) Q := by
    intro j
    induction j with
    | zero =>
      intro k hk l4 hl4
      have e : k = (M 100 0).toNat := by omega
      rw [← e] at hq
      rw [b_X6_lastSitting_4]
      simp (disch := omega) only [b_X6_lastSitting_0, x_iconst, x_storeI_2, x_storeI_3, x_loadI_3, x_loadR_0, x_loadS_0, f_6_0, y_ic_ge_t, y_ic_ge_f, b_X6_lastSitting_12, f_6_33, y_iald_25, y_iald_45, x_loadI_1, y_ic_ne_t, y_ic_ne_f, b_X6_lastSitting_22, x_loadI_2, b_X6_lastSitting_27, x_goto, b_X6_lastSitting_31, b_X6_lastSitting_32, x_storeI_4, x_loadI_4, y_if_ne_t, y_if_ne_f, b_X6_lastSitting_39, f_6_32, x_imul, x_iadd, y_ic_gt_t, y_ic_gt_f, b_X6_lastSitting_62, b_X6_lastSitting_66, b_X6_lastSitting_67, b_X6_lastSitting_69, y_if_eq_t, y_if_eq_f, b_X6_lastSitting_74, b_X6_lastSitting_78, b_X6_lastSitting_79, b_X6_lastSitting_80, x_iinc_3, b_X6_lastSitting_86, x_ret0, q_isL_I, q_isL_R, q_isL_S, true_and, and_true, and_self, List.length_nil, List.length_cons, Nat.zero_add, x_K, x_Kn, Int.reduceToNat, Nat.reduceAdd, Nat.reduceMul, Nat.reduceLeDiff, Nat.reduceLT, Nat.zero_le, Int.reduceAdd, Int.reduceSub, Int.reduceMul, Int.reduceNeg, q_add_e, q_sub_e, q_mul_e, q_neg_e, q_upd_s, q_upd_n, zr_shr0, zr_shr1, zr_shr2, zr_shr3, zr_shr4, zr_and, zr_dyn8, zr_or, zr_shl, q_cpy_n, y_cpy26, e0]
      exact hq
    | succ j ih =>
      intro k hk l4 hl4
      have hxk := hx k (by omega)
      have hr := m_raw_eq hb hxk
      have h1 := F_last_1 x.1 (fun q => mWn M q b) b k
      have ih2 := ih (k + 1) (by omega)
      rw [F_last] at ih2
      have ek : m_no k = (k : Int) := if_neg (by omega)
      rw [b_X6_lastSitting_4]
      generalize F_last x.1 (fun q => mWn M q b) b k = F at h1 ih2 ⊢
      by_cases c : x.1 k = b
      · have c2 := hr.mpr c
        by_cases c5 : F = 5
        · subst c5
          rw [if_pos ⟨c, Or.inl rfl⟩] at ih2
          simp only [ek] at ih2
          simp (disch := omega) only [b_X6_lastSitting_0, x_iconst, x_storeI_2, x_storeI_3, x_loadI_3, x_loadR_0, x_loadS_0, f_6_0, y_ic_ge_t, y_ic_ge_f, b_X6_lastSitting_12, f_6_33, y_iald_25, y_iald_45, x_loadI_1, y_ic_ne_t, y_ic_ne_f, b_X6_lastSitting_22, x_loadI_2, b_X6_lastSitting_27, x_goto, b_X6_lastSitting_31, b_X6_lastSitting_32, x_storeI_4, x_loadI_4, y_if_ne_t, y_if_ne_f, b_X6_lastSitting_39, f_6_32, x_imul, x_iadd, y_ic_gt_t, y_ic_gt_f, b_X6_lastSitting_62, b_X6_lastSitting_66, b_X6_lastSitting_67, b_X6_lastSitting_69, y_if_eq_t, y_if_eq_f, b_X6_lastSitting_74, b_X6_lastSitting_78, b_X6_lastSitting_79, b_X6_lastSitting_80, x_iinc_3, b_X6_lastSitting_86, x_ret0, q_isL_I, q_isL_R, q_isL_S, true_and, and_true, and_self, List.length_nil, List.length_cons, Nat.zero_add, x_K, x_Kn, Int.reduceToNat, Nat.reduceAdd, Nat.reduceMul, Nat.reduceLeDiff, Nat.reduceLT, Nat.zero_le, Int.reduceAdd, Int.reduceSub, Int.reduceMul, Int.reduceNeg, q_add_e, q_sub_e, q_mul_e, q_neg_e, q_upd_s, q_upd_n, zr_shr0, zr_shr1, zr_shr2, zr_shr3, zr_shr4, zr_and, zr_dyn8, zr_or, zr_shl, q_cpy_n, y_cpy26, e0, Int.toNat_natCast, ry_f, m_no, if_true, hl4]
          exact ih2 _ rfl
        · have em : m_no F = (F : Int) := if_neg c5
          have w1 : mWn M k b = M 120 (5 * k + b) := mWn_e hb
          have w2 : mWn M F b = M 120 (5 * F + b) := mWn_e hb
          by_cases cw : mWn M k b ≤ mWn M F b
          · rw [if_pos ⟨c, Or.inr cw⟩] at ih2
            simp only [ek] at ih2
            simp (disch := omega) only [b_X6_lastSitting_0, x_iconst, x_storeI_2, x_storeI_3, x_loadI_3, x_loadR_0, x_loadS_0, f_6_0, y_ic_ge_t, y_ic_ge_f, b_X6_lastSitting_12, f_6_33, y_iald_25, y_iald_45, x_loadI_1, y_ic_ne_t, y_ic_ne_f, b_X6_lastSitting_22, x_loadI_2, b_X6_lastSitting_27, x_goto, b_X6_lastSitting_31, b_X6_lastSitting_32, x_storeI_4, x_loadI_4, y_if_ne_t, y_if_ne_f, b_X6_lastSitting_39, f_6_32, x_imul, x_iadd, y_ic_gt_t, y_ic_gt_f, b_X6_lastSitting_62, b_X6_lastSitting_66, b_X6_lastSitting_67, b_X6_lastSitting_69, y_if_eq_t, y_if_eq_f, b_X6_lastSitting_74, b_X6_lastSitting_78, b_X6_lastSitting_79, b_X6_lastSitting_80, x_iinc_3, b_X6_lastSitting_86, x_ret0, q_isL_I, q_isL_R, q_isL_S, true_and, and_true, and_self, List.length_nil, List.length_cons, Nat.zero_add, x_K, x_Kn, Int.reduceToNat, Nat.reduceAdd, Nat.reduceMul, Nat.reduceLeDiff, Nat.reduceLT, Nat.zero_le, Int.reduceAdd, Int.reduceSub, Int.reduceMul, Int.reduceNeg, q_add_e, q_sub_e, q_mul_e, q_neg_e, q_upd_s, q_upd_n, zr_shr0, zr_shr1, zr_shr2, zr_shr3, zr_shr4, zr_and, zr_dyn8, zr_or, zr_shl, q_cpy_n, y_cpy26, e0, Int.toNat_natCast, ry_f, em, hl4, tn_5, eW]
            exact ih2 _ rfl
          · rw [if_neg (fun z => z.2.elim c5 cw)] at ih2
            simp (disch := omega) only [b_X6_lastSitting_0, x_iconst, x_storeI_2, x_storeI_3, x_loadI_3, x_loadR_0, x_loadS_0, f_6_0, y_ic_ge_t, y_ic_ge_f, b_X6_lastSitting_12, f_6_33, y_iald_25, y_iald_45, x_loadI_1, y_ic_ne_t, y_ic_ne_f, b_X6_lastSitting_22, x_loadI_2, b_X6_lastSitting_27, x_goto, b_X6_lastSitting_31, b_X6_lastSitting_32, x_storeI_4, x_loadI_4, y_if_ne_t, y_if_ne_f, b_X6_lastSitting_39, f_6_32, x_imul, x_iadd, y_ic_gt_t, y_ic_gt_f, b_X6_lastSitting_62, b_X6_lastSitting_66, b_X6_lastSitting_67, b_X6_lastSitting_69, y_if_eq_t, y_if_eq_f, b_X6_lastSitting_74, b_X6_lastSitting_78, b_X6_lastSitting_79, b_X6_lastSitting_80, x_iinc_3, b_X6_lastSitting_86, x_ret0, q_isL_I, q_isL_R, q_isL_S, true_and, and_true, and_self, List.length_nil, List.length_cons, Nat.zero_add, x_K, x_Kn, Int.reduceToNat, Nat.reduceAdd, Nat.reduceMul, Nat.reduceLeDiff, Nat.reduceLT, Nat.zero_le, Int.reduceAdd, Int.reduceSub, Int.reduceMul, Int.reduceNeg, q_add_e, q_sub_e, q_mul_e, q_neg_e, q_upd_s, q_upd_n, zr_shr0, zr_shr1, zr_shr2, zr_shr3, zr_shr4, zr_and, zr_dyn8, zr_or, zr_shl, q_cpy_n, y_cpy26, e0, Int.toNat_natCast, ry_f, em, hl4, tn_5, eW]
            rw [em] at ih2
            exact ih2 _ rfl
      · rw [if_neg (fun z => c z.1)] at ih2
        have c2 : m_raw (x.1 k) ≠ b := fun z => c (hr.mp z)
        simp (disch := omega) only [b_X6_lastSitting_0, x_iconst, x_storeI_2, x_storeI_3, x_loadI_3, x_loadR_0, x_loadS_0, f_6_0, y_ic_ge_t, y_ic_ge_f, b_X6_lastSitting_12, f_6_33, y_iald_25, y_iald_45, x_loadI_1, y_ic_ne_t, y_ic_ne_f, b_X6_lastSitting_22, x_loadI_2, b_X6_lastSitting_27, x_goto, b_X6_lastSitting_31, b_X6_lastSitting_32, x_storeI_4, x_loadI_4, y_if_ne_t, y_if_ne_f, b_X6_lastSitting_39, f_6_32, x_imul, x_iadd, y_ic_gt_t, y_ic_gt_f, b_X6_lastSitting_62, b_X6_lastSitting_66, b_X6_lastSitting_67, b_X6_lastSitting_69, y_if_eq_t, y_if_eq_f, b_X6_lastSitting_74, b_X6_lastSitting_78, b_X6_lastSitting_79, b_X6_lastSitting_80, x_iinc_3, b_X6_lastSitting_86, x_ret0, q_isL_I, q_isL_R, q_isL_S, true_and, and_true, and_self, List.length_nil, List.length_cons, Nat.zero_add, x_K, x_Kn, Int.reduceToNat, Nat.reduceAdd, Nat.reduceMul, Nat.reduceLeDiff, Nat.reduceLT, Nat.zero_le, Int.reduceAdd, Int.reduceSub, Int.reduceMul, Int.reduceNeg, q_add_e, q_sub_e, q_mul_e, q_neg_e, q_upd_s, q_upd_n, zr_shr0, zr_shr1, zr_shr2, zr_shr3, zr_shr4, zr_and, zr_dyn8, zr_or, zr_shl, q_cpy_n, y_cpy26, e0, Int.toNat_natCast, ry_f, hl4]
        exact ih2 _ hl4
  simp (disch := omega) only [b_X6_lastSitting_0, x_iconst, x_storeI_2, x_storeI_3, x_loadI_3, x_loadR_0, x_loadS_0, f_6_0, y_ic_ge_t, y_ic_ge_f, b_X6_lastSitting_12, f_6_33, y_iald_25, y_iald_45, x_loadI_1, y_ic_ne_t, y_ic_ne_f, b_X6_lastSitting_22, x_loadI_2, b_X6_lastSitting_27, x_goto, b_X6_lastSitting_31, b_X6_lastSitting_32, x_storeI_4, x_loadI_4, y_if_ne_t, y_if_ne_f, b_X6_lastSitting_39, f_6_32, x_imul, x_iadd, y_ic_gt_t, y_ic_gt_f, b_X6_lastSitting_62, b_X6_lastSitting_66, b_X6_lastSitting_67, b_X6_lastSitting_69, y_if_eq_t, y_if_eq_f, b_X6_lastSitting_74, b_X6_lastSitting_78, b_X6_lastSitting_79, b_X6_lastSitting_80, x_iinc_3, b_X6_lastSitting_86, x_ret0, q_isL_I, q_isL_R, q_isL_S, true_and, and_true, and_self, List.length_nil, List.length_cons, Nat.zero_add, x_K, x_Kn, Int.reduceToNat, Nat.reduceAdd, Nat.reduceMul, Nat.reduceLeDiff, Nat.reduceLT, Nat.zero_le, Int.reduceAdd, Int.reduceSub, Int.reduceMul, Int.reduceNeg, q_add_e, q_sub_e, q_mul_e, q_neg_e, q_upd_s, q_upd_n, zr_shr0, zr_shr1, zr_shr2, zr_shr3, zr_shr4, zr_and, zr_dyn8, zr_or, zr_shl, q_cpy_n, y_cpy26]
  exact loop (M 100 0).toNat 0 (by omega) _ rfl
set_option maxHeartbeats 4000000 in
theorem mp_wouldTake {b p : Nat} (hb : b < 5) (hp : p < 5) (h0 : 0 ≤ M 100 0) (h5 : M 100 0 ≤ 5) (hx : q_x5 (M 100 0).toNat x) (Q : Option q_V → q_G → q_M → Prop) : q_S 1 (d + 1) 162 [qR 6 100, qI b, qI p] g (q_yM M x) Q = Q (some (qI (if F_takes x.1 (fun q => mWn M q b) (mR M b) b (M 100 0).toNat p = true then 1 else 0))) g (q_yM M x) := by
  refine q_S_eq (fun Q hq => ?_) Q
  have e0 : q_yM M x 100 0 = M 100 0 := ry_n (by omega) (by omega)
  have eW : ∀ i, q_yM M x 120 i = M 120 i := fun i => ry_n (by omega) (by omega)
  have eR : q_yM M x 103 (4 * b + 1) = mR M b := ry_n (by omega) (by omega)
  have h1 := F_last_1 x.1 (fun q => mWn M q b) b (M 100 0).toNat
  rw [s_X6_wouldTake]
  unfold F_takes at hq
  by_cases c1 : F_cnt x.1 b (M 100 0).toNat < mR M b
  · rw [if_pos c1, if_pos rfl] at hq
    simp (disch := omega) only [b_X6_wouldTake_0, x_loadR_0, x_loadS_0, x_loadI_1, f_6_3, x_iconst, x_imul, x_iadd, y_iald_40, y_iald_45, y_ic_ge_t, y_ic_ge_f, b_X6_wouldTake_18, x_ret1_0, x_ret1_1, b_X6_wouldTake_20, x_storeI_3, x_loadI_3, y_ic_ne_t, y_ic_ne_f, b_X6_wouldTake_31, b_X6_wouldTake_33, f_6_32, x_loadI_2, x_storeI_4, x_storeI_5, x_loadI_4, x_loadI_5, y_ic_gt_t, y_ic_gt_f, b_X6_wouldTake_64, b_X6_wouldTake_71, b_X6_wouldTake_76, x_goto, b_X6_wouldTake_80, b_X6_wouldTake_81, q_isL_I, q_isL_R, q_isL_S, true_and, and_true, and_self, List.length_nil, List.length_cons, Nat.zero_add, x_K, x_Kn, Int.reduceToNat, Nat.reduceAdd, Nat.reduceMul, Nat.reduceLeDiff, Nat.reduceLT, Nat.zero_le, Int.reduceAdd, Int.reduceSub, Int.reduceMul, Int.reduceNeg, q_add_e, q_sub_e, q_mul_e, q_neg_e, q_upd_s, q_upd_n, zr_shr0, zr_shr1, zr_shr2, zr_shr3, zr_shr4, zr_and, zr_dyn8, zr_or, zr_shl, q_cpy_n, y_cpy26, c_X6_sitting, mp_sitting, hx, tn_41, eR]
    exact hq
  · rw [if_neg c1] at hq
    simp (disch := omega) only [b_X6_wouldTake_0, x_loadR_0, x_loadS_0, x_loadI_1, f_6_3, x_iconst, x_imul, x_iadd, y_iald_40, y_iald_45, y_ic_ge_t, y_ic_ge_f, b_X6_wouldTake_18, x_ret1_0, x_ret1_1, b_X6_wouldTake_20, x_storeI_3, x_loadI_3, y_ic_ne_t, y_ic_ne_f, b_X6_wouldTake_31, b_X6_wouldTake_33, f_6_32, x_loadI_2, x_storeI_4, x_storeI_5, x_loadI_4, x_loadI_5, y_ic_gt_t, y_ic_gt_f, b_X6_wouldTake_64, b_X6_wouldTake_71, b_X6_wouldTake_76, x_goto, b_X6_wouldTake_80, b_X6_wouldTake_81, q_isL_I, q_isL_R, q_isL_S, true_and, and_true, and_self, List.length_nil, List.length_cons, Nat.zero_add, x_K, x_Kn, Int.reduceToNat, Nat.reduceAdd, Nat.reduceMul, Nat.reduceLeDiff, Nat.reduceLT, Nat.zero_le, Int.reduceAdd, Int.reduceSub, Int.reduceMul, Int.reduceNeg, q_add_e, q_sub_e, q_mul_e, q_neg_e, q_upd_s, q_upd_n, zr_shr0, zr_shr1, zr_shr2, zr_shr3, zr_shr4, zr_and, zr_dyn8, zr_or, zr_shl, q_cpy_n, y_cpy26, c_X6_sitting, mp_sitting, hx, tn_41, eR, c_X6_lastSitting, mp_lastSitting]
    generalize F_last x.1 (fun q => mWn M q b) b (M 100 0).toNat = F at h1 hq ⊢
    by_cases c5 : F = 5
    · subst c5
      rw [if_pos rfl, if_neg (by decide)] at hq
      simp (disch := omega) only [b_X6_wouldTake_0, x_loadR_0, x_loadS_0, x_loadI_1, f_6_3, x_iconst, x_imul, x_iadd, y_iald_40, y_iald_45, y_ic_ge_t, y_ic_ge_f, b_X6_wouldTake_18, x_ret1_0, x_ret1_1, b_X6_wouldTake_20, x_storeI_3, x_loadI_3, y_ic_ne_t, y_ic_ne_f, b_X6_wouldTake_31, b_X6_wouldTake_33, f_6_32, x_loadI_2, x_storeI_4, x_storeI_5, x_loadI_4, x_loadI_5, y_ic_gt_t, y_ic_gt_f, b_X6_wouldTake_64, b_X6_wouldTake_71, b_X6_wouldTake_76, x_goto, b_X6_wouldTake_80, b_X6_wouldTake_81, q_isL_I, q_isL_R, q_isL_S, true_and, and_true, and_self, List.length_nil, List.length_cons, Nat.zero_add, x_K, x_Kn, Int.reduceToNat, Nat.reduceAdd, Nat.reduceMul, Nat.reduceLeDiff, Nat.reduceLT, Nat.zero_le, Int.reduceAdd, Int.reduceSub, Int.reduceMul, Int.reduceNeg, q_add_e, q_sub_e, q_mul_e, q_neg_e, q_upd_s, q_upd_n, zr_shr0, zr_shr1, zr_shr2, zr_shr3, zr_shr4, zr_and, zr_dyn8, zr_or, zr_shl, q_cpy_n, y_cpy26, m_no, if_true]
      exact hq
    · have em : m_no F = (F : Int) := if_neg c5
      have w1 : mWn M p b = M 120 (5 * p + b) := mWn_e hb
      have w2 : mWn M F b = M 120 (5 * F + b) := mWn_e hb
      rw [if_neg c5] at hq
      by_cases c6 : mWn M F b < mWn M p b ∨ (mWn M p b = mWn M F b ∧ p < F)
      · rw [if_pos (decide_eq_true c6)] at hq
        rcases c6 with c7 | ⟨c7, c8⟩
        · simp (disch := omega) only [b_X6_wouldTake_0, x_loadR_0, x_loadS_0, x_loadI_1, f_6_3, x_iconst, x_imul, x_iadd, y_iald_40, y_iald_45, y_ic_ge_t, y_ic_ge_f, b_X6_wouldTake_18, x_ret1_0, x_ret1_1, b_X6_wouldTake_20, x_storeI_3, x_loadI_3, y_ic_ne_t, y_ic_ne_f, b_X6_wouldTake_31, b_X6_wouldTake_33, f_6_32, x_loadI_2, x_storeI_4, x_storeI_5, x_loadI_4, x_loadI_5, y_ic_gt_t, y_ic_gt_f, b_X6_wouldTake_64, b_X6_wouldTake_71, b_X6_wouldTake_76, x_goto, b_X6_wouldTake_80, b_X6_wouldTake_81, q_isL_I, q_isL_R, q_isL_S, true_and, and_true, and_self, List.length_nil, List.length_cons, Nat.zero_add, x_K, x_Kn, Int.reduceToNat, Nat.reduceAdd, Nat.reduceMul, Nat.reduceLeDiff, Nat.reduceLT, Nat.zero_le, Int.reduceAdd, Int.reduceSub, Int.reduceMul, Int.reduceNeg, q_add_e, q_sub_e, q_mul_e, q_neg_e, q_upd_s, q_upd_n, zr_shr0, zr_shr1, zr_shr2, zr_shr3, zr_shr4, zr_and, zr_dyn8, zr_or, zr_shl, q_cpy_n, y_cpy26, em, tn_5, eW]
          exact hq
        · simp (disch := omega) only [b_X6_wouldTake_0, x_loadR_0, x_loadS_0, x_loadI_1, f_6_3, x_iconst, x_imul, x_iadd, y_iald_40, y_iald_45, y_ic_ge_t, y_ic_ge_f, b_X6_wouldTake_18, x_ret1_0, x_ret1_1, b_X6_wouldTake_20, x_storeI_3, x_loadI_3, y_ic_ne_t, y_ic_ne_f, b_X6_wouldTake_31, b_X6_wouldTake_33, f_6_32, x_loadI_2, x_storeI_4, x_storeI_5, x_loadI_4, x_loadI_5, y_ic_gt_t, y_ic_gt_f, b_X6_wouldTake_64, b_X6_wouldTake_71, b_X6_wouldTake_76, x_goto, b_X6_wouldTake_80, b_X6_wouldTake_81, q_isL_I, q_isL_R, q_isL_S, true_and, and_true, and_self, List.length_nil, List.length_cons, Nat.zero_add, x_K, x_Kn, Int.reduceToNat, Nat.reduceAdd, Nat.reduceMul, Nat.reduceLeDiff, Nat.reduceLT, Nat.zero_le, Int.reduceAdd, Int.reduceSub, Int.reduceMul, Int.reduceNeg, q_add_e, q_sub_e, q_mul_e, q_neg_e, q_upd_s, q_upd_n, zr_shr0, zr_shr1, zr_shr2, zr_shr3, zr_shr4, zr_and, zr_dyn8, zr_or, zr_shl, q_cpy_n, y_cpy26, em, tn_5, eW]
          exact hq
      · rw [if_neg (fun z => c6 (of_decide_eq_true z))] at hq
        by_cases c7 : mWn M p b = mWn M F b
        · simp (disch := omega) only [b_X6_wouldTake_0, x_loadR_0, x_loadS_0, x_loadI_1, f_6_3, x_iconst, x_imul, x_iadd, y_iald_40, y_iald_45, y_ic_ge_t, y_ic_ge_f, b_X6_wouldTake_18, x_ret1_0, x_ret1_1, b_X6_wouldTake_20, x_storeI_3, x_loadI_3, y_ic_ne_t, y_ic_ne_f, b_X6_wouldTake_31, b_X6_wouldTake_33, f_6_32, x_loadI_2, x_storeI_4, x_storeI_5, x_loadI_4, x_loadI_5, y_ic_gt_t, y_ic_gt_f, b_X6_wouldTake_64, b_X6_wouldTake_71, b_X6_wouldTake_76, x_goto, b_X6_wouldTake_80, b_X6_wouldTake_81, q_isL_I, q_isL_R, q_isL_S, true_and, and_true, and_self, List.length_nil, List.length_cons, Nat.zero_add, x_K, x_Kn, Int.reduceToNat, Nat.reduceAdd, Nat.reduceMul, Nat.reduceLeDiff, Nat.reduceLT, Nat.zero_le, Int.reduceAdd, Int.reduceSub, Int.reduceMul, Int.reduceNeg, q_add_e, q_sub_e, q_mul_e, q_neg_e, q_upd_s, q_upd_n, zr_shr0, zr_shr1, zr_shr2, zr_shr3, zr_shr4, zr_and, zr_dyn8, zr_or, zr_shl, q_cpy_n, y_cpy26, em, tn_5, eW]
          exact hq
        · simp (disch := omega) only [b_X6_wouldTake_0, x_loadR_0, x_loadS_0, x_loadI_1, f_6_3, x_iconst, x_imul, x_iadd, y_iald_40, y_iald_45, y_ic_ge_t, y_ic_ge_f, b_X6_wouldTake_18, x_ret1_0, x_ret1_1, b_X6_wouldTake_20, x_storeI_3, x_loadI_3, y_ic_ne_t, y_ic_ne_f, b_X6_wouldTake_31, b_X6_wouldTake_33, f_6_32, x_loadI_2, x_storeI_4, x_storeI_5, x_loadI_4, x_loadI_5, y_ic_gt_t, y_ic_gt_f, b_X6_wouldTake_64, b_X6_wouldTake_71, b_X6_wouldTake_76, x_goto, b_X6_wouldTake_80, b_X6_wouldTake_81, q_isL_I, q_isL_R, q_isL_S, true_and, and_true, and_self, List.length_nil, List.length_cons, Nat.zero_add, x_K, x_Kn, Int.reduceToNat, Nat.reduceAdd, Nat.reduceMul, Nat.reduceLeDiff, Nat.reduceLT, Nat.zero_le, Int.reduceAdd, Int.reduceSub, Int.reduceMul, Int.reduceNeg, q_add_e, q_sub_e, q_mul_e, q_neg_e, q_upd_s, q_upd_n, zr_shr0, zr_shr1, zr_shr2, zr_shr3, zr_shr4, zr_and, zr_dyn8, zr_or, zr_shl, q_cpy_n, y_cpy26, em, tn_5, eW]
          exact hq
set_option maxHeartbeats 4000000 in
theorem mp_wouldRather {b p : Nat} (hb : b < 5) (hp : p < (M 100 0).toNat) (h5 : M 100 0 ≤ 5) (hx : q_x5 (M 100 0).toNat x) (Q : Option q_V → q_G → q_M → Prop) : q_S 1 d 163 [qR 6 100, qI p, qI b] g (q_yM M x) Q = Q (some (qI (if F_rth (mL M p) b (x.1 p).toNat = true then 1 else 0))) g (q_yM M x) := by
  refine q_S_eq (fun Q hq => ?_) Q
  have eL : ∀ i, q_yM M x 119 i = M 119 i := fun i => ry_n (by omega) (by omega)
  have hxp := hx p hp
  have l1 : mL M p b = M 119 (5 * p + b) := mL_e hb
  rw [s_X6_wouldRather]
  unfold F_rth at hq
  by_cases c0 : 0 < mL M p b
  · by_cases c5 : x.1 p = 5
    · have c6 : mL M p (x.1 p).toNat = 0 := by rw [c5]; rfl
      rw [if_pos (decide_eq_true ⟨c0, Or.inl (by omega)⟩)] at hq
      have er : m_raw (x.1 p) = -1 := if_pos c5
      simp (disch := omega) only [b_X6_wouldRather_0, x_loadR_0, x_loadS_0, f_6_31, x_iconst, x_loadI_1, x_imul, x_loadI_2, x_iadd, y_iald_25, y_iald_45, x_storeI_3, f_6_33, x_storeI_4, x_loadI_3, y_if_le_t, y_if_le_f, b_X6_wouldRather_23, x_loadI_4, y_ic_ne_t, y_ic_ne_f, b_X6_wouldRather_29, x_ret1_0, x_ret1_1, b_X6_wouldRather_31, b_X6_wouldRather_37, b_X6_wouldRather_39, x_storeI_5, x_loadI_5, y_ic_gt_t, y_ic_gt_f, b_X6_wouldRather_58, b_X6_wouldRather_64, y_ic_ge_t, y_ic_ge_f, b_X6_wouldRather_70, x_goto, b_X6_wouldRather_74, b_X6_wouldRather_75, q_isL_I, q_isL_R, q_isL_S, true_and, and_true, and_self, List.length_nil, List.length_cons, Nat.zero_add, x_K, x_Kn, Int.reduceToNat, Nat.reduceAdd, Nat.reduceMul, Nat.reduceLeDiff, Nat.reduceLT, Nat.zero_le, Int.reduceAdd, Int.reduceSub, Int.reduceMul, Int.reduceNeg, q_add_e, q_sub_e, q_mul_e, q_neg_e, q_upd_s, q_upd_n, zr_shr0, zr_shr1, zr_shr2, zr_shr3, zr_shr4, zr_and, zr_dyn8, zr_or, zr_shl, q_cpy_n, y_cpy26, Int.toNat_natCast, tn_5, eL, ry_f, er]
      exact hq
    · obtain ⟨F, hF⟩ : ∃ F : Nat, x.1 p = F := ⟨(x.1 p).toNat, by omega⟩
      have hF5 : F < 5 := by omega
      have er : m_raw (F : Int) = F := m_raw_n (by omega) (by omega)
      rw [hF, Int.toNat_natCast] at hq
      have l2 : mL M p F = M 119 (5 * p + F) := mL_e hF5
      by_cases c7 : F = b
      · rw [if_neg (fun z => by have := of_decide_eq_true z; rw [c7] at this; omega)] at hq
        simp (disch := omega) only [b_X6_wouldRather_0, x_loadR_0, x_loadS_0, f_6_31, x_iconst, x_loadI_1, x_imul, x_loadI_2, x_iadd, y_iald_25, y_iald_45, x_storeI_3, f_6_33, x_storeI_4, x_loadI_3, y_if_le_t, y_if_le_f, b_X6_wouldRather_23, x_loadI_4, y_ic_ne_t, y_ic_ne_f, b_X6_wouldRather_29, x_ret1_0, x_ret1_1, b_X6_wouldRather_31, b_X6_wouldRather_37, b_X6_wouldRather_39, x_storeI_5, x_loadI_5, y_ic_gt_t, y_ic_gt_f, b_X6_wouldRather_58, b_X6_wouldRather_64, y_ic_ge_t, y_ic_ge_f, b_X6_wouldRather_70, x_goto, b_X6_wouldRather_74, b_X6_wouldRather_75, q_isL_I, q_isL_R, q_isL_S, true_and, and_true, and_self, List.length_nil, List.length_cons, Nat.zero_add, x_K, x_Kn, Int.reduceToNat, Nat.reduceAdd, Nat.reduceMul, Nat.reduceLeDiff, Nat.reduceLT, Nat.zero_le, Int.reduceAdd, Int.reduceSub, Int.reduceMul, Int.reduceNeg, q_add_e, q_sub_e, q_mul_e, q_neg_e, q_upd_s, q_upd_n, zr_shr0, zr_shr1, zr_shr2, zr_shr3, zr_shr4, zr_and, zr_dyn8, zr_or, zr_shl, q_cpy_n, y_cpy26, Int.toNat_natCast, tn_5, eL, ry_f, er, hF]
        exact hq
      · by_cases c8 : mL M p F < mL M p b ∨ (mL M p b = mL M p F ∧ b < F)
        · rw [if_pos (decide_eq_true ⟨c0, c8⟩)] at hq
          rcases c8 with c9 | ⟨c9, c10⟩
          · simp (disch := omega) only [b_X6_wouldRather_0, x_loadR_0, x_loadS_0, f_6_31, x_iconst, x_loadI_1, x_imul, x_loadI_2, x_iadd, y_iald_25, y_iald_45, x_storeI_3, f_6_33, x_storeI_4, x_loadI_3, y_if_le_t, y_if_le_f, b_X6_wouldRather_23, x_loadI_4, y_ic_ne_t, y_ic_ne_f, b_X6_wouldRather_29, x_ret1_0, x_ret1_1, b_X6_wouldRather_31, b_X6_wouldRather_37, b_X6_wouldRather_39, x_storeI_5, x_loadI_5, y_ic_gt_t, y_ic_gt_f, b_X6_wouldRather_58, b_X6_wouldRather_64, y_ic_ge_t, y_ic_ge_f, b_X6_wouldRather_70, x_goto, b_X6_wouldRather_74, b_X6_wouldRather_75, q_isL_I, q_isL_R, q_isL_S, true_and, and_true, and_self, List.length_nil, List.length_cons, Nat.zero_add, x_K, x_Kn, Int.reduceToNat, Nat.reduceAdd, Nat.reduceMul, Nat.reduceLeDiff, Nat.reduceLT, Nat.zero_le, Int.reduceAdd, Int.reduceSub, Int.reduceMul, Int.reduceNeg, q_add_e, q_sub_e, q_mul_e, q_neg_e, q_upd_s, q_upd_n, zr_shr0, zr_shr1, zr_shr2, zr_shr3, zr_shr4, zr_and, zr_dyn8, zr_or, zr_shl, q_cpy_n, y_cpy26, Int.toNat_natCast, tn_5, eL, ry_f, er, hF]
            exact hq
          · simp (disch := omega) only [b_X6_wouldRather_0, x_loadR_0, x_loadS_0, f_6_31, x_iconst, x_loadI_1, x_imul, x_loadI_2, x_iadd, y_iald_25, y_iald_45, x_storeI_3, f_6_33, x_storeI_4, x_loadI_3, y_if_le_t, y_if_le_f, b_X6_wouldRather_23, x_loadI_4, y_ic_ne_t, y_ic_ne_f, b_X6_wouldRather_29, x_ret1_0, x_ret1_1, b_X6_wouldRather_31, b_X6_wouldRather_37, b_X6_wouldRather_39, x_storeI_5, x_loadI_5, y_ic_gt_t, y_ic_gt_f, b_X6_wouldRather_58, b_X6_wouldRather_64, y_ic_ge_t, y_ic_ge_f, b_X6_wouldRather_70, x_goto, b_X6_wouldRather_74, b_X6_wouldRather_75, q_isL_I, q_isL_R, q_isL_S, true_and, and_true, and_self, List.length_nil, List.length_cons, Nat.zero_add, x_K, x_Kn, Int.reduceToNat, Nat.reduceAdd, Nat.reduceMul, Nat.reduceLeDiff, Nat.reduceLT, Nat.zero_le, Int.reduceAdd, Int.reduceSub, Int.reduceMul, Int.reduceNeg, q_add_e, q_sub_e, q_mul_e, q_neg_e, q_upd_s, q_upd_n, zr_shr0, zr_shr1, zr_shr2, zr_shr3, zr_shr4, zr_and, zr_dyn8, zr_or, zr_shl, q_cpy_n, y_cpy26, Int.toNat_natCast, tn_5, eL, ry_f, er, hF]
            exact hq
        · rw [if_neg (fun z => c8 (of_decide_eq_true z).2)] at hq
          by_cases c9 : mL M p b = mL M p F
          · simp (disch := omega) only [b_X6_wouldRather_0, x_loadR_0, x_loadS_0, f_6_31, x_iconst, x_loadI_1, x_imul, x_loadI_2, x_iadd, y_iald_25, y_iald_45, x_storeI_3, f_6_33, x_storeI_4, x_loadI_3, y_if_le_t, y_if_le_f, b_X6_wouldRather_23, x_loadI_4, y_ic_ne_t, y_ic_ne_f, b_X6_wouldRather_29, x_ret1_0, x_ret1_1, b_X6_wouldRather_31, b_X6_wouldRather_37, b_X6_wouldRather_39, x_storeI_5, x_loadI_5, y_ic_gt_t, y_ic_gt_f, b_X6_wouldRather_58, b_X6_wouldRather_64, y_ic_ge_t, y_ic_ge_f, b_X6_wouldRather_70, x_goto, b_X6_wouldRather_74, b_X6_wouldRather_75, q_isL_I, q_isL_R, q_isL_S, true_and, and_true, and_self, List.length_nil, List.length_cons, Nat.zero_add, x_K, x_Kn, Int.reduceToNat, Nat.reduceAdd, Nat.reduceMul, Nat.reduceLeDiff, Nat.reduceLT, Nat.zero_le, Int.reduceAdd, Int.reduceSub, Int.reduceMul, Int.reduceNeg, q_add_e, q_sub_e, q_mul_e, q_neg_e, q_upd_s, q_upd_n, zr_shr0, zr_shr1, zr_shr2, zr_shr3, zr_shr4, zr_and, zr_dyn8, zr_or, zr_shl, q_cpy_n, y_cpy26, Int.toNat_natCast, tn_5, eL, ry_f, er, hF]
            exact hq
          · simp (disch := omega) only [b_X6_wouldRather_0, x_loadR_0, x_loadS_0, f_6_31, x_iconst, x_loadI_1, x_imul, x_loadI_2, x_iadd, y_iald_25, y_iald_45, x_storeI_3, f_6_33, x_storeI_4, x_loadI_3, y_if_le_t, y_if_le_f, b_X6_wouldRather_23, x_loadI_4, y_ic_ne_t, y_ic_ne_f, b_X6_wouldRather_29, x_ret1_0, x_ret1_1, b_X6_wouldRather_31, b_X6_wouldRather_37, b_X6_wouldRather_39, x_storeI_5, x_loadI_5, y_ic_gt_t, y_ic_gt_f, b_X6_wouldRather_58, b_X6_wouldRather_64, y_ic_ge_t, y_ic_ge_f, b_X6_wouldRather_70, x_goto, b_X6_wouldRather_74, b_X6_wouldRather_75, q_isL_I, q_isL_R, q_isL_S, true_and, and_true, and_self, List.length_nil, List.length_cons, Nat.zero_add, x_K, x_Kn, Int.reduceToNat, Nat.reduceAdd, Nat.reduceMul, Nat.reduceLeDiff, Nat.reduceLT, Nat.zero_le, Int.reduceAdd, Int.reduceSub, Int.reduceMul, Int.reduceNeg, q_add_e, q_sub_e, q_mul_e, q_neg_e, q_upd_s, q_upd_n, zr_shr0, zr_shr1, zr_shr2, zr_shr3, zr_shr4, zr_and, zr_dyn8, zr_or, zr_shl, q_cpy_n, y_cpy26, Int.toNat_natCast, tn_5, eL, ry_f, er, hF]
            exact hq
  · rw [if_neg (fun z => c0 (of_decide_eq_true z).1)] at hq
    simp (disch := omega) only [b_X6_wouldRather_0, x_loadR_0, x_loadS_0, f_6_31, x_iconst, x_loadI_1, x_imul, x_loadI_2, x_iadd, y_iald_25, y_iald_45, x_storeI_3, f_6_33, x_storeI_4, x_loadI_3, y_if_le_t, y_if_le_f, b_X6_wouldRather_23, x_loadI_4, y_ic_ne_t, y_ic_ne_f, b_X6_wouldRather_29, x_ret1_0, x_ret1_1, b_X6_wouldRather_31, b_X6_wouldRather_37, b_X6_wouldRather_39, x_storeI_5, x_loadI_5, y_ic_gt_t, y_ic_gt_f, b_X6_wouldRather_58, b_X6_wouldRather_64, y_ic_ge_t, y_ic_ge_f, b_X6_wouldRather_70, x_goto, b_X6_wouldRather_74, b_X6_wouldRather_75, q_isL_I, q_isL_R, q_isL_S, true_and, and_true, and_self, List.length_nil, List.length_cons, Nat.zero_add, x_K, x_Kn, Int.reduceToNat, Nat.reduceAdd, Nat.reduceMul, Nat.reduceLeDiff, Nat.reduceLT, Nat.zero_le, Int.reduceAdd, Int.reduceSub, Int.reduceMul, Int.reduceNeg, q_add_e, q_sub_e, q_mul_e, q_neg_e, q_upd_s, q_upd_n, zr_shr0, zr_shr1, zr_shr2, zr_shr3, zr_shr4, zr_and, zr_dyn8, zr_or, zr_shl, q_cpy_n, y_cpy26, Int.toNat_natCast, tn_5, eL, ry_f]
    exact hq
end SITS
