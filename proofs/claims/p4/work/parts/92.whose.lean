/-! THE CLASS'S ENTRIES: whose, laws -/
def A_whose (V : Nat → (Nat → Int) → Int) (M : q_M) (s : Int) : Int := if q_rfA M s ≠ 0 then q_rfA M s else F_set (fun k => q_foA V M (cW M 11) s.toNat k) (M 12 5).toNat
set_option maxHeartbeats 4000000 in
theorem sp_whose {V : Nat → (Nat → Int) → Int} {d : Nat} {g : q_G} {M : q_M} {ta : Nat} {s : Int} {Q : Option q_V → q_G → q_M → Prop} (C : q_ci V M ta) (hq : ∀ M2 : q_M, q_tq M M2 → Q (some (qI (A_whose V M s))) g M2) : q_S 1 (d + 6) 86 [qR 5 0, qI s] g M Q := by
  have h12 := q_ci_n C
  rw [s_X5_whose]
  unfold A_whose at hq
  by_cases c1 : q_rfA M s = 0
  · rw [if_neg (fun z => z c1)] at hq
    obtain ⟨⟨s0, s4⟩, sz⟩ := q_rfA_0 c1
    obtain ⟨S, rfl⟩ : ∃ S : Nat, s = S := ⟨s.toNat, by omega⟩
    simp only [Int.toNat_natCast] at hq sz
    generalize hT : (fun k : Nat => q_foA V M (cW M 11) S k) = T at hq
    have loop : ∀ j k : Nat, k + j = (M 12 5).toNat → ∀ M1 : q_M, q_tq M M1 → q_T 1 (d + 6) qP_X5_whose 17 [] [qR 5 0, qI S, qI (q_rfA M S), qI (F_set T k), qI k] [] g M1 Q := by
      intro j
      induction j with
      | zero =>
        intro k hk M1 hf
        have e5 : M1 12 5 = M 12 5 := hf 12 5 (by omega) (by omega) (by omega) (by omega)
        have e : k = (M 12 5).toNat := by omega
        rw [← e] at hq
        rw [b_X5_whose_17]
        simp (disch := omega) only [b_X5_whose_0, x_loadR_0, x_loadS_0, x_loadI_1, x_storeI_2, x_loadI_2, y_if_eq_t, y_if_eq_f, b_X5_whose_10, x_ret0, b_X5_whose_12, x_iconst, x_storeI_3, x_storeI_4, x_loadI_4, f_5_3, f_4_0, f_0_5, y_ic_ge_t, y_ic_ge_f, b_X5_whose_32, f_5_4, y_ic_ne_t, y_ic_ne_f, b_X5_whose_54, x_loadI_3, x_ishl, x_ior, b_X5_whose_61, x_iinc_4, x_goto, b_X5_whose_67, q_isL_I, q_isL_R, q_isL_S, true_and, and_true, and_self, List.length_nil, List.length_cons, Nat.zero_add, x_K, x_Kn, Int.reduceToNat, Nat.reduceAdd, Nat.reduceMul, Nat.reduceLeDiff, Nat.reduceLT, Nat.zero_le, Int.reduceAdd, Int.reduceSub, Int.reduceMul, Int.reduceNeg, q_add_e, q_sub_e, q_mul_e, q_neg_e, q_upd_s, q_upd_n, zr_shr0, zr_shr1, zr_shr2, zr_shr3, zr_shr4, zr_and, zr_dyn8, zr_or, zr_shl, q_cpy_n, y_cpy26]
        exact hq M1 hf
      | succ j ih =>
        intro k hk M1 hf
        have e5 : M1 12 5 = M 12 5 := hf 12 5 (by omega) (by omega) (by omega) (by omega)
        have ih2 := ih (k + 1) (by omega)
        rw [F_set] at ih2
        rw [b_X5_whose_17]
        simp (disch := omega) only [b_X5_whose_0, x_loadR_0, x_loadS_0, x_loadI_1, x_storeI_2, x_loadI_2, y_if_eq_t, y_if_eq_f, b_X5_whose_10, x_ret0, b_X5_whose_12, x_iconst, x_storeI_3, x_storeI_4, x_loadI_4, f_5_3, f_4_0, f_0_5, y_ic_ge_t, y_ic_ge_f, b_X5_whose_32, f_5_4, y_ic_ne_t, y_ic_ne_f, b_X5_whose_54, x_loadI_3, x_ishl, x_ior, b_X5_whose_61, x_iinc_4, x_goto, b_X5_whose_67, q_isL_I, q_isL_R, q_isL_S, true_and, and_true, and_self, List.length_nil, List.length_cons, Nat.zero_add, x_K, x_Kn, Int.reduceToNat, Nat.reduceAdd, Nat.reduceMul, Nat.reduceLeDiff, Nat.reduceLT, Nat.zero_le, Int.reduceAdd, Int.reduceSub, Int.reduceMul, Int.reduceNeg, q_add_e, q_sub_e, q_mul_e, q_neg_e, q_upd_s, q_upd_n, zr_shr0, zr_shr1, zr_shr2, zr_shr3, zr_shr4, zr_and, zr_dyn8, zr_or, zr_shl, q_cpy_n, y_cpy26, c_X4_copyFrom]
        refine sp_think C hf (fun M2 h2 => ?_)
        obtain ⟨t1, t2, t3, t4, t5, t6⟩ := h2
        simp (disch := omega) only [b_X5_whose_0, x_loadR_0, x_loadS_0, x_loadI_1, x_storeI_2, x_loadI_2, y_if_eq_t, y_if_eq_f, b_X5_whose_10, x_ret0, b_X5_whose_12, x_iconst, x_storeI_3, x_storeI_4, x_loadI_4, f_5_3, f_4_0, f_0_5, y_ic_ge_t, y_ic_ge_f, b_X5_whose_32, f_5_4, y_ic_ne_t, y_ic_ne_f, b_X5_whose_54, x_loadI_3, x_ishl, x_ior, b_X5_whose_61, x_iinc_4, x_goto, b_X5_whose_67, q_isL_I, q_isL_R, q_isL_S, true_and, and_true, and_self, List.length_nil, List.length_cons, Nat.zero_add, x_K, x_Kn, Int.reduceToNat, Nat.reduceAdd, Nat.reduceMul, Nat.reduceLeDiff, Nat.reduceLT, Nat.zero_le, Int.reduceAdd, Int.reduceSub, Int.reduceMul, Int.reduceNeg, q_add_e, q_sub_e, q_mul_e, q_neg_e, q_upd_s, q_upd_n, zr_shr0, zr_shr1, zr_shr2, zr_shr3, zr_shr4, zr_and, zr_dyn8, zr_or, zr_shl, q_cpy_n, y_cpy26, c_X5_firstOtherwise, Int.toNat_natCast]
        refine sp_fo2 (V := V) (ta := ta) C (by omega) sz (by omega) C.1 t1 t3 t4 t5 t6 (fun M3 h3 => ?_)
        have eT : q_foA V M (cW M2 38) S k = T k := by rw [← hT, ← t2]
        rw [eT]
        by_cases c : T k = -1
        · rw [if_pos c] at ih2
          simp (disch := omega) only [b_X5_whose_0, x_loadR_0, x_loadS_0, x_loadI_1, x_storeI_2, x_loadI_2, y_if_eq_t, y_if_eq_f, b_X5_whose_10, x_ret0, b_X5_whose_12, x_iconst, x_storeI_3, x_storeI_4, x_loadI_4, f_5_3, f_4_0, f_0_5, y_ic_ge_t, y_ic_ge_f, b_X5_whose_32, f_5_4, y_ic_ne_t, y_ic_ne_f, b_X5_whose_54, x_loadI_3, x_ishl, x_ior, b_X5_whose_61, x_iinc_4, x_goto, b_X5_whose_67, q_isL_I, q_isL_R, q_isL_S, true_and, and_true, and_self, List.length_nil, List.length_cons, Nat.zero_add, x_K, x_Kn, Int.reduceToNat, Nat.reduceAdd, Nat.reduceMul, Nat.reduceLeDiff, Nat.reduceLT, Nat.zero_le, Int.reduceAdd, Int.reduceSub, Int.reduceMul, Int.reduceNeg, q_add_e, q_sub_e, q_mul_e, q_neg_e, q_upd_s, q_upd_n, zr_shr0, zr_shr1, zr_shr2, zr_shr3, zr_shr4, zr_and, zr_dyn8, zr_or, zr_shl, q_cpy_n, y_cpy26]
          exact ih2 M3 h3
        · rw [if_neg c] at ih2
          simp (disch := omega) only [b_X5_whose_0, x_loadR_0, x_loadS_0, x_loadI_1, x_storeI_2, x_loadI_2, y_if_eq_t, y_if_eq_f, b_X5_whose_10, x_ret0, b_X5_whose_12, x_iconst, x_storeI_3, x_storeI_4, x_loadI_4, f_5_3, f_4_0, f_0_5, y_ic_ge_t, y_ic_ge_f, b_X5_whose_32, f_5_4, y_ic_ne_t, y_ic_ne_f, b_X5_whose_54, x_loadI_3, x_ishl, x_ior, b_X5_whose_61, x_iinc_4, x_goto, b_X5_whose_67, q_isL_I, q_isL_R, q_isL_S, true_and, and_true, and_self, List.length_nil, List.length_cons, Nat.zero_add, x_K, x_Kn, Int.reduceToNat, Nat.reduceAdd, Nat.reduceMul, Nat.reduceLeDiff, Nat.reduceLT, Nat.zero_le, Int.reduceAdd, Int.reduceSub, Int.reduceMul, Int.reduceNeg, q_add_e, q_sub_e, q_mul_e, q_neg_e, q_upd_s, q_upd_n, zr_shr0, zr_shr1, zr_shr2, zr_shr3, zr_shr4, zr_and, zr_dyn8, zr_or, zr_shl, q_cpy_n, y_cpy26]
          exact ih2 M3 h3
    simp (disch := omega) only [b_X5_whose_0, x_loadR_0, x_loadS_0, x_loadI_1, x_storeI_2, x_loadI_2, y_if_eq_t, y_if_eq_f, b_X5_whose_10, x_ret0, b_X5_whose_12, x_iconst, x_storeI_3, x_storeI_4, x_loadI_4, f_5_3, f_4_0, f_0_5, y_ic_ge_t, y_ic_ge_f, b_X5_whose_32, f_5_4, y_ic_ne_t, y_ic_ne_f, b_X5_whose_54, x_loadI_3, x_ishl, x_ior, b_X5_whose_61, x_iinc_4, x_goto, b_X5_whose_67, q_isL_I, q_isL_R, q_isL_S, true_and, and_true, and_self, List.length_nil, List.length_cons, Nat.zero_add, x_K, x_Kn, Int.reduceToNat, Nat.reduceAdd, Nat.reduceMul, Nat.reduceLeDiff, Nat.reduceLT, Nat.zero_le, Int.reduceAdd, Int.reduceSub, Int.reduceMul, Int.reduceNeg, q_add_e, q_sub_e, q_mul_e, q_neg_e, q_upd_s, q_upd_n, zr_shr0, zr_shr1, zr_shr2, zr_shr3, zr_shr4, zr_and, zr_dyn8, zr_or, zr_shl, q_cpy_n, y_cpy26, c_X5_refusalOfTold, sp_refusal]
    exact loop (M 12 5).toNat 0 (by omega) M q_tq_rf
  · rw [if_pos c1] at hq
    simp (disch := omega) only [b_X5_whose_0, x_loadR_0, x_loadS_0, x_loadI_1, x_storeI_2, x_loadI_2, y_if_eq_t, y_if_eq_f, b_X5_whose_10, x_ret0, b_X5_whose_12, x_iconst, x_storeI_3, x_storeI_4, x_loadI_4, f_5_3, f_4_0, f_0_5, y_ic_ge_t, y_ic_ge_f, b_X5_whose_32, f_5_4, y_ic_ne_t, y_ic_ne_f, b_X5_whose_54, x_loadI_3, x_ishl, x_ior, b_X5_whose_61, x_iinc_4, x_goto, b_X5_whose_67, q_isL_I, q_isL_R, q_isL_S, true_and, and_true, and_self, List.length_nil, List.length_cons, Nat.zero_add, x_K, x_Kn, Int.reduceToNat, Nat.reduceAdd, Nat.reduceMul, Nat.reduceLeDiff, Nat.reduceLT, Nat.zero_le, Int.reduceAdd, Int.reduceSub, Int.reduceMul, Int.reduceNeg, q_add_e, q_sub_e, q_mul_e, q_neg_e, q_upd_s, q_upd_n, zr_shr0, zr_shr1, zr_shr2, zr_shr3, zr_shr4, zr_and, zr_dyn8, zr_or, zr_shl, q_cpy_n, y_cpy26, c_X5_refusalOfTold, sp_refusal]
    exact hq M q_tq_rf
/-- the texts: where they lie, what they say -/
def q_ta (t : Nat) : Nat := if t = 0 then 8 else 121 + 4 * t
def q_txs (Vt : Nat → Nat → (Nat → Int) → Int) (tm : Nat) (M : q_M) : Prop := 1 ≤ tm ∧ tm ≤ 6 ∧ M 0 2 = tm ∧ ∀ t, t < tm → M 5 t = q_ta t ∧ M (q_ta t) 0 = t ∧ q_lawV (Vt t) ∧ q_lawC (Vt t) (q_ta t) M
theorem q_ta_tas {t : Nat} (h : t < 6) : q_tas (q_ta t) := by
  unfold q_tas q_ta
  split <;> omega
theorem q_txs_tq {Vt : Nat → Nat → (Nat → Int) → Int} {tm : Nat} {M M2 : q_M} (h : q_tq M M2) (T : q_txs Vt tm M) : q_txs Vt tm M2 := by
  obtain ⟨h1, h2, h3, h4⟩ := T
  refine ⟨h1, h2, (h 0 2 (by omega) (by omega) (by omega) (by omega)).trans h3, fun t ht => ?_⟩
  obtain ⟨a1, a2, a3, a4⟩ := h4 t ht
  have hta := q_ta_tas (t := t) (by omega)
  unfold q_tas at hta
  exact ⟨(h 5 t (by omega) (by omega) (by omega) (by omega)).trans a1, (h _ 0 (by omega) (by omega) (by omega) (by omega)).trans a2, a3, fun M' hM => a4 M' (fun a i ha => (hM a i ha).trans (h a i (by omega) (by omega) (by omega) (by omega)))⟩
def A_laws (Vt : Nat → Nat → (Nat → Int) → Int) (tm : Nat) (M : q_M) (s p : Int) : Int := if q_rfA M s ≠ 0 then q_rfA M s else if ¬(0 ≤ p ∧ p < M 12 5) then -5 else F_set (fun t => q_foA (Vt t) M (cW M 11) s.toNat p.toNat) tm
set_option maxHeartbeats 4000000 in
theorem sp_laws {V : Nat → (Nat → Int) → Int} {Vt : Nat → Nat → (Nat → Int) → Int} {d tm : Nat} {g : q_G} {M : q_M} {ta : Nat} {s p : Int} {Q : Option q_V → q_G → q_M → Prop} (C : q_ci V M ta) (T : q_txs Vt tm M) (hq : ∀ M2 : q_M, q_tq M M2 → Q (some (qI (A_laws Vt tm M s p))) g M2) : q_S 1 (d + 6) 87 [qR 5 0, qI s, qI p] g M Q := by
  have h12 := q_ci_n C
  have htm := T.1
  have htm6 := T.2.1
  rw [s_X5_laws]
  unfold A_laws at hq
  by_cases c1 : q_rfA M s = 0
  · rw [if_neg (fun z => z c1)] at hq
    by_cases c2 : 0 ≤ p ∧ p < M 12 5
    · rw [if_neg (fun z => z c2)] at hq
      obtain ⟨⟨s0, s4⟩, sz⟩ := q_rfA_0 c1
      obtain ⟨S, rfl⟩ : ∃ S : Nat, s = S := ⟨s.toNat, by omega⟩
      obtain ⟨N, rfl⟩ : ∃ N : Nat, p = N := ⟨p.toNat, by omega⟩
      simp only [Int.toNat_natCast] at hq sz
      generalize hT : (fun t : Nat => q_foA (Vt t) M (cW M 11) S N) = TT at hq
      have loop : ∀ j k : Nat, k + j = tm → ∀ M1 : q_M, q_tq M M1 → q_T 1 (d + 6) qP_X5_laws 29 [] [qR 5 0, qI S, qI N, qI (q_rfA M S), qI (F_set TT k), qI k] [] g M1 Q := by
        intro j
        induction j with
        | zero =>
          intro k hk M1 hf
          have T1 := q_txs_tq hf T
          have e2 : M1 0 2 = tm := T1.2.2.1
          have e : k = tm := by omega
          rw [← e] at hq
          rw [b_X5_laws_29]
          simp (disch := omega) only [b_X5_laws_0, x_loadR_0, x_loadS_0, x_loadI_1, x_storeI_3, x_loadI_3, y_if_eq_t, y_if_eq_f, b_X5_laws_10, x_ret0, b_X5_laws_12, x_loadI_2, y_if_ne_t, y_if_ne_f, b_X5_laws_20, x_iconst, b_X5_laws_23, x_storeI_4, x_storeI_5, x_loadI_5, f_5_2, y_ic_ge_t, y_ic_ge_f, b_X5_laws_38, f_5_4, f_5_3, f_5_1, y_aald8, p_4_10, y_ic_ne_t, y_ic_ne_f, b_X5_laws_73, x_loadI_4, x_ishl, x_ior, b_X5_laws_82, x_iinc_5, x_goto, b_X5_laws_88, q_isL_I, q_isL_R, q_isL_S, true_and, and_true, and_self, List.length_nil, List.length_cons, Nat.zero_add, x_K, x_Kn, Int.reduceToNat, Nat.reduceAdd, Nat.reduceMul, Nat.reduceLeDiff, Nat.reduceLT, Nat.zero_le, Int.reduceAdd, Int.reduceSub, Int.reduceMul, Int.reduceNeg, q_add_e, q_sub_e, q_mul_e, q_neg_e, q_upd_s, q_upd_n, zr_shr0, zr_shr1, zr_shr2, zr_shr3, zr_shr4, zr_and, zr_dyn8, zr_or, zr_shl, q_cpy_n, y_cpy26]
          exact hq M1 hf
        | succ j ih =>
          intro k hk M1 hf
          have T1 := q_txs_tq hf T
          have e2 : M1 0 2 = tm := T1.2.2.1
          have ih2 := ih (k + 1) (by omega)
          rw [F_set] at ih2
          rw [b_X5_laws_29]
          simp (disch := omega) only [b_X5_laws_0, x_loadR_0, x_loadS_0, x_loadI_1, x_storeI_3, x_loadI_3, y_if_eq_t, y_if_eq_f, b_X5_laws_10, x_ret0, b_X5_laws_12, x_loadI_2, y_if_ne_t, y_if_ne_f, b_X5_laws_20, x_iconst, b_X5_laws_23, x_storeI_4, x_storeI_5, x_loadI_5, f_5_2, y_ic_ge_t, y_ic_ge_f, b_X5_laws_38, f_5_4, f_5_3, f_5_1, y_aald8, p_4_10, y_ic_ne_t, y_ic_ne_f, b_X5_laws_73, x_loadI_4, x_ishl, x_ior, b_X5_laws_82, x_iinc_5, x_goto, b_X5_laws_88, q_isL_I, q_isL_R, q_isL_S, true_and, and_true, and_self, List.length_nil, List.length_cons, Nat.zero_add, x_K, x_Kn, Int.reduceToNat, Nat.reduceAdd, Nat.reduceMul, Nat.reduceLeDiff, Nat.reduceLT, Nat.zero_le, Int.reduceAdd, Int.reduceSub, Int.reduceMul, Int.reduceNeg, q_add_e, q_sub_e, q_mul_e, q_neg_e, q_upd_s, q_upd_n, zr_shr0, zr_shr1, zr_shr2, zr_shr3, zr_shr4, zr_and, zr_dyn8, zr_or, zr_shl, q_cpy_n, y_cpy26, c_X4_copyFrom]
          refine sp_think C hf (fun M2 h2 => ?_)
          obtain ⟨t1, t2, t3, t4, t5, t6⟩ := h2
          obtain ⟨x1, x2, x3, x4⟩ := (q_txs_tq t6 T).2.2.2 k (by omega)
          have hta := q_ta_tas (t := k) (by omega)
          have hta2 := hta
          unfold q_tas at hta2
          have hy := q_dynT (k := 3) x1
          have hlt : q_ta k < 2147483648 := by omega
          simp (disch := omega) only [b_X5_laws_0, x_loadR_0, x_loadS_0, x_loadI_1, x_storeI_3, x_loadI_3, y_if_eq_t, y_if_eq_f, b_X5_laws_10, x_ret0, b_X5_laws_12, x_loadI_2, y_if_ne_t, y_if_ne_f, b_X5_laws_20, x_iconst, b_X5_laws_23, x_storeI_4, x_storeI_5, x_loadI_5, f_5_2, y_ic_ge_t, y_ic_ge_f, b_X5_laws_38, f_5_4, f_5_3, f_5_1, y_aald8, p_4_10, y_ic_ne_t, y_ic_ne_f, b_X5_laws_73, x_loadI_4, x_ishl, x_ior, b_X5_laws_82, x_iinc_5, x_goto, b_X5_laws_88, q_isL_I, q_isL_R, q_isL_S, true_and, and_true, and_self, List.length_nil, List.length_cons, Nat.zero_add, x_K, x_Kn, Int.reduceToNat, Nat.reduceAdd, Nat.reduceMul, Nat.reduceLeDiff, Nat.reduceLT, Nat.zero_le, Int.reduceAdd, Int.reduceSub, Int.reduceMul, Int.reduceNeg, q_add_e, q_sub_e, q_mul_e, q_neg_e, q_upd_s, q_upd_n, zr_shr0, zr_shr1, zr_shr2, zr_shr3, zr_shr4, zr_and, zr_dyn8, zr_or, zr_shl, q_cpy_n, y_cpy26, c_X5_firstOtherwise, Int.toNat_natCast, hy, hlt]
          refine sp_fo2 (V := Vt k) (ta := q_ta k) (V0 := V) (ta0 := ta) C (by omega) sz (by omega) hta ?_ (q_z5_eq (fun a q1 q2 => q_upd_n (by omega)) t3) ((q_upd_n (by omega)).trans t4) ((q_upd_n (by omega)).trans t5) (q_tq_up t6 (by omega) (by omega) (by omega)) (fun M3 h3 => ?_)
          · refine ⟨?_, x3, fun M' hM => x4 M' (fun a i ha => (hM a i ha).trans (q_upd_n (by omega))), q_upd_s, hlt, by omega⟩
            have r := t1.1
            unfold q_rgW at r ⊢
            simp (disch := omega) only [q_upd_n]
            exact r
          · have ec : cW (q_upd M2 38 10 (q_ta k : Nat)) 38 = cW M 11 := by
              rw [← t2]
              funext f i
              unfold cW
              split <;> simp (disch := omega) only [q_upd_n]
            have eT : q_foA (Vt k) M (cW (q_upd M2 38 10 (q_ta k : Nat)) 38) S N = TT k := by rw [← hT, ec]
            rw [eT]
            by_cases c : TT k = -1
            · rw [if_pos c] at ih2
              simp (disch := omega) only [b_X5_laws_0, x_loadR_0, x_loadS_0, x_loadI_1, x_storeI_3, x_loadI_3, y_if_eq_t, y_if_eq_f, b_X5_laws_10, x_ret0, b_X5_laws_12, x_loadI_2, y_if_ne_t, y_if_ne_f, b_X5_laws_20, x_iconst, b_X5_laws_23, x_storeI_4, x_storeI_5, x_loadI_5, f_5_2, y_ic_ge_t, y_ic_ge_f, b_X5_laws_38, f_5_4, f_5_3, f_5_1, y_aald8, p_4_10, y_ic_ne_t, y_ic_ne_f, b_X5_laws_73, x_loadI_4, x_ishl, x_ior, b_X5_laws_82, x_iinc_5, x_goto, b_X5_laws_88, q_isL_I, q_isL_R, q_isL_S, true_and, and_true, and_self, List.length_nil, List.length_cons, Nat.zero_add, x_K, x_Kn, Int.reduceToNat, Nat.reduceAdd, Nat.reduceMul, Nat.reduceLeDiff, Nat.reduceLT, Nat.zero_le, Int.reduceAdd, Int.reduceSub, Int.reduceMul, Int.reduceNeg, q_add_e, q_sub_e, q_mul_e, q_neg_e, q_upd_s, q_upd_n, zr_shr0, zr_shr1, zr_shr2, zr_shr3, zr_shr4, zr_and, zr_dyn8, zr_or, zr_shl, q_cpy_n, y_cpy26]
              exact ih2 M3 h3
            · rw [if_neg c] at ih2
              simp (disch := omega) only [b_X5_laws_0, x_loadR_0, x_loadS_0, x_loadI_1, x_storeI_3, x_loadI_3, y_if_eq_t, y_if_eq_f, b_X5_laws_10, x_ret0, b_X5_laws_12, x_loadI_2, y_if_ne_t, y_if_ne_f, b_X5_laws_20, x_iconst, b_X5_laws_23, x_storeI_4, x_storeI_5, x_loadI_5, f_5_2, y_ic_ge_t, y_ic_ge_f, b_X5_laws_38, f_5_4, f_5_3, f_5_1, y_aald8, p_4_10, y_ic_ne_t, y_ic_ne_f, b_X5_laws_73, x_loadI_4, x_ishl, x_ior, b_X5_laws_82, x_iinc_5, x_goto, b_X5_laws_88, q_isL_I, q_isL_R, q_isL_S, true_and, and_true, and_self, List.length_nil, List.length_cons, Nat.zero_add, x_K, x_Kn, Int.reduceToNat, Nat.reduceAdd, Nat.reduceMul, Nat.reduceLeDiff, Nat.reduceLT, Nat.zero_le, Int.reduceAdd, Int.reduceSub, Int.reduceMul, Int.reduceNeg, q_add_e, q_sub_e, q_mul_e, q_neg_e, q_upd_s, q_upd_n, zr_shr0, zr_shr1, zr_shr2, zr_shr3, zr_shr4, zr_and, zr_dyn8, zr_or, zr_shl, q_cpy_n, y_cpy26]
              exact ih2 M3 h3
      simp (disch := omega) only [b_X5_laws_0, x_loadR_0, x_loadS_0, x_loadI_1, x_storeI_3, x_loadI_3, y_if_eq_t, y_if_eq_f, b_X5_laws_10, x_ret0, b_X5_laws_12, x_loadI_2, y_if_ne_t, y_if_ne_f, b_X5_laws_20, x_iconst, b_X5_laws_23, x_storeI_4, x_storeI_5, x_loadI_5, f_5_2, y_ic_ge_t, y_ic_ge_f, b_X5_laws_38, f_5_4, f_5_3, f_5_1, y_aald8, p_4_10, y_ic_ne_t, y_ic_ne_f, b_X5_laws_73, x_loadI_4, x_ishl, x_ior, b_X5_laws_82, x_iinc_5, x_goto, b_X5_laws_88, q_isL_I, q_isL_R, q_isL_S, true_and, and_true, and_self, List.length_nil, List.length_cons, Nat.zero_add, x_K, x_Kn, Int.reduceToNat, Nat.reduceAdd, Nat.reduceMul, Nat.reduceLeDiff, Nat.reduceLT, Nat.zero_le, Int.reduceAdd, Int.reduceSub, Int.reduceMul, Int.reduceNeg, q_add_e, q_sub_e, q_mul_e, q_neg_e, q_upd_s, q_upd_n, zr_shr0, zr_shr1, zr_shr2, zr_shr3, zr_shr4, zr_and, zr_dyn8, zr_or, zr_shl, q_cpy_n, y_cpy26, c_X5_refusalOfTold, sp_refusal, c_X5_isStone, sp_isStone, c2, and_self, if_true]
      exact loop tm 0 (by omega) M q_tq_rf
    · rw [if_pos c2] at hq
      simp (disch := omega) only [b_X5_laws_0, x_loadR_0, x_loadS_0, x_loadI_1, x_storeI_3, x_loadI_3, y_if_eq_t, y_if_eq_f, b_X5_laws_10, x_ret0, b_X5_laws_12, x_loadI_2, y_if_ne_t, y_if_ne_f, b_X5_laws_20, x_iconst, b_X5_laws_23, x_storeI_4, x_storeI_5, x_loadI_5, f_5_2, y_ic_ge_t, y_ic_ge_f, b_X5_laws_38, f_5_4, f_5_3, f_5_1, y_aald8, p_4_10, y_ic_ne_t, y_ic_ne_f, b_X5_laws_73, x_loadI_4, x_ishl, x_ior, b_X5_laws_82, x_iinc_5, x_goto, b_X5_laws_88, q_isL_I, q_isL_R, q_isL_S, true_and, and_true, and_self, List.length_nil, List.length_cons, Nat.zero_add, x_K, x_Kn, Int.reduceToNat, Nat.reduceAdd, Nat.reduceMul, Nat.reduceLeDiff, Nat.reduceLT, Nat.zero_le, Int.reduceAdd, Int.reduceSub, Int.reduceMul, Int.reduceNeg, q_add_e, q_sub_e, q_mul_e, q_neg_e, q_upd_s, q_upd_n, zr_shr0, zr_shr1, zr_shr2, zr_shr3, zr_shr4, zr_and, zr_dyn8, zr_or, zr_shl, q_cpy_n, y_cpy26, c_X5_refusalOfTold, sp_refusal, c_X5_isStone, sp_isStone, c2, if_false]
      exact hq M q_tq_rf
  · rw [if_pos c1] at hq
    simp (disch := omega) only [b_X5_laws_0, x_loadR_0, x_loadS_0, x_loadI_1, x_storeI_3, x_loadI_3, y_if_eq_t, y_if_eq_f, b_X5_laws_10, x_ret0, b_X5_laws_12, x_loadI_2, y_if_ne_t, y_if_ne_f, b_X5_laws_20, x_iconst, b_X5_laws_23, x_storeI_4, x_storeI_5, x_loadI_5, f_5_2, y_ic_ge_t, y_ic_ge_f, b_X5_laws_38, f_5_4, f_5_3, f_5_1, y_aald8, p_4_10, y_ic_ne_t, y_ic_ne_f, b_X5_laws_73, x_loadI_4, x_ishl, x_ior, b_X5_laws_82, x_iinc_5, x_goto, b_X5_laws_88, q_isL_I, q_isL_R, q_isL_S, true_and, and_true, and_self, List.length_nil, List.length_cons, Nat.zero_add, x_K, x_Kn, Int.reduceToNat, Nat.reduceAdd, Nat.reduceMul, Nat.reduceLeDiff, Nat.reduceLT, Nat.zero_le, Int.reduceAdd, Int.reduceSub, Int.reduceMul, Int.reduceNeg, q_add_e, q_sub_e, q_mul_e, q_neg_e, q_upd_s, q_upd_n, zr_shr0, zr_shr1, zr_shr2, zr_shr3, zr_shr4, zr_and, zr_dyn8, zr_or, zr_shl, q_cpy_n, y_cpy26, c_X5_refusalOfTold, sp_refusal]
    exact hq M q_tq_rf
