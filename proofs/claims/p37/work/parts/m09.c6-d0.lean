section
/-! THE MODEL: run, when -/
def G_ys (V : Nat → (Nat → Int) → Int) (S : q_M) : Nat → q_M
  | 0 => S
  | n + 1 => (G_year V (G_ys V S n)).2
theorem G_year_y {V : Nat → (Nat → Int) → Int} {M M2 : q_M} (h : mW M2 = (G_year V (mW M)).2) : M2 100 5 = M 100 5 + 1 := by
  rw [← mW_91 (M := M2), h]
  show q_upd (G_yr V (mW M) (F_n (mW M))).2 9 1 (mW M 9 1 + 1) 9 1 = M 100 5 + 1
  rw [q_upd_s, mW_91]
theorem mp_keepT {V : Nat → (Nat → Int) → Int} {d dd : Nat} {g : q_G} {M M1 : q_M} {P : q_P} {nx : Nat} {ops : List Instr} {ls st : List q_V} {Q : Option q_V → q_G → q_M → Prop} (hm : q_ml V M) (h0 : q_mq M M1) (h : ∀ M2 : q_M, q_ml V M2 → mW M2 = mW M → q_mt M M2 → q_T 1 dd P nx ops ls st g M2 Q) : q_S 1 d 154 [qR 6 100] g M1 (q_K 1 dd P nx ops ls st Q) :=
  mp_keeps h0 (fun M2 h1 h2 => h M2 (q_mq_ml (q_mq_tr h0 h2) hm) (q_mq_mW (q_mq_tr h0 h2)) h1)
theorem mp_layT {d dd : Nat} {g : q_G} {M M1 : q_M} {P : q_P} {nx : Nat} {ops : List Instr} {ls st : List q_V} {Q : Option q_V → q_G → q_M → Prop} (ht : q_mt M M1) (h : ∀ M2 : q_M, q_mq M M2 → M2 100 36 = M1 100 36 → q_T 1 dd P nx ops ls st g M2 Q) : q_S 1 d 155 [qR 6 100] g M1 (q_K 1 dd P nx ops ls st Q) := mp_lays ht (fun M2 h1 h2 _ => h M2 h1 h2)
theorem mp_layT2 {d dd : Nat} {g : q_G} {M M1 : q_M} {P : q_P} {nx : Nat} {ops : List Instr} {ls st : List q_V} {Q : Option q_V → q_G → q_M → Prop} (ht : q_mt M M1) (h : ∀ M2 : q_M, q_mq M M2 → q_mt M M2 → q_T 1 dd P nx ops ls st g M2 Q) : q_S 1 d 155 [qR 6 100] g M1 (q_K 1 dd P nx ops ls st Q) := mp_lays ht (fun M2 h1 _ h3 => h M2 h1 ⟨⟨fun i hi => (h3 i).trans (ht.1.1 i hi), fun i hi => (h3 _).trans (ht.1.2.1 i hi), (h3 35).trans ht.1.2.2⟩, fun a i q1 _ _ q4 => h1 a i q1 (fun e => (q4 e).2)⟩)
theorem q_mt_up {M M2 : q_M} {a i : Nat} {v : Int} (h : q_mt M M2) (ha : (a = 104 ∧ i < 15) ∨ (a = 103 ∧ i < 20)) : q_mt M (q_upd M2 a i v) := by
  obtain ⟨⟨k1, k2, k3⟩, h3⟩ := h
  refine ⟨⟨fun i hi => (q_upd_n (by omega)).trans (k1 i hi), fun i hi => (q_upd_n (by omega)).trans (k2 i hi), (q_upd_n (by omega)).trans k3⟩, fun x j q1 q2 q3 q4 => (q_upd_n (by omega)).trans (h3 x j q1 q2 q3 q4)⟩
theorem mp_yearT {V : Nat → (Nat → Int) → Int} {d dd : Nat} {g : q_G} {M M1 : q_M} {P : q_P} {nx : Nat} {ops : List Instr} {ls st : List q_V} {Q : Option q_V → q_G → q_M → Prop} (hm : q_ml V M1) (hy : M1 100 5 < 2000) (ht : q_mt M M1) (h : ∀ M2 : q_M, q_ml V M2 → mW M2 = (G_year V (mW M1)).2 → M2 100 5 = M1 100 5 + 1 → M2 100 0 = M1 100 0 → q_mt M M2 → q_T 1 dd P nx ops ls (qI (G_year V (mW M1)).1 :: st) g M2 Q) : q_S 1 (d + 7) 151 [qR 6 100] g M1 (q_K 1 dd P nx ops ls st Q) :=
  mp_year hm hy (fun M2 h1 h2 h3 => h M2 h1 h2 (G_year_y h2) (h3 100 0 (by omega) (by omega) (by omega) (by omega) (by omega)) (q_mt_mz ht h3))
theorem mp_digits {d : Nat} {g : q_G} {M : q_M} (h0 : 0 ≤ M 100 0) (h5 : M 100 0 ≤ 5) (hin : ∀ i, i < 5 → -1 ≤ M 104 (3 * i + 2) ∧ M 104 (3 * i + 2) ≤ 4) (Q : Option q_V → q_G → q_M → Prop) : q_S 1 d 153 [qR 6 100] g M Q = Q (some (qI (F_dig (mIn M) (M 100 0).toNat))) g M := by
  refine q_S_eq (fun Q hq => ?_) Q
  have hf : ∀ i, 0 ≤ (fun i => if i < 5 then mIn M i else 0) i ∧ (fun i => if i < 5 then mIn M i else 0) i ≤ 5 := by
    intro i
    show 0 ≤ (if i < 5 then mIn M i else 0) ∧ (if i < 5 then mIn M i else 0) ≤ 5
    by_cases c : i < 5
    · have := hin i c
      rw [if_pos c]
      unfold mIn
      split <;> omega
    · rw [if_neg c]
      omega
  rw [s_X6_digitsNow]
  have loop : ∀ j k : Nat, k + j = (M 100 0).toNat → q_T 1 d qP_X6_digitsNow 4 [] [qR 6 100, qI (F_dig (mIn M) k), qI k] [] g M Q := by
    intro j
    induction j with
    | zero =>
      intro k hk
      have e : k = (M 100 0).toNat := by omega
      rw [← e] at hq
      rw [b_X6_digitsNow_4]
      simp (disch := omega) only [b_X6_digitsNow_0, x_iconst, x_storeI_1, x_storeI_2, x_loadI_2, x_loadR_0, x_loadS_0, f_6_0, y_ic_ge_t, y_ic_ge_f, b_X6_digitsNow_12, x_loadI_1, x_imul, f_6_4, x_iadd, y_iald_35, x_iinc_2, x_goto, b_X6_digitsNow_36, x_ret0, q_isL_I, q_isL_R, q_isL_S, true_and, and_true, and_self, List.length_nil, List.length_cons, Nat.zero_add, x_K, x_Kn, Int.reduceToNat, Nat.reduceAdd, Nat.reduceMul, Nat.reduceLeDiff, Nat.reduceLT, Nat.zero_le, Int.reduceAdd, Int.reduceSub, Int.reduceMul, Int.reduceNeg, q_add_e, q_sub_e, q_mul_e, q_neg_e, q_upd_s, q_upd_n, zr_shr0, zr_shr1, zr_shr2, zr_shr3, zr_shr4, zr_and, zr_dyn8, zr_or, zr_shl, q_cpy_n, y_cpy26]
      exact hq
    | succ j ih =>
      intro k hk
      have hi := hin k (by omega)
      have hd := F_dig_le _ hf k (by omega)
      rw [← F_dig_cong (f := mIn M) k (fun i hi => (if_pos (by omega)).symm)] at hd
      have ih2 := ih (k + 1) (by omega)
      rw [F_dig] at ih2
      have e : (if mIn M k = 5 then 0 else mIn M k + 1) = M 104 (3 * k + 2) + 1 := by
        unfold mIn
        by_cases c : M 104 (3 * k + 2) = -1
        · rw [if_pos c, if_pos rfl, c]
          rfl
        · rw [if_neg c, if_neg (by omega)]
      have e2 : 10 * F_dig (mIn M) k + (M 104 (3 * k + 2) + 1) = 10 * F_dig (mIn M) k + M 104 (3 * k + 2) + 1 := by omega
      rw [e, e2] at ih2
      rw [b_X6_digitsNow_4]
      simp (disch := omega) only [b_X6_digitsNow_0, x_iconst, x_storeI_1, x_storeI_2, x_loadI_2, x_loadR_0, x_loadS_0, f_6_0, y_ic_ge_t, y_ic_ge_f, b_X6_digitsNow_12, x_loadI_1, x_imul, f_6_4, x_iadd, y_iald_35, x_iinc_2, x_goto, b_X6_digitsNow_36, x_ret0, q_isL_I, q_isL_R, q_isL_S, true_and, and_true, and_self, List.length_nil, List.length_cons, Nat.zero_add, x_K, x_Kn, Int.reduceToNat, Nat.reduceAdd, Nat.reduceMul, Nat.reduceLeDiff, Nat.reduceLT, Nat.zero_le, Int.reduceAdd, Int.reduceSub, Int.reduceMul, Int.reduceNeg, q_add_e, q_sub_e, q_mul_e, q_neg_e, q_upd_s, q_upd_n, zr_shr0, zr_shr1, zr_shr2, zr_shr3, zr_shr4, zr_and, zr_dyn8, zr_or, zr_shl, q_cpy_n, y_cpy26, tn_32]
      exact ih2
  simp (disch := omega) only [b_X6_digitsNow_0, x_iconst, x_storeI_1, x_storeI_2, x_loadI_2, x_loadR_0, x_loadS_0, f_6_0, y_ic_ge_t, y_ic_ge_f, b_X6_digitsNow_12, x_loadI_1, x_imul, f_6_4, x_iadd, y_iald_35, x_iinc_2, x_goto, b_X6_digitsNow_36, x_ret0, q_isL_I, q_isL_R, q_isL_S, true_and, and_true, and_self, List.length_nil, List.length_cons, Nat.zero_add, x_K, x_Kn, Int.reduceToNat, Nat.reduceAdd, Nat.reduceMul, Nat.reduceLeDiff, Nat.reduceLT, Nat.zero_le, Int.reduceAdd, Int.reduceSub, Int.reduceMul, Int.reduceNeg, q_add_e, q_sub_e, q_mul_e, q_neg_e, q_upd_s, q_upd_n, zr_shr0, zr_shr1, zr_shr2, zr_shr3, zr_shr4, zr_and, zr_dyn8, zr_or, zr_shl, q_cpy_n, y_cpy26]
  exact loop (M 100 0).toNat 0 (by omega)
/-- what questions ask of the model -/
def q_mi (V : Nat → (Nat → Int) → Int) (M : q_M) : Prop := q_ml V M ∧ M 100 5 ≤ 999 ∧ (∀ s, s < 4 → 0 ≤ M 111 s ∧ M 111 s ≤ 40)
def B_rnA (S : q_M) (wt : Int) : Int := if wt = 0 then F_dig (S 4) (F_n S) else if wt = 1 then F_cnt (S 4) 5 (F_n S) else S 2 (wt - 10).toNat
def B_run (V : Nat → (Nat → Int) → Int) (S : q_M) (n wt : Int) : Int := if ¬(0 ≤ n ∧ n ≤ 40) ∨ (¬(0 ≤ wt ∧ wt ≤ 1) ∧ ¬(10 ≤ wt ∧ wt ≤ 9 + S 9 0)) then -2 else B_rnA (G_ys V S n.toNat) wt
set_option maxHeartbeats 4000000 in
theorem mp_run {V : Nat → (Nat → Int) → Int} {d : Nat} {g : q_G} {M : q_M} {n wt : Int} {Q : Option q_V → q_G → q_M → Prop} (C : q_mi V M) (hq : ∀ M2 : q_M, q_mq M M2 → Q (some (qI (B_run V (mW M) n wt))) g M2) : q_S 1 (d + 8) 156 [qR 6 100, qI n, qI wt] g M Q := by
  have n0 := C.1.1.1
  have y0 := C.1.1.2.1
  have y9 := C.2.1
  rw [s_X6_run]
  unfold B_run at hq
  rw [mW_90] at hq
  by_cases c1 : 0 ≤ n ∧ n ≤ 40
  · by_cases c2 : ¬(0 ≤ wt ∧ wt ≤ 1) ∧ ¬(10 ≤ wt ∧ wt ≤ 9 + M 100 0)
    · rw [if_pos (Or.inr c2)] at hq
      simp (disch := omega) only [b_X6_run_0, x_loadI_1, x_iconst, y_if_eq_t, y_if_eq_f, b_X6_run_10, x_loadI_2, y_if_ne_t, y_if_ne_f, b_X6_run_19, x_loadR_0, x_loadS_0, f_6_0, x_iadd, b_X6_run_35, x_ret0, b_X6_run_38, x_storeI_3, x_loadI_3, y_ic_ge_t, y_ic_ge_f, b_X6_run_49, x_popI, x_popR, x_iinc_3, x_goto, b_X6_run_60, b_X6_run_67, b_X6_run_71, b_X6_run_78, b_X6_run_82, b_X6_run_86, f_6_4, x_isub, x_imul, y_iald_35, b_X6_run_98, q_isL_I, q_isL_R, q_isL_S, true_and, and_true, and_self, List.length_nil, List.length_cons, Nat.zero_add, x_K, x_Kn, Int.reduceToNat, Nat.reduceAdd, Nat.reduceMul, Nat.reduceLeDiff, Nat.reduceLT, Nat.zero_le, Int.reduceAdd, Int.reduceSub, Int.reduceMul, Int.reduceNeg, q_add_e, q_sub_e, q_mul_e, q_neg_e, q_upd_s, q_upd_n, zr_shr0, zr_shr1, zr_shr2, zr_shr3, zr_shr4, zr_and, zr_dyn8, zr_or, zr_shl, q_cpy_n, y_cpy26, c_X6_in, mp_in, c1, and_self, if_true, c2.1, c2.2, if_false]
      exact hq M q_mq_rf
    · rw [if_neg (fun z => z.elim (fun z => z c1) c2)] at hq
      obtain ⟨N, rfl⟩ : ∃ N : Nat, n = N := ⟨n.toNat, by omega⟩
      rw [Int.toNat_natCast] at hq
      have loop : ∀ j k : Nat, k + j = N → ∀ M1 : q_M, q_ml V M1 → mW M1 = G_ys V (mW M) k → M1 100 5 + j ≤ 1500 → M1 100 0 = M 100 0 → q_mt M M1 → q_T 1 (d + 8) qP_X6_run 44 [] [qR 6 100, qI N, qI wt, qI k] [] g M1 Q := by
        intro j
        induction j with
        | zero =>
          intro k hk M1 m1 w1 y1 e0 t1
          have e : k = N := by omega
          subst e
          rw [b_X6_run_44]
          unfold B_rnA at hq
          rw [← w1, show F_n (mW M1) = (M1 100 0).toNat from rfl] at hq
          have lay : ∀ (v : Int) (l : List q_V), (∀ M2 : q_M, q_mq M M2 → Q (some (qI v)) g M2) → q_S 1 (d + 7) 155 [qR 6 100] g M1 (q_K 1 (d + 8) qP_X6_run 104 [.iload 3, .ret 0] [qR 6 100, qI k, qI wt, qI v] [] Q) := by
            intro v l h
            refine mp_layT t1 (fun M2 h1 h2 => ?_)
            simp (disch := omega) only [b_X6_run_0, x_loadI_1, x_iconst, y_if_eq_t, y_if_eq_f, b_X6_run_10, x_loadI_2, y_if_ne_t, y_if_ne_f, b_X6_run_19, x_loadR_0, x_loadS_0, f_6_0, x_iadd, b_X6_run_35, x_ret0, b_X6_run_38, x_storeI_3, x_loadI_3, y_ic_ge_t, y_ic_ge_f, b_X6_run_49, x_popI, x_popR, x_iinc_3, x_goto, b_X6_run_60, b_X6_run_67, b_X6_run_71, b_X6_run_78, b_X6_run_82, b_X6_run_86, f_6_4, x_isub, x_imul, y_iald_35, b_X6_run_98, q_isL_I, q_isL_R, q_isL_S, true_and, and_true, and_self, List.length_nil, List.length_cons, Nat.zero_add, x_K, x_Kn, Int.reduceToNat, Nat.reduceAdd, Nat.reduceMul, Nat.reduceLeDiff, Nat.reduceLT, Nat.zero_le, Int.reduceAdd, Int.reduceSub, Int.reduceMul, Int.reduceNeg, q_add_e, q_sub_e, q_mul_e, q_neg_e, q_upd_s, q_upd_n, zr_shr0, zr_shr1, zr_shr2, zr_shr3, zr_shr4, zr_and, zr_dyn8, zr_or, zr_shl, q_cpy_n, y_cpy26]
            exact h M2 h1
          by_cases k0 : wt = 0
          · subst k0
            rw [if_pos rfl, ← F_dig_cong _ mIn_cong] at hq
            simp (disch := omega) only [b_X6_run_0, x_loadI_1, x_iconst, y_if_eq_t, y_if_eq_f, b_X6_run_10, x_loadI_2, y_if_ne_t, y_if_ne_f, b_X6_run_19, x_loadR_0, x_loadS_0, f_6_0, x_iadd, b_X6_run_35, x_ret0, b_X6_run_38, x_storeI_3, x_loadI_3, y_ic_ge_t, y_ic_ge_f, b_X6_run_49, x_popI, x_popR, x_iinc_3, x_goto, b_X6_run_60, b_X6_run_67, b_X6_run_71, b_X6_run_78, b_X6_run_82, b_X6_run_86, f_6_4, x_isub, x_imul, y_iald_35, b_X6_run_98, q_isL_I, q_isL_R, q_isL_S, true_and, and_true, and_self, List.length_nil, List.length_cons, Nat.zero_add, x_K, x_Kn, Int.reduceToNat, Nat.reduceAdd, Nat.reduceMul, Nat.reduceLeDiff, Nat.reduceLT, Nat.zero_le, Int.reduceAdd, Int.reduceSub, Int.reduceMul, Int.reduceNeg, q_add_e, q_sub_e, q_mul_e, q_neg_e, q_upd_s, q_upd_n, zr_shr0, zr_shr1, zr_shr2, zr_shr3, zr_shr4, zr_and, zr_dyn8, zr_or, zr_shl, q_cpy_n, y_cpy26, c_X6_digitsNow]
            rw [mp_digits m1.1.1.1 m1.1.1.2 m1.1.2.2.2.2.2.2.1]
            simp (disch := omega) only [b_X6_run_0, x_loadI_1, x_iconst, y_if_eq_t, y_if_eq_f, b_X6_run_10, x_loadI_2, y_if_ne_t, y_if_ne_f, b_X6_run_19, x_loadR_0, x_loadS_0, f_6_0, x_iadd, b_X6_run_35, x_ret0, b_X6_run_38, x_storeI_3, x_loadI_3, y_ic_ge_t, y_ic_ge_f, b_X6_run_49, x_popI, x_popR, x_iinc_3, x_goto, b_X6_run_60, b_X6_run_67, b_X6_run_71, b_X6_run_78, b_X6_run_82, b_X6_run_86, f_6_4, x_isub, x_imul, y_iald_35, b_X6_run_98, q_isL_I, q_isL_R, q_isL_S, true_and, and_true, and_self, List.length_nil, List.length_cons, Nat.zero_add, x_K, x_Kn, Int.reduceToNat, Nat.reduceAdd, Nat.reduceMul, Nat.reduceLeDiff, Nat.reduceLT, Nat.zero_le, Int.reduceAdd, Int.reduceSub, Int.reduceMul, Int.reduceNeg, q_add_e, q_sub_e, q_mul_e, q_neg_e, q_upd_s, q_upd_n, zr_shr0, zr_shr1, zr_shr2, zr_shr3, zr_shr4, zr_and, zr_dyn8, zr_or, zr_shl, q_cpy_n, y_cpy26, c_X6_lays]
            exact lay _ [] hq
          rw [if_neg k0] at hq
          by_cases k1 : wt = 1
          · subst k1
            rw [if_pos rfl, ← F_cnt_cong _ mIn_cong] at hq
            simp (disch := omega) only [b_X6_run_0, x_loadI_1, x_iconst, y_if_eq_t, y_if_eq_f, b_X6_run_10, x_loadI_2, y_if_ne_t, y_if_ne_f, b_X6_run_19, x_loadR_0, x_loadS_0, f_6_0, x_iadd, b_X6_run_35, x_ret0, b_X6_run_38, x_storeI_3, x_loadI_3, y_ic_ge_t, y_ic_ge_f, b_X6_run_49, x_popI, x_popR, x_iinc_3, x_goto, b_X6_run_60, b_X6_run_67, b_X6_run_71, b_X6_run_78, b_X6_run_82, b_X6_run_86, f_6_4, x_isub, x_imul, y_iald_35, b_X6_run_98, q_isL_I, q_isL_R, q_isL_S, true_and, and_true, and_self, List.length_nil, List.length_cons, Nat.zero_add, x_K, x_Kn, Int.reduceToNat, Nat.reduceAdd, Nat.reduceMul, Nat.reduceLeDiff, Nat.reduceLT, Nat.zero_le, Int.reduceAdd, Int.reduceSub, Int.reduceMul, Int.reduceNeg, q_add_e, q_sub_e, q_mul_e, q_neg_e, q_upd_s, q_upd_n, zr_shr0, zr_shr1, zr_shr2, zr_shr3, zr_shr4, zr_and, zr_dyn8, zr_or, zr_shl, q_cpy_n, y_cpy26, c_X6_outside]
            rw [mp_outside m1.1.1.1 m1.1.1.2 m1.1.2.2.2.2.2.2.1]
            simp (disch := omega) only [b_X6_run_0, x_loadI_1, x_iconst, y_if_eq_t, y_if_eq_f, b_X6_run_10, x_loadI_2, y_if_ne_t, y_if_ne_f, b_X6_run_19, x_loadR_0, x_loadS_0, f_6_0, x_iadd, b_X6_run_35, x_ret0, b_X6_run_38, x_storeI_3, x_loadI_3, y_ic_ge_t, y_ic_ge_f, b_X6_run_49, x_popI, x_popR, x_iinc_3, x_goto, b_X6_run_60, b_X6_run_67, b_X6_run_71, b_X6_run_78, b_X6_run_82, b_X6_run_86, f_6_4, x_isub, x_imul, y_iald_35, b_X6_run_98, q_isL_I, q_isL_R, q_isL_S, true_and, and_true, and_self, List.length_nil, List.length_cons, Nat.zero_add, x_K, x_Kn, Int.reduceToNat, Nat.reduceAdd, Nat.reduceMul, Nat.reduceLeDiff, Nat.reduceLT, Nat.zero_le, Int.reduceAdd, Int.reduceSub, Int.reduceMul, Int.reduceNeg, q_add_e, q_sub_e, q_mul_e, q_neg_e, q_upd_s, q_upd_n, zr_shr0, zr_shr1, zr_shr2, zr_shr3, zr_shr4, zr_and, zr_dyn8, zr_or, zr_shl, q_cpy_n, y_cpy26, c_X6_lays]
            exact lay _ [] hq
          · rw [if_neg k1, mW_2 (by omega)] at hq
            have t3 : (3 * (wt - 10)).toNat = 3 * (wt - 10).toNat := by omega
            simp (disch := omega) only [b_X6_run_0, x_loadI_1, x_iconst, y_if_eq_t, y_if_eq_f, b_X6_run_10, x_loadI_2, y_if_ne_t, y_if_ne_f, b_X6_run_19, x_loadR_0, x_loadS_0, f_6_0, x_iadd, b_X6_run_35, x_ret0, b_X6_run_38, x_storeI_3, x_loadI_3, y_ic_ge_t, y_ic_ge_f, b_X6_run_49, x_popI, x_popR, x_iinc_3, x_goto, b_X6_run_60, b_X6_run_67, b_X6_run_71, b_X6_run_78, b_X6_run_82, b_X6_run_86, f_6_4, x_isub, x_imul, y_iald_35, b_X6_run_98, q_isL_I, q_isL_R, q_isL_S, true_and, and_true, and_self, List.length_nil, List.length_cons, Nat.zero_add, x_K, x_Kn, Int.reduceToNat, Nat.reduceAdd, Nat.reduceMul, Nat.reduceLeDiff, Nat.reduceLT, Nat.zero_le, Int.reduceAdd, Int.reduceSub, Int.reduceMul, Int.reduceNeg, q_add_e, q_sub_e, q_mul_e, q_neg_e, q_upd_s, q_upd_n, zr_shr0, zr_shr1, zr_shr2, zr_shr3, zr_shr4, zr_and, zr_dyn8, zr_or, zr_shl, q_cpy_n, y_cpy26, t3, c_X6_lays]
            exact lay _ [] hq
        | succ j ih =>
          intro k hk M1 m1 w1 y1 e0 t1
          rw [b_X6_run_44]
          simp (disch := omega) only [b_X6_run_0, x_loadI_1, x_iconst, y_if_eq_t, y_if_eq_f, b_X6_run_10, x_loadI_2, y_if_ne_t, y_if_ne_f, b_X6_run_19, x_loadR_0, x_loadS_0, f_6_0, x_iadd, b_X6_run_35, x_ret0, b_X6_run_38, x_storeI_3, x_loadI_3, y_ic_ge_t, y_ic_ge_f, b_X6_run_49, x_popI, x_popR, x_iinc_3, x_goto, b_X6_run_60, b_X6_run_67, b_X6_run_71, b_X6_run_78, b_X6_run_82, b_X6_run_86, f_6_4, x_isub, x_imul, y_iald_35, b_X6_run_98, q_isL_I, q_isL_R, q_isL_S, true_and, and_true, and_self, List.length_nil, List.length_cons, Nat.zero_add, x_K, x_Kn, Int.reduceToNat, Nat.reduceAdd, Nat.reduceMul, Nat.reduceLeDiff, Nat.reduceLT, Nat.zero_le, Int.reduceAdd, Int.reduceSub, Int.reduceMul, Int.reduceNeg, q_add_e, q_sub_e, q_mul_e, q_neg_e, q_upd_s, q_upd_n, zr_shr0, zr_shr1, zr_shr2, zr_shr3, zr_shr4, zr_and, zr_dyn8, zr_or, zr_shl, q_cpy_n, y_cpy26, c_X6_yearOf]
          refine mp_yearT m1 (by omega) t1 (fun M2 m2 w2 y2 n2 t2 => ?_)
          simp (disch := omega) only [b_X6_run_0, x_loadI_1, x_iconst, y_if_eq_t, y_if_eq_f, b_X6_run_10, x_loadI_2, y_if_ne_t, y_if_ne_f, b_X6_run_19, x_loadR_0, x_loadS_0, f_6_0, x_iadd, b_X6_run_35, x_ret0, b_X6_run_38, x_storeI_3, x_loadI_3, y_ic_ge_t, y_ic_ge_f, b_X6_run_49, x_popI, x_popR, x_iinc_3, x_goto, b_X6_run_60, b_X6_run_67, b_X6_run_71, b_X6_run_78, b_X6_run_82, b_X6_run_86, f_6_4, x_isub, x_imul, y_iald_35, b_X6_run_98, q_isL_I, q_isL_R, q_isL_S, true_and, and_true, and_self, List.length_nil, List.length_cons, Nat.zero_add, x_K, x_Kn, Int.reduceToNat, Nat.reduceAdd, Nat.reduceMul, Nat.reduceLeDiff, Nat.reduceLT, Nat.zero_le, Int.reduceAdd, Int.reduceSub, Int.reduceMul, Int.reduceNeg, q_add_e, q_sub_e, q_mul_e, q_neg_e, q_upd_s, q_upd_n, zr_shr0, zr_shr1, zr_shr2, zr_shr3, zr_shr4, zr_and, zr_dyn8, zr_or, zr_shl, q_cpy_n, y_cpy26]
          exact ih (k + 1) (by omega) M2 m2 (by rw [w2, w1]; rfl) (by omega) (n2.trans e0) t2
      have keep : ∀ (nx : Nat) (ops : List Instr) (ls st : List q_V), (∀ M2 : q_M, q_ml V M2 → mW M2 = mW M → q_mt M M2 → q_T 1 (d + 8) qP_X6_run nx ops ls st g M2 Q) → q_S 1 (d + 7) 154 [qR 6 100] g M (q_K 1 (d + 8) qP_X6_run nx ops ls st Q) := fun nx ops ls st h => mp_keepT C.1 q_mq_rf h
      by_cases c3 : 0 ≤ wt ∧ wt ≤ 1
      · simp (disch := omega) only [b_X6_run_0, x_loadI_1, x_iconst, y_if_eq_t, y_if_eq_f, b_X6_run_10, x_loadI_2, y_if_ne_t, y_if_ne_f, b_X6_run_19, x_loadR_0, x_loadS_0, f_6_0, x_iadd, b_X6_run_35, x_ret0, b_X6_run_38, x_storeI_3, x_loadI_3, y_ic_ge_t, y_ic_ge_f, b_X6_run_49, x_popI, x_popR, x_iinc_3, x_goto, b_X6_run_60, b_X6_run_67, b_X6_run_71, b_X6_run_78, b_X6_run_82, b_X6_run_86, f_6_4, x_isub, x_imul, y_iald_35, b_X6_run_98, q_isL_I, q_isL_R, q_isL_S, true_and, and_true, and_self, List.length_nil, List.length_cons, Nat.zero_add, x_K, x_Kn, Int.reduceToNat, Nat.reduceAdd, Nat.reduceMul, Nat.reduceLeDiff, Nat.reduceLT, Nat.zero_le, Int.reduceAdd, Int.reduceSub, Int.reduceMul, Int.reduceNeg, q_add_e, q_sub_e, q_mul_e, q_neg_e, q_upd_s, q_upd_n, zr_shr0, zr_shr1, zr_shr2, zr_shr3, zr_shr4, zr_and, zr_dyn8, zr_or, zr_shl, q_cpy_n, y_cpy26, c_X6_in, mp_in, c1, and_self, if_true, c3, c_X6_keeps]
        refine keep _ _ _ _ (fun M2 m2 w2 t2 => ?_)
        have e5 : M2 100 5 = M 100 5 := by rw [← mW_91 (M := M2), w2, mW_91]
        have e0 : M2 100 0 = M 100 0 := by rw [← mW_90 (M := M2), w2, mW_90]
        simp (disch := omega) only [b_X6_run_0, x_loadI_1, x_iconst, y_if_eq_t, y_if_eq_f, b_X6_run_10, x_loadI_2, y_if_ne_t, y_if_ne_f, b_X6_run_19, x_loadR_0, x_loadS_0, f_6_0, x_iadd, b_X6_run_35, x_ret0, b_X6_run_38, x_storeI_3, x_loadI_3, y_ic_ge_t, y_ic_ge_f, b_X6_run_49, x_popI, x_popR, x_iinc_3, x_goto, b_X6_run_60, b_X6_run_67, b_X6_run_71, b_X6_run_78, b_X6_run_82, b_X6_run_86, f_6_4, x_isub, x_imul, y_iald_35, b_X6_run_98, q_isL_I, q_isL_R, q_isL_S, true_and, and_true, and_self, List.length_nil, List.length_cons, Nat.zero_add, x_K, x_Kn, Int.reduceToNat, Nat.reduceAdd, Nat.reduceMul, Nat.reduceLeDiff, Nat.reduceLT, Nat.zero_le, Int.reduceAdd, Int.reduceSub, Int.reduceMul, Int.reduceNeg, q_add_e, q_sub_e, q_mul_e, q_neg_e, q_upd_s, q_upd_n, zr_shr0, zr_shr1, zr_shr2, zr_shr3, zr_shr4, zr_and, zr_dyn8, zr_or, zr_shl, q_cpy_n, y_cpy26]
        exact loop N 0 (by omega) M2 m2 w2 (by omega) e0 t2
      · have c4 : 10 ≤ wt ∧ wt ≤ 9 + M 100 0 := Decidable.byContradiction (fun z => c2 ⟨c3, z⟩)
        simp (disch := omega) only [b_X6_run_0, x_loadI_1, x_iconst, y_if_eq_t, y_if_eq_f, b_X6_run_10, x_loadI_2, y_if_ne_t, y_if_ne_f, b_X6_run_19, x_loadR_0, x_loadS_0, f_6_0, x_iadd, b_X6_run_35, x_ret0, b_X6_run_38, x_storeI_3, x_loadI_3, y_ic_ge_t, y_ic_ge_f, b_X6_run_49, x_popI, x_popR, x_iinc_3, x_goto, b_X6_run_60, b_X6_run_67, b_X6_run_71, b_X6_run_78, b_X6_run_82, b_X6_run_86, f_6_4, x_isub, x_imul, y_iald_35, b_X6_run_98, q_isL_I, q_isL_R, q_isL_S, true_and, and_true, and_self, List.length_nil, List.length_cons, Nat.zero_add, x_K, x_Kn, Int.reduceToNat, Nat.reduceAdd, Nat.reduceMul, Nat.reduceLeDiff, Nat.reduceLT, Nat.zero_le, Int.reduceAdd, Int.reduceSub, Int.reduceMul, Int.reduceNeg, q_add_e, q_sub_e, q_mul_e, q_neg_e, q_upd_s, q_upd_n, zr_shr0, zr_shr1, zr_shr2, zr_shr3, zr_shr4, zr_and, zr_dyn8, zr_or, zr_shl, q_cpy_n, y_cpy26, c_X6_in, mp_in, c1, and_self, if_true, c3, if_false, c4, c_X6_keeps]
        refine keep _ _ _ _ (fun M2 m2 w2 t2 => ?_)
        have e5 : M2 100 5 = M 100 5 := by rw [← mW_91 (M := M2), w2, mW_91]
        have e0 : M2 100 0 = M 100 0 := by rw [← mW_90 (M := M2), w2, mW_90]
        simp (disch := omega) only [b_X6_run_0, x_loadI_1, x_iconst, y_if_eq_t, y_if_eq_f, b_X6_run_10, x_loadI_2, y_if_ne_t, y_if_ne_f, b_X6_run_19, x_loadR_0, x_loadS_0, f_6_0, x_iadd, b_X6_run_35, x_ret0, b_X6_run_38, x_storeI_3, x_loadI_3, y_ic_ge_t, y_ic_ge_f, b_X6_run_49, x_popI, x_popR, x_iinc_3, x_goto, b_X6_run_60, b_X6_run_67, b_X6_run_71, b_X6_run_78, b_X6_run_82, b_X6_run_86, f_6_4, x_isub, x_imul, y_iald_35, b_X6_run_98, q_isL_I, q_isL_R, q_isL_S, true_and, and_true, and_self, List.length_nil, List.length_cons, Nat.zero_add, x_K, x_Kn, Int.reduceToNat, Nat.reduceAdd, Nat.reduceMul, Nat.reduceLeDiff, Nat.reduceLT, Nat.zero_le, Int.reduceAdd, Int.reduceSub, Int.reduceMul, Int.reduceNeg, q_add_e, q_sub_e, q_mul_e, q_neg_e, q_upd_s, q_upd_n, zr_shr0, zr_shr1, zr_shr2, zr_shr3, zr_shr4, zr_and, zr_dyn8, zr_or, zr_shl, q_cpy_n, y_cpy26]
        exact loop N 0 (by omega) M2 m2 w2 (by omega) e0 t2
  · rw [if_pos (Or.inl c1)] at hq
    simp (disch := omega) only [b_X6_run_0, x_loadI_1, x_iconst, y_if_eq_t, y_if_eq_f, b_X6_run_10, x_loadI_2, y_if_ne_t, y_if_ne_f, b_X6_run_19, x_loadR_0, x_loadS_0, f_6_0, x_iadd, b_X6_run_35, x_ret0, b_X6_run_38, x_storeI_3, x_loadI_3, y_ic_ge_t, y_ic_ge_f, b_X6_run_49, x_popI, x_popR, x_iinc_3, x_goto, b_X6_run_60, b_X6_run_67, b_X6_run_71, b_X6_run_78, b_X6_run_82, b_X6_run_86, f_6_4, x_isub, x_imul, y_iald_35, b_X6_run_98, q_isL_I, q_isL_R, q_isL_S, true_and, and_true, and_self, List.length_nil, List.length_cons, Nat.zero_add, x_K, x_Kn, Int.reduceToNat, Nat.reduceAdd, Nat.reduceMul, Nat.reduceLeDiff, Nat.reduceLT, Nat.zero_le, Int.reduceAdd, Int.reduceSub, Int.reduceMul, Int.reduceNeg, q_add_e, q_sub_e, q_mul_e, q_neg_e, q_upd_s, q_upd_n, zr_shr0, zr_shr1, zr_shr2, zr_shr3, zr_shr4, zr_and, zr_dyn8, zr_or, zr_shl, q_cpy_n, y_cpy26, c_X6_in, mp_in, c1, if_false]
    exact hq M q_mq_rf
end
section
/-! THE MODEL: when, cart -/
def G_till (V : Nat → (Nat → Int) → Int) (S : q_M) (p : Nat) (b : Int) : Nat → Nat → Int
  | 0, y => if F_hit (G_ys V S y 4 p) b = true then y else -1
  | j + 1, y => if F_hit (G_ys V S y 4 p) b = true then y else G_till V S p b j (y + 1)
set_option maxHeartbeats 4000000 in
theorem mp_whenIn {V : Nat → (Nat → Int) → Int} {d dd : Nat} {g : q_G} {M M1 : q_M} {p : Nat} {b : Int} {P : q_P} {nx : Nat} {ops : List Instr} {ls st : List q_V} {Q : Option q_V → q_G → q_M → Prop} (hm : q_ml V M1) (hy : M1 100 5 ≤ 1500) (hp : p < (M1 100 0).toNat) (hb : b = -1 ∨ (0 ≤ b ∧ b ≤ 4)) (ht : q_mt M M1) (hq : ∀ M2 : q_M, q_mt M M2 → q_T 1 dd P nx ops ls (qI (G_till V (mW M1) p b 60 0) :: st) g M2 Q) : q_S 1 (d + 8) 157 [qR 6 100, qI p, qI b] g M1 (q_K 1 dd P nx ops ls st Q) := by
  have hpush : ∀ (v : Int) (M3 : q_M), q_K 1 dd P nx ops ls st Q (some (qI v)) g M3 = q_T 1 dd P nx ops ls (qI v :: st) g M3 Q := fun _ _ => rfl
  generalize q_K 1 dd P nx ops ls st Q = QQ at hpush ⊢
  have n1 := hm.1.1
  have hp5 : p < 5 := by omega
  rw [s_X6_whenIn]
  have out : ∀ (f : Nat) (k : Int) (l5 : q_V) (M3 : q_M), q_T 1 dd P nx ops ls (qI f :: st) g M3 Q → q_T 1 (d + 8) qP_X6_whenIn 5 [] [qR 6 100, qI p, qI b, qI f, qI k, l5] [] g M3 QQ := by
    intro f k l5 M3 h
    rw [b_X6_whenIn_5]
    by_cases c : 60 < k
    · simp (disch := omega) only [b_X6_whenIn_0, x_iconst, x_storeI_3, x_storeI_4, x_loadI_4, y_ic_gt_t, y_ic_gt_f, b_X6_whenIn_12, x_loadI_3, y_ic_ne_t, y_ic_ne_f, b_X6_whenIn_17, x_loadI_2, b_X6_whenIn_22, x_loadR_0, x_loadS_0, f_6_4, x_loadI_1, x_imul, x_iadd, y_iald_35, y_ic_eq_t, y_ic_eq_f, b_X6_whenIn_36, x_goto, b_X6_whenIn_40, b_X6_whenIn_44, b_X6_whenIn_58, b_X6_whenIn_62, b_X6_whenIn_63, x_storeI_5, x_loadI_5, y_if_eq_t, y_if_eq_f, b_X6_whenIn_70, b_X6_whenIn_75, b_X6_whenIn_76, x_popI, x_popR, x_iinc_4, b_X6_whenIn_88, x_ret0, q_isL_I, q_isL_R, q_isL_S, true_and, and_true, and_self, List.length_nil, List.length_cons, Nat.zero_add, x_K, x_Kn, Int.reduceToNat, Nat.reduceAdd, Nat.reduceMul, Nat.reduceLeDiff, Nat.reduceLT, Nat.zero_le, Int.reduceAdd, Int.reduceSub, Int.reduceMul, Int.reduceNeg, q_add_e, q_sub_e, q_mul_e, q_neg_e, q_upd_s, q_upd_n, zr_shr0, zr_shr1, zr_shr2, zr_shr3, zr_shr4, zr_and, zr_dyn8, zr_or, zr_shl, q_cpy_n, y_cpy26]
      rw [hpush]
      exact h
    · simp (disch := omega) only [b_X6_whenIn_0, x_iconst, x_storeI_3, x_storeI_4, x_loadI_4, y_ic_gt_t, y_ic_gt_f, b_X6_whenIn_12, x_loadI_3, y_ic_ne_t, y_ic_ne_f, b_X6_whenIn_17, x_loadI_2, b_X6_whenIn_22, x_loadR_0, x_loadS_0, f_6_4, x_loadI_1, x_imul, x_iadd, y_iald_35, y_ic_eq_t, y_ic_eq_f, b_X6_whenIn_36, x_goto, b_X6_whenIn_40, b_X6_whenIn_44, b_X6_whenIn_58, b_X6_whenIn_62, b_X6_whenIn_63, x_storeI_5, x_loadI_5, y_if_eq_t, y_if_eq_f, b_X6_whenIn_70, b_X6_whenIn_75, b_X6_whenIn_76, x_popI, x_popR, x_iinc_4, b_X6_whenIn_88, x_ret0, q_isL_I, q_isL_R, q_isL_S, true_and, and_true, and_self, List.length_nil, List.length_cons, Nat.zero_add, x_K, x_Kn, Int.reduceToNat, Nat.reduceAdd, Nat.reduceMul, Nat.reduceLeDiff, Nat.reduceLT, Nat.zero_le, Int.reduceAdd, Int.reduceSub, Int.reduceMul, Int.reduceNeg, q_add_e, q_sub_e, q_mul_e, q_neg_e, q_upd_s, q_upd_n, zr_shr0, zr_shr1, zr_shr2, zr_shr3, zr_shr4, zr_and, zr_dyn8, zr_or, zr_shl, q_cpy_n, y_cpy26]
      rw [hpush]
      exact h
  have loop : ∀ j k : Nat, k + j = 60 → ∀ (M2 : q_M) (l5 : q_V), q_isL l5 = false → q_ml V M2 → mW M2 = G_ys V (mW M1) k → M2 100 5 + j ≤ 1900 → M2 100 0 = M1 100 0 → q_mt M M2 → (∀ M3 : q_M, q_mt M M3 → q_T 1 dd P nx ops ls (qI (G_till V (mW M1) p b j k) :: st) g M3 Q) → q_T 1 (d + 8) qP_X6_whenIn 5 [] [qR 6 100, qI p, qI b, qI (-1), qI k, l5] [] g M2 QQ := by
    have test : ∀ (k : Nat) (M2 : q_M) (l5 : q_V), k ≤ 60 → q_isL l5 = false → q_ml V M2 → mW M2 = G_ys V (mW M1) k → M2 100 0 = M1 100 0 → q_T 1 (d + 8) qP_X6_whenIn 63 [] [qR 6 100, qI p, qI b, qI (-1), qI k, l5] [qI (if F_hit (G_ys V (mW M1) k 4 p) b = true then 1 else 0)] g M2 QQ → q_T 1 (d + 8) qP_X6_whenIn 5 [] [qR 6 100, qI p, qI b, qI (-1), qI k, l5] [] g M2 QQ := by
      intro k M2 l5 hk hl5 m2 w2 e0 h
      have hin : G_ys V (mW M1) k 4 p = mIn M2 p := by rw [← w2]; exact mW_4 (by rw [e0]; exact hp)
      have r6 := m2.1.2.2.2.2.2.2.1 p hp5
      rw [hin] at h
      rw [b_X6_whenIn_5]
      rcases hb with k1 | k1
      · subst k1
        by_cases c : M2 104 (3 * p + 2) = -1
        · rw [if_neg (show ¬F_hit (mIn M2 p) (-1) = true by
            unfold F_hit mIn
            rw [if_pos c]
            simp)] at h
          simp (disch := omega) only [b_X6_whenIn_0, x_iconst, x_storeI_3, x_storeI_4, x_loadI_4, y_ic_gt_t, y_ic_gt_f, b_X6_whenIn_12, x_loadI_3, y_ic_ne_t, y_ic_ne_f, b_X6_whenIn_17, x_loadI_2, b_X6_whenIn_22, x_loadR_0, x_loadS_0, f_6_4, x_loadI_1, x_imul, x_iadd, y_iald_35, y_ic_eq_t, y_ic_eq_f, b_X6_whenIn_36, x_goto, b_X6_whenIn_40, b_X6_whenIn_44, b_X6_whenIn_58, b_X6_whenIn_62, x_storeI_5, x_loadI_5, y_if_eq_t, y_if_eq_f, b_X6_whenIn_70, b_X6_whenIn_75, b_X6_whenIn_76, x_popI, x_popR, x_iinc_4, b_X6_whenIn_88, x_ret0, q_isL_I, q_isL_R, q_isL_S, true_and, and_true, and_self, List.length_nil, List.length_cons, Nat.zero_add, x_K, x_Kn, Int.reduceToNat, Nat.reduceAdd, Nat.reduceMul, Nat.reduceLeDiff, Nat.reduceLT, Nat.zero_le, Int.reduceAdd, Int.reduceSub, Int.reduceMul, Int.reduceNeg, q_add_e, q_sub_e, q_mul_e, q_neg_e, q_upd_s, q_upd_n, zr_shr0, zr_shr1, zr_shr2, zr_shr3, zr_shr4, zr_and, zr_dyn8, zr_or, zr_shl, q_cpy_n, y_cpy26, Int.toNat_natCast, tn_32]
          exact h
        · rw [if_pos (show F_hit (mIn M2 p) (-1) = true by
            refine decide_eq_true (Or.inl ⟨rfl, ?_⟩)
            unfold mIn
            rw [if_neg c]
            omega)] at h
          simp (disch := omega) only [b_X6_whenIn_0, x_iconst, x_storeI_3, x_storeI_4, x_loadI_4, y_ic_gt_t, y_ic_gt_f, b_X6_whenIn_12, x_loadI_3, y_ic_ne_t, y_ic_ne_f, b_X6_whenIn_17, x_loadI_2, b_X6_whenIn_22, x_loadR_0, x_loadS_0, f_6_4, x_loadI_1, x_imul, x_iadd, y_iald_35, y_ic_eq_t, y_ic_eq_f, b_X6_whenIn_36, x_goto, b_X6_whenIn_40, b_X6_whenIn_44, b_X6_whenIn_58, b_X6_whenIn_62, x_storeI_5, x_loadI_5, y_if_eq_t, y_if_eq_f, b_X6_whenIn_70, b_X6_whenIn_75, b_X6_whenIn_76, x_popI, x_popR, x_iinc_4, b_X6_whenIn_88, x_ret0, q_isL_I, q_isL_R, q_isL_S, true_and, and_true, and_self, List.length_nil, List.length_cons, Nat.zero_add, x_K, x_Kn, Int.reduceToNat, Nat.reduceAdd, Nat.reduceMul, Nat.reduceLeDiff, Nat.reduceLT, Nat.zero_le, Int.reduceAdd, Int.reduceSub, Int.reduceMul, Int.reduceNeg, q_add_e, q_sub_e, q_mul_e, q_neg_e, q_upd_s, q_upd_n, zr_shr0, zr_shr1, zr_shr2, zr_shr3, zr_shr4, zr_and, zr_dyn8, zr_or, zr_shl, q_cpy_n, y_cpy26, Int.toNat_natCast, tn_32]
          exact h
      · by_cases c : M2 104 (3 * p + 2) = b
        · rw [if_pos (show F_hit (mIn M2 p) b = true by
            refine decide_eq_true (Or.inr ⟨by omega, ?_⟩)
            unfold mIn
            rw [if_neg (by omega)]
            exact c)] at h
          simp (disch := omega) only [b_X6_whenIn_0, x_iconst, x_storeI_3, x_storeI_4, x_loadI_4, y_ic_gt_t, y_ic_gt_f, b_X6_whenIn_12, x_loadI_3, y_ic_ne_t, y_ic_ne_f, b_X6_whenIn_17, x_loadI_2, b_X6_whenIn_22, x_loadR_0, x_loadS_0, f_6_4, x_loadI_1, x_imul, x_iadd, y_iald_35, y_ic_eq_t, y_ic_eq_f, b_X6_whenIn_36, x_goto, b_X6_whenIn_40, b_X6_whenIn_44, b_X6_whenIn_58, b_X6_whenIn_62, x_storeI_5, x_loadI_5, y_if_eq_t, y_if_eq_f, b_X6_whenIn_70, b_X6_whenIn_75, b_X6_whenIn_76, x_popI, x_popR, x_iinc_4, b_X6_whenIn_88, x_ret0, q_isL_I, q_isL_R, q_isL_S, true_and, and_true, and_self, List.length_nil, List.length_cons, Nat.zero_add, x_K, x_Kn, Int.reduceToNat, Nat.reduceAdd, Nat.reduceMul, Nat.reduceLeDiff, Nat.reduceLT, Nat.zero_le, Int.reduceAdd, Int.reduceSub, Int.reduceMul, Int.reduceNeg, q_add_e, q_sub_e, q_mul_e, q_neg_e, q_upd_s, q_upd_n, zr_shr0, zr_shr1, zr_shr2, zr_shr3, zr_shr4, zr_and, zr_dyn8, zr_or, zr_shl, q_cpy_n, y_cpy26, Int.toNat_natCast, tn_32]
          exact h
        · rw [if_neg (show ¬F_hit (mIn M2 p) b = true by
            intro z
            have z2 := of_decide_eq_true z
            unfold mIn at z2
            split at z2 <;> omega)] at h
          simp (disch := omega) only [b_X6_whenIn_0, x_iconst, x_storeI_3, x_storeI_4, x_loadI_4, y_ic_gt_t, y_ic_gt_f, b_X6_whenIn_12, x_loadI_3, y_ic_ne_t, y_ic_ne_f, b_X6_whenIn_17, x_loadI_2, b_X6_whenIn_22, x_loadR_0, x_loadS_0, f_6_4, x_loadI_1, x_imul, x_iadd, y_iald_35, y_ic_eq_t, y_ic_eq_f, b_X6_whenIn_36, x_goto, b_X6_whenIn_40, b_X6_whenIn_44, b_X6_whenIn_58, b_X6_whenIn_62, x_storeI_5, x_loadI_5, y_if_eq_t, y_if_eq_f, b_X6_whenIn_70, b_X6_whenIn_75, b_X6_whenIn_76, x_popI, x_popR, x_iinc_4, b_X6_whenIn_88, x_ret0, q_isL_I, q_isL_R, q_isL_S, true_and, and_true, and_self, List.length_nil, List.length_cons, Nat.zero_add, x_K, x_Kn, Int.reduceToNat, Nat.reduceAdd, Nat.reduceMul, Nat.reduceLeDiff, Nat.reduceLT, Nat.zero_le, Int.reduceAdd, Int.reduceSub, Int.reduceMul, Int.reduceNeg, q_add_e, q_sub_e, q_mul_e, q_neg_e, q_upd_s, q_upd_n, zr_shr0, zr_shr1, zr_shr2, zr_shr3, zr_shr4, zr_and, zr_dyn8, zr_or, zr_shl, q_cpy_n, y_cpy26, Int.toNat_natCast, tn_32]
          exact h
    intro j
    induction j with
    | zero =>
      intro k hk M2 l5 hl5 m2 w2 y2 e0 t2 hq
      have e : k = 60 := by omega
      subst e
      refine test 60 M2 l5 (by omega) hl5 m2 w2 e0 ?_
      rw [G_till] at hq
      rw [b_X6_whenIn_63]
      by_cases c : F_hit (G_ys V (mW M1) 60 4 p) b = true
      · rw [if_pos c] at hq
        simp (disch := omega) only [b_X6_whenIn_0, x_iconst, x_storeI_3, x_storeI_4, x_loadI_4, y_ic_gt_t, y_ic_gt_f, b_X6_whenIn_12, x_loadI_3, y_ic_ne_t, y_ic_ne_f, b_X6_whenIn_17, x_loadI_2, b_X6_whenIn_22, x_loadR_0, x_loadS_0, f_6_4, x_loadI_1, x_imul, x_iadd, y_iald_35, y_ic_eq_t, y_ic_eq_f, b_X6_whenIn_36, x_goto, b_X6_whenIn_40, b_X6_whenIn_44, b_X6_whenIn_58, b_X6_whenIn_62, b_X6_whenIn_63, x_storeI_5, x_loadI_5, y_if_eq_t, y_if_eq_f, b_X6_whenIn_70, b_X6_whenIn_75, b_X6_whenIn_76, x_popI, x_popR, x_iinc_4, b_X6_whenIn_88, x_ret0, q_isL_I, q_isL_R, q_isL_S, true_and, and_true, and_self, List.length_nil, List.length_cons, Nat.zero_add, x_K, x_Kn, Int.reduceToNat, Nat.reduceAdd, Nat.reduceMul, Nat.reduceLeDiff, Nat.reduceLT, Nat.zero_le, Int.reduceAdd, Int.reduceSub, Int.reduceMul, Int.reduceNeg, q_add_e, q_sub_e, q_mul_e, q_neg_e, q_upd_s, q_upd_n, zr_shr0, zr_shr1, zr_shr2, zr_shr3, zr_shr4, zr_and, zr_dyn8, zr_or, zr_shl, q_cpy_n, y_cpy26, c, if_true, hl5, c_X6_yearOf]
        refine mp_yearT m2 (by omega) t2 (fun M3 m3 w3 y3 n3 t3 => ?_)
        simp (disch := omega) only [b_X6_whenIn_0, x_iconst, x_storeI_3, x_storeI_4, x_loadI_4, y_ic_gt_t, y_ic_gt_f, b_X6_whenIn_12, x_loadI_3, y_ic_ne_t, y_ic_ne_f, b_X6_whenIn_17, x_loadI_2, b_X6_whenIn_22, x_loadR_0, x_loadS_0, f_6_4, x_loadI_1, x_imul, x_iadd, y_iald_35, y_ic_eq_t, y_ic_eq_f, b_X6_whenIn_36, x_goto, b_X6_whenIn_40, b_X6_whenIn_44, b_X6_whenIn_58, b_X6_whenIn_62, b_X6_whenIn_63, x_storeI_5, x_loadI_5, y_if_eq_t, y_if_eq_f, b_X6_whenIn_70, b_X6_whenIn_75, b_X6_whenIn_76, x_popI, x_popR, x_iinc_4, b_X6_whenIn_88, x_ret0, q_isL_I, q_isL_R, q_isL_S, true_and, and_true, and_self, List.length_nil, List.length_cons, Nat.zero_add, x_K, x_Kn, Int.reduceToNat, Nat.reduceAdd, Nat.reduceMul, Nat.reduceLeDiff, Nat.reduceLT, Nat.zero_le, Int.reduceAdd, Int.reduceSub, Int.reduceMul, Int.reduceNeg, q_add_e, q_sub_e, q_mul_e, q_neg_e, q_upd_s, q_upd_n, zr_shr0, zr_shr1, zr_shr2, zr_shr3, zr_shr4, zr_and, zr_dyn8, zr_or, zr_shl, q_cpy_n, y_cpy26]
        exact out 60 _ _ M3 (hq M3 t3)
      · rw [if_neg c] at hq
        simp (disch := omega) only [b_X6_whenIn_0, x_iconst, x_storeI_3, x_storeI_4, x_loadI_4, y_ic_gt_t, y_ic_gt_f, b_X6_whenIn_12, x_loadI_3, y_ic_ne_t, y_ic_ne_f, b_X6_whenIn_17, x_loadI_2, b_X6_whenIn_22, x_loadR_0, x_loadS_0, f_6_4, x_loadI_1, x_imul, x_iadd, y_iald_35, y_ic_eq_t, y_ic_eq_f, b_X6_whenIn_36, x_goto, b_X6_whenIn_40, b_X6_whenIn_44, b_X6_whenIn_58, b_X6_whenIn_62, b_X6_whenIn_63, x_storeI_5, x_loadI_5, y_if_eq_t, y_if_eq_f, b_X6_whenIn_70, b_X6_whenIn_75, b_X6_whenIn_76, x_popI, x_popR, x_iinc_4, b_X6_whenIn_88, x_ret0, q_isL_I, q_isL_R, q_isL_S, true_and, and_true, and_self, List.length_nil, List.length_cons, Nat.zero_add, x_K, x_Kn, Int.reduceToNat, Nat.reduceAdd, Nat.reduceMul, Nat.reduceLeDiff, Nat.reduceLT, Nat.zero_le, Int.reduceAdd, Int.reduceSub, Int.reduceMul, Int.reduceNeg, q_add_e, q_sub_e, q_mul_e, q_neg_e, q_upd_s, q_upd_n, zr_shr0, zr_shr1, zr_shr2, zr_shr3, zr_shr4, zr_and, zr_dyn8, zr_or, zr_shl, q_cpy_n, y_cpy26, c, Bool.false_eq_true, if_false, hl5, c_X6_yearOf]
        refine mp_yearT m2 (by omega) t2 (fun M3 m3 w3 y3 n3 t3 => ?_)
        simp (disch := omega) only [b_X6_whenIn_0, x_iconst, x_storeI_3, x_storeI_4, b_X6_whenIn_5, x_loadI_4, y_ic_gt_t, y_ic_gt_f, b_X6_whenIn_12, x_loadI_3, y_ic_ne_t, y_ic_ne_f, b_X6_whenIn_17, x_loadI_2, b_X6_whenIn_22, x_loadR_0, x_loadS_0, f_6_4, x_loadI_1, x_imul, x_iadd, y_iald_35, y_ic_eq_t, y_ic_eq_f, b_X6_whenIn_36, x_goto, b_X6_whenIn_40, b_X6_whenIn_44, b_X6_whenIn_58, b_X6_whenIn_62, b_X6_whenIn_63, x_storeI_5, x_loadI_5, y_if_eq_t, y_if_eq_f, b_X6_whenIn_70, b_X6_whenIn_75, b_X6_whenIn_76, x_popI, x_popR, x_iinc_4, b_X6_whenIn_88, x_ret0, q_isL_I, q_isL_R, q_isL_S, true_and, and_true, and_self, List.length_nil, List.length_cons, Nat.zero_add, x_K, x_Kn, Int.reduceToNat, Nat.reduceAdd, Nat.reduceMul, Nat.reduceLeDiff, Nat.reduceLT, Nat.zero_le, Int.reduceAdd, Int.reduceSub, Int.reduceMul, Int.reduceNeg, q_add_e, q_sub_e, q_mul_e, q_neg_e, q_upd_s, q_upd_n, zr_shr0, zr_shr1, zr_shr2, zr_shr3, zr_shr4, zr_and, zr_dyn8, zr_or, zr_shl, q_cpy_n, y_cpy26]
        rw [hpush]
        exact hq M3 t3
    | succ j ih =>
      intro k hk M2 l5 hl5 m2 w2 y2 e0 t2 hq
      refine test k M2 l5 (by omega) hl5 m2 w2 e0 ?_
      rw [G_till] at hq
      rw [b_X6_whenIn_63]
      by_cases c : F_hit (G_ys V (mW M1) k 4 p) b = true
      · rw [if_pos c] at hq
        simp (disch := omega) only [b_X6_whenIn_0, x_iconst, x_storeI_3, x_storeI_4, x_loadI_4, y_ic_gt_t, y_ic_gt_f, b_X6_whenIn_12, x_loadI_3, y_ic_ne_t, y_ic_ne_f, b_X6_whenIn_17, x_loadI_2, b_X6_whenIn_22, x_loadR_0, x_loadS_0, f_6_4, x_loadI_1, x_imul, x_iadd, y_iald_35, y_ic_eq_t, y_ic_eq_f, b_X6_whenIn_36, x_goto, b_X6_whenIn_40, b_X6_whenIn_44, b_X6_whenIn_58, b_X6_whenIn_62, b_X6_whenIn_63, x_storeI_5, x_loadI_5, y_if_eq_t, y_if_eq_f, b_X6_whenIn_70, b_X6_whenIn_75, b_X6_whenIn_76, x_popI, x_popR, x_iinc_4, b_X6_whenIn_88, x_ret0, q_isL_I, q_isL_R, q_isL_S, true_and, and_true, and_self, List.length_nil, List.length_cons, Nat.zero_add, x_K, x_Kn, Int.reduceToNat, Nat.reduceAdd, Nat.reduceMul, Nat.reduceLeDiff, Nat.reduceLT, Nat.zero_le, Int.reduceAdd, Int.reduceSub, Int.reduceMul, Int.reduceNeg, q_add_e, q_sub_e, q_mul_e, q_neg_e, q_upd_s, q_upd_n, zr_shr0, zr_shr1, zr_shr2, zr_shr3, zr_shr4, zr_and, zr_dyn8, zr_or, zr_shl, q_cpy_n, y_cpy26, c, if_true, hl5, c_X6_yearOf]
        refine mp_yearT m2 (by omega) t2 (fun M3 m3 w3 y3 n3 t3 => ?_)
        simp (disch := omega) only [b_X6_whenIn_0, x_iconst, x_storeI_3, x_storeI_4, x_loadI_4, y_ic_gt_t, y_ic_gt_f, b_X6_whenIn_12, x_loadI_3, y_ic_ne_t, y_ic_ne_f, b_X6_whenIn_17, x_loadI_2, b_X6_whenIn_22, x_loadR_0, x_loadS_0, f_6_4, x_loadI_1, x_imul, x_iadd, y_iald_35, y_ic_eq_t, y_ic_eq_f, b_X6_whenIn_36, x_goto, b_X6_whenIn_40, b_X6_whenIn_44, b_X6_whenIn_58, b_X6_whenIn_62, b_X6_whenIn_63, x_storeI_5, x_loadI_5, y_if_eq_t, y_if_eq_f, b_X6_whenIn_70, b_X6_whenIn_75, b_X6_whenIn_76, x_popI, x_popR, x_iinc_4, b_X6_whenIn_88, x_ret0, q_isL_I, q_isL_R, q_isL_S, true_and, and_true, and_self, List.length_nil, List.length_cons, Nat.zero_add, x_K, x_Kn, Int.reduceToNat, Nat.reduceAdd, Nat.reduceMul, Nat.reduceLeDiff, Nat.reduceLT, Nat.zero_le, Int.reduceAdd, Int.reduceSub, Int.reduceMul, Int.reduceNeg, q_add_e, q_sub_e, q_mul_e, q_neg_e, q_upd_s, q_upd_n, zr_shr0, zr_shr1, zr_shr2, zr_shr3, zr_shr4, zr_and, zr_dyn8, zr_or, zr_shl, q_cpy_n, y_cpy26]
        exact out k _ _ M3 (hq M3 t3)
      · rw [if_neg c] at hq
        simp (disch := omega) only [b_X6_whenIn_0, x_iconst, x_storeI_3, x_storeI_4, x_loadI_4, y_ic_gt_t, y_ic_gt_f, b_X6_whenIn_12, x_loadI_3, y_ic_ne_t, y_ic_ne_f, b_X6_whenIn_17, x_loadI_2, b_X6_whenIn_22, x_loadR_0, x_loadS_0, f_6_4, x_loadI_1, x_imul, x_iadd, y_iald_35, y_ic_eq_t, y_ic_eq_f, b_X6_whenIn_36, x_goto, b_X6_whenIn_40, b_X6_whenIn_44, b_X6_whenIn_58, b_X6_whenIn_62, b_X6_whenIn_63, x_storeI_5, x_loadI_5, y_if_eq_t, y_if_eq_f, b_X6_whenIn_70, b_X6_whenIn_75, b_X6_whenIn_76, x_popI, x_popR, x_iinc_4, b_X6_whenIn_88, x_ret0, q_isL_I, q_isL_R, q_isL_S, true_and, and_true, and_self, List.length_nil, List.length_cons, Nat.zero_add, x_K, x_Kn, Int.reduceToNat, Nat.reduceAdd, Nat.reduceMul, Nat.reduceLeDiff, Nat.reduceLT, Nat.zero_le, Int.reduceAdd, Int.reduceSub, Int.reduceMul, Int.reduceNeg, q_add_e, q_sub_e, q_mul_e, q_neg_e, q_upd_s, q_upd_n, zr_shr0, zr_shr1, zr_shr2, zr_shr3, zr_shr4, zr_and, zr_dyn8, zr_or, zr_shl, q_cpy_n, y_cpy26, c, Bool.false_eq_true, if_false, hl5, c_X6_yearOf]
        refine mp_yearT m2 (by omega) t2 (fun M3 m3 w3 y3 n3 t3 => ?_)
        simp (disch := omega) only [b_X6_whenIn_0, x_iconst, x_storeI_3, x_storeI_4, x_loadI_4, y_ic_gt_t, y_ic_gt_f, b_X6_whenIn_12, x_loadI_3, y_ic_ne_t, y_ic_ne_f, b_X6_whenIn_17, x_loadI_2, b_X6_whenIn_22, x_loadR_0, x_loadS_0, f_6_4, x_loadI_1, x_imul, x_iadd, y_iald_35, y_ic_eq_t, y_ic_eq_f, b_X6_whenIn_36, x_goto, b_X6_whenIn_40, b_X6_whenIn_44, b_X6_whenIn_58, b_X6_whenIn_62, b_X6_whenIn_63, x_storeI_5, x_loadI_5, y_if_eq_t, y_if_eq_f, b_X6_whenIn_70, b_X6_whenIn_75, b_X6_whenIn_76, x_popI, x_popR, x_iinc_4, b_X6_whenIn_88, x_ret0, q_isL_I, q_isL_R, q_isL_S, true_and, and_true, and_self, List.length_nil, List.length_cons, Nat.zero_add, x_K, x_Kn, Int.reduceToNat, Nat.reduceAdd, Nat.reduceMul, Nat.reduceLeDiff, Nat.reduceLT, Nat.zero_le, Int.reduceAdd, Int.reduceSub, Int.reduceMul, Int.reduceNeg, q_add_e, q_sub_e, q_mul_e, q_neg_e, q_upd_s, q_upd_n, zr_shr0, zr_shr1, zr_shr2, zr_shr3, zr_shr4, zr_and, zr_dyn8, zr_or, zr_shl, q_cpy_n, y_cpy26]
        exact ih (k + 1) (by omega) M3 _ rfl m3 (by rw [w3, w2]; rfl) (by omega) (n3.trans e0) t3 hq
  simp (disch := omega) only [b_X6_whenIn_0, x_iconst, x_storeI_3, x_storeI_4, x_loadI_4, y_ic_gt_t, y_ic_gt_f, b_X6_whenIn_12, x_loadI_3, y_ic_ne_t, y_ic_ne_f, b_X6_whenIn_17, x_loadI_2, b_X6_whenIn_22, x_loadR_0, x_loadS_0, f_6_4, x_loadI_1, x_imul, x_iadd, y_iald_35, y_ic_eq_t, y_ic_eq_f, b_X6_whenIn_36, x_goto, b_X6_whenIn_40, b_X6_whenIn_44, b_X6_whenIn_58, b_X6_whenIn_62, b_X6_whenIn_63, x_storeI_5, x_loadI_5, y_if_eq_t, y_if_eq_f, b_X6_whenIn_70, b_X6_whenIn_75, b_X6_whenIn_76, x_popI, x_popR, x_iinc_4, b_X6_whenIn_88, x_ret0, q_isL_I, q_isL_R, q_isL_S, true_and, and_true, and_self, List.length_nil, List.length_cons, Nat.zero_add, x_K, x_Kn, Int.reduceToNat, Nat.reduceAdd, Nat.reduceMul, Nat.reduceLeDiff, Nat.reduceLT, Nat.zero_le, Int.reduceAdd, Int.reduceSub, Int.reduceMul, Int.reduceNeg, q_add_e, q_sub_e, q_mul_e, q_neg_e, q_upd_s, q_upd_n, zr_shr0, zr_shr1, zr_shr2, zr_shr3, zr_shr4, zr_and, zr_dyn8, zr_or, zr_shl, q_cpy_n, y_cpy26]
  exact loop 60 0 rfl M1 _ rfl hm rfl (by omega) rfl ht hq
def B_when (V : Nat → (Nat → Int) → Int) (S : q_M) (p wt : Int) : Int := if ¬(0 ≤ p ∧ p ≤ S 9 0 - 1) then -5 else if ¬(-1 ≤ wt ∧ wt ≤ 4) then -7 else G_till V S p.toNat wt 60 0
set_option maxHeartbeats 4000000 in
theorem mp_when {V : Nat → (Nat → Int) → Int} {d : Nat} {g : q_G} {M : q_M} {p wt : Int} {Q : Option q_V → q_G → q_M → Prop} (C : q_mi V M) (hq : ∀ M2 : q_M, q_mq M M2 → Q (some (qI (B_when V (mW M) p wt))) g M2) : q_S 1 (d + 9) 158 [qR 6 100, qI p, qI wt] g M Q := by
  have n0 := C.1.1.1
  have y0 := C.1.1.2.1
  have y9 := C.2.1
  rw [s_X6_when]
  unfold B_when at hq
  rw [mW_90] at hq
  by_cases c1 : 0 ≤ p ∧ p ≤ M 100 0 - 1
  · rw [if_neg (fun z => z c1)] at hq
    by_cases c2 : -1 ≤ wt ∧ wt ≤ 4
    · rw [if_neg (fun z => z c2)] at hq
      obtain ⟨N, rfl⟩ : ∃ N : Nat, p = N := ⟨p.toNat, by omega⟩
      rw [Int.toNat_natCast] at hq
      simp (disch := omega) only [b_X6_when_0, x_loadR_0, x_loadS_0, x_loadI_1, y_if_ne_t, y_if_ne_f, b_X6_when_8, x_iconst, x_ret0, b_X6_when_11, x_loadI_2, b_X6_when_20, b_X6_when_23, x_storeI_3, x_loadI_3, q_isL_I, q_isL_R, q_isL_S, true_and, and_true, and_self, List.length_nil, List.length_cons, Nat.zero_add, x_K, x_Kn, Int.reduceToNat, Nat.reduceAdd, Nat.reduceMul, Nat.reduceLeDiff, Nat.reduceLT, Nat.zero_le, Int.reduceAdd, Int.reduceSub, Int.reduceMul, Int.reduceNeg, q_add_e, q_sub_e, q_mul_e, q_neg_e, q_upd_s, q_upd_n, zr_shr0, zr_shr1, zr_shr2, zr_shr3, zr_shr4, zr_and, zr_dyn8, zr_or, zr_shl, q_cpy_n, y_cpy26, c_X6_isStone, mp_isStone, c1, c_X6_in, mp_in, c2, and_self, if_true, c_X6_keeps]
      refine mp_keepT C.1 q_mq_rf (fun M2 m2 w2 t2 => ?_)
      have e5 : M2 100 5 = M 100 5 := by rw [← mW_91 (M := M2), w2, mW_91]
      have e0 : M2 100 0 = M 100 0 := by rw [← mW_90 (M := M2), w2, mW_90]
      simp (disch := omega) only [b_X6_when_0, x_loadR_0, x_loadS_0, x_loadI_1, y_if_ne_t, y_if_ne_f, b_X6_when_8, x_iconst, x_ret0, b_X6_when_11, x_loadI_2, b_X6_when_20, b_X6_when_23, x_storeI_3, x_loadI_3, q_isL_I, q_isL_R, q_isL_S, true_and, and_true, and_self, List.length_nil, List.length_cons, Nat.zero_add, x_K, x_Kn, Int.reduceToNat, Nat.reduceAdd, Nat.reduceMul, Nat.reduceLeDiff, Nat.reduceLT, Nat.zero_le, Int.reduceAdd, Int.reduceSub, Int.reduceMul, Int.reduceNeg, q_add_e, q_sub_e, q_mul_e, q_neg_e, q_upd_s, q_upd_n, zr_shr0, zr_shr1, zr_shr2, zr_shr3, zr_shr4, zr_and, zr_dyn8, zr_or, zr_shl, q_cpy_n, y_cpy26, c_X6_whenIn]
      refine mp_whenIn m2 (by omega) (by rw [e0]; omega) (by omega) t2 (fun M3 t3 => ?_)
      simp (disch := omega) only [b_X6_when_0, x_loadR_0, x_loadS_0, x_loadI_1, y_if_ne_t, y_if_ne_f, b_X6_when_8, x_iconst, x_ret0, b_X6_when_11, x_loadI_2, b_X6_when_20, b_X6_when_23, x_storeI_3, x_loadI_3, q_isL_I, q_isL_R, q_isL_S, true_and, and_true, and_self, List.length_nil, List.length_cons, Nat.zero_add, x_K, x_Kn, Int.reduceToNat, Nat.reduceAdd, Nat.reduceMul, Nat.reduceLeDiff, Nat.reduceLT, Nat.zero_le, Int.reduceAdd, Int.reduceSub, Int.reduceMul, Int.reduceNeg, q_add_e, q_sub_e, q_mul_e, q_neg_e, q_upd_s, q_upd_n, zr_shr0, zr_shr1, zr_shr2, zr_shr3, zr_shr4, zr_and, zr_dyn8, zr_or, zr_shl, q_cpy_n, y_cpy26, c_X6_lays]
      refine mp_layT t3 (fun M4 h4 _ => ?_)
      simp (disch := omega) only [b_X6_when_0, x_loadR_0, x_loadS_0, x_loadI_1, y_if_ne_t, y_if_ne_f, b_X6_when_8, x_iconst, x_ret0, b_X6_when_11, x_loadI_2, b_X6_when_20, b_X6_when_23, x_storeI_3, x_loadI_3, q_isL_I, q_isL_R, q_isL_S, true_and, and_true, and_self, List.length_nil, List.length_cons, Nat.zero_add, x_K, x_Kn, Int.reduceToNat, Nat.reduceAdd, Nat.reduceMul, Nat.reduceLeDiff, Nat.reduceLT, Nat.zero_le, Int.reduceAdd, Int.reduceSub, Int.reduceMul, Int.reduceNeg, q_add_e, q_sub_e, q_mul_e, q_neg_e, q_upd_s, q_upd_n, zr_shr0, zr_shr1, zr_shr2, zr_shr3, zr_shr4, zr_and, zr_dyn8, zr_or, zr_shl, q_cpy_n, y_cpy26]
      rw [w2]
      exact hq M4 h4
    · rw [if_pos c2] at hq
      simp (disch := omega) only [b_X6_when_0, x_loadR_0, x_loadS_0, x_loadI_1, y_if_ne_t, y_if_ne_f, b_X6_when_8, x_iconst, x_ret0, b_X6_when_11, x_loadI_2, b_X6_when_20, b_X6_when_23, x_storeI_3, x_loadI_3, q_isL_I, q_isL_R, q_isL_S, true_and, and_true, and_self, List.length_nil, List.length_cons, Nat.zero_add, x_K, x_Kn, Int.reduceToNat, Nat.reduceAdd, Nat.reduceMul, Nat.reduceLeDiff, Nat.reduceLT, Nat.zero_le, Int.reduceAdd, Int.reduceSub, Int.reduceMul, Int.reduceNeg, q_add_e, q_sub_e, q_mul_e, q_neg_e, q_upd_s, q_upd_n, zr_shr0, zr_shr1, zr_shr2, zr_shr3, zr_shr4, zr_and, zr_dyn8, zr_or, zr_shl, q_cpy_n, y_cpy26, c_X6_isStone, mp_isStone, c1, c_X6_in, mp_in, c2, and_self, if_true, if_false]
      exact hq M q_mq_rf
  · rw [if_pos c1] at hq
    simp (disch := omega) only [b_X6_when_0, x_loadR_0, x_loadS_0, x_loadI_1, y_if_ne_t, y_if_ne_f, b_X6_when_8, x_iconst, x_ret0, b_X6_when_11, x_loadI_2, b_X6_when_20, b_X6_when_23, x_storeI_3, x_loadI_3, q_isL_I, q_isL_R, q_isL_S, true_and, and_true, and_self, List.length_nil, List.length_cons, Nat.zero_add, x_K, x_Kn, Int.reduceToNat, Nat.reduceAdd, Nat.reduceMul, Nat.reduceLeDiff, Nat.reduceLT, Nat.zero_le, Int.reduceAdd, Int.reduceSub, Int.reduceMul, Int.reduceNeg, q_add_e, q_sub_e, q_mul_e, q_neg_e, q_upd_s, q_upd_n, zr_shr0, zr_shr1, zr_shr2, zr_shr3, zr_shr4, zr_and, zr_dyn8, zr_or, zr_shl, q_cpy_n, y_cpy26, c_X6_isStone, mp_isStone, c1, if_false]
    exact hq M q_mq_rf
/-- the place and the years of the best of the first k places -/
def G_ct (V : Nat → (Nat → Int) → Int) (S : q_M) (p : Nat) : Nat → Int × Int
  | 0 => (-1, -1)
  | k + 1 => if G_till V (F_lay S p k) p (-1) 60 0 ≠ -1 ∧ ((G_ct V S p k).1 = -1 ∨ G_till V (F_lay S p k) p (-1) 60 0 < (G_ct V S p k).2) then ((k : Int), G_till V (F_lay S p k) p (-1) 60 0) else G_ct V S p k
def B_cart (V : Nat → (Nat → Int) → Int) (S : q_M) (p wt : Int) : Int := if ¬(0 ≤ p ∧ p ≤ S 9 0 - 1) then -5 else if ¬(0 ≤ wt ∧ wt ≤ 1) then -7 else if wt = 0 then (G_ct V S p.toNat 100).1 else (G_ct V S p.toNat 100).2
end
section
/-! THE MODEL: cart; a sheet's numbers against years -/
set_option maxHeartbeats 4000000 in
theorem mp_cart {V : Nat → (Nat → Int) → Int} {d : Nat} {g : q_G} {M : q_M} {p wt : Int} {Q : Option q_V → q_G → q_M → Prop} (C : q_mi V M) (hq : ∀ M2 : q_M, q_mq M M2 → Q (some (qI (B_cart V (mW M) p wt))) g M2) : q_S 1 (d + 9) 176 [qR 6 100, qI p, qI wt] g M Q := by
  have n0 := C.1.1.1
  have y0 := C.1.1.2.1
  have y9 := C.2.1
  rw [s_X6_cart]
  unfold B_cart at hq
  rw [mW_90] at hq
  by_cases c1 : 0 ≤ p ∧ p ≤ M 100 0 - 1
  · rw [if_neg (fun z => z c1)] at hq
    by_cases c2 : 0 ≤ wt ∧ wt ≤ 1
    · rw [if_neg (fun z => z c2)] at hq
      obtain ⟨N, rfl⟩ : ∃ N : Nat, p = N := ⟨p.toNat, by omega⟩
      rw [Int.toNat_natCast] at hq
      have hN : N < 5 := by omega
      have loop : ∀ j k : Nat, k + j = 100 → ∀ (M1 : q_M) (l6 l7 : q_V), q_isL l6 = false → q_isL l7 = false → q_mq M M1 → q_mt M M1 → q_T 1 (d + 9) qP_X6_cart 35 [] [qR 6 100, qI N, qI wt, qI (G_ct V (mW M) N k).1, qI (G_ct V (mW M) N k).2, qI k, l6, l7] [] g M1 Q := by
        intro j
        induction j with
        | zero =>
          intro k hk M1 l6 l7 hl6 hl7 h1 t1
          have e : k = 100 := by omega
          subst e
          rw [b_X6_cart_35]
          rcases (show wt = 0 ∨ wt = 1 by omega) with e | e
          · rw [if_pos e] at hq
            simp (disch := omega) only [b_X6_cart_0, x_loadR_0, x_loadS_0, x_loadI_1, y_if_ne_t, y_if_ne_f, b_X6_cart_8, x_iconst, x_ret0, b_X6_cart_11, x_loadI_2, b_X6_cart_20, b_X6_cart_23, x_storeI_3, x_storeI_4, x_storeI_5, x_loadI_5, y_ic_ge_t, y_ic_ge_f, b_X6_cart_42, f_6_4, x_imul, y_iast_35, x_iadd, x_storeI_6, x_loadI_6, y_ic_eq_t, y_ic_eq_f, b_X6_cart_81, x_loadI_3, b_X6_cart_86, x_loadI_4, b_X6_cart_93, x_goto, b_X6_cart_97, b_X6_cart_98, x_storeI_7, x_loadI_7, y_if_eq_t, y_if_eq_f, b_X6_cart_105, b_X6_cart_110, b_X6_cart_111, b_X6_cart_117, b_X6_cart_122, b_X6_cart_124, x_iinc_5, b_X6_cart_132, b_X6_cart_136, b_X6_cart_140, b_X6_cart_142, q_isL_I, q_isL_R, q_isL_S, true_and, and_true, and_self, List.length_nil, List.length_cons, Nat.zero_add, x_K, x_Kn, Int.reduceToNat, Nat.reduceAdd, Nat.reduceMul, Nat.reduceLeDiff, Nat.reduceLT, Nat.zero_le, Int.reduceAdd, Int.reduceSub, Int.reduceMul, Int.reduceNeg, q_add_e, q_sub_e, q_mul_e, q_neg_e, q_upd_s, q_upd_n, zr_shr0, zr_shr1, zr_shr2, zr_shr3, zr_shr4, zr_and, zr_dyn8, zr_or, zr_shl, q_cpy_n, y_cpy26]
            exact hq M1 h1
          · rw [if_neg (by omega)] at hq
            simp (disch := omega) only [b_X6_cart_0, x_loadR_0, x_loadS_0, x_loadI_1, y_if_ne_t, y_if_ne_f, b_X6_cart_8, x_iconst, x_ret0, b_X6_cart_11, x_loadI_2, b_X6_cart_20, b_X6_cart_23, x_storeI_3, x_storeI_4, x_storeI_5, x_loadI_5, y_ic_ge_t, y_ic_ge_f, b_X6_cart_42, f_6_4, x_imul, y_iast_35, x_iadd, x_storeI_6, x_loadI_6, y_ic_eq_t, y_ic_eq_f, b_X6_cart_81, x_loadI_3, b_X6_cart_86, x_loadI_4, b_X6_cart_93, x_goto, b_X6_cart_97, b_X6_cart_98, x_storeI_7, x_loadI_7, y_if_eq_t, y_if_eq_f, b_X6_cart_105, b_X6_cart_110, b_X6_cart_111, b_X6_cart_117, b_X6_cart_122, b_X6_cart_124, x_iinc_5, b_X6_cart_132, b_X6_cart_136, b_X6_cart_140, b_X6_cart_142, q_isL_I, q_isL_R, q_isL_S, true_and, and_true, and_self, List.length_nil, List.length_cons, Nat.zero_add, x_K, x_Kn, Int.reduceToNat, Nat.reduceAdd, Nat.reduceMul, Nat.reduceLeDiff, Nat.reduceLT, Nat.zero_le, Int.reduceAdd, Int.reduceSub, Int.reduceMul, Int.reduceNeg, q_add_e, q_sub_e, q_mul_e, q_neg_e, q_upd_s, q_upd_n, zr_shr0, zr_shr1, zr_shr2, zr_shr3, zr_shr4, zr_and, zr_dyn8, zr_or, zr_shl, q_cpy_n, y_cpy26]
            exact hq M1 h1
        | succ j ih =>
          intro k hk M1 l6 l7 hl6 hl7 h1 t1
          have ih2 := ih (k + 1) (by omega)
          rw [G_ct] at ih2
          have m1 := q_mq_ml h1 C.1
          have e0 : M1 100 0 = M 100 0 := h1 100 0 (by omega) (by omega)
          have e5 : M1 100 5 = M 100 5 := h1 100 5 (by omega) (by omega)
          have m2 : q_ml V (q_upd (q_upd M1 104 (3 * N) k) 104 (3 * N + 2) (-1)) := q_ml_up (q_ml_up m1 (q_ok2 (by omega)) (by omega) (by omega) (by omega)) (q_ok4 (by omega)) (by omega) (by omega) (by omega)
          have w2 : mW (q_upd (q_upd M1 104 (3 * N) k) 104 (3 * N + 2) (-1)) = F_lay (mW M) N k := by
            rw [mW_up4 (by rw [q_upd_n (by omega), e0]; omega), mW_up2 (by rw [e0]; omega), q_mq_mW h1]
            rfl
          have t2 : q_mt M (q_upd (q_upd M1 104 (3 * N) k) 104 (3 * N + 2) (-1)) := q_mt_up (q_mt_up t1 (by omega)) (by omega)
          have y2 : q_upd (q_upd M1 104 (3 * N) k) 104 (3 * N + 2) (-1) 100 5 ≤ 1500 := by
            rw [q_upd_n (by omega), q_upd_n (by omega)]
            omega
          have p2 : N < (q_upd (q_upd M1 104 (3 * N) k) 104 (3 * N + 2) (-1) 100 0).toNat := by
            rw [q_upd_n (by omega), q_upd_n (by omega), e0]
            omega
          rw [b_X6_cart_35]
          simp (disch := omega) only [b_X6_cart_0, x_loadR_0, x_loadS_0, x_loadI_1, y_if_ne_t, y_if_ne_f, b_X6_cart_8, x_iconst, x_ret0, b_X6_cart_11, x_loadI_2, b_X6_cart_20, b_X6_cart_23, x_storeI_3, x_storeI_4, x_storeI_5, x_loadI_5, y_ic_ge_t, y_ic_ge_f, b_X6_cart_42, f_6_4, x_imul, y_iast_35, x_iadd, x_storeI_6, x_loadI_6, y_ic_eq_t, y_ic_eq_f, b_X6_cart_81, x_loadI_3, b_X6_cart_86, x_loadI_4, b_X6_cart_93, x_goto, b_X6_cart_97, b_X6_cart_98, x_storeI_7, x_loadI_7, y_if_eq_t, y_if_eq_f, b_X6_cart_105, b_X6_cart_110, b_X6_cart_111, b_X6_cart_117, b_X6_cart_122, b_X6_cart_124, x_iinc_5, b_X6_cart_132, b_X6_cart_136, b_X6_cart_140, b_X6_cart_142, q_isL_I, q_isL_R, q_isL_S, true_and, and_true, and_self, List.length_nil, List.length_cons, Nat.zero_add, x_K, x_Kn, Int.reduceToNat, Nat.reduceAdd, Nat.reduceMul, Nat.reduceLeDiff, Nat.reduceLT, Nat.zero_le, Int.reduceAdd, Int.reduceSub, Int.reduceMul, Int.reduceNeg, q_add_e, q_sub_e, q_mul_e, q_neg_e, q_upd_s, q_upd_n, zr_shr0, zr_shr1, zr_shr2, zr_shr3, zr_shr4, zr_and, zr_dyn8, zr_or, zr_shl, q_cpy_n, y_cpy26, Int.toNat_natCast, tn_30, tn_32, c_X6_whenIn]
          refine mp_whenIn m2 y2 p2 (by omega) t2 (fun M3 t3 => ?_)
          rw [w2]
          simp (disch := omega) only [b_X6_cart_0, x_loadR_0, x_loadS_0, x_loadI_1, y_if_ne_t, y_if_ne_f, b_X6_cart_8, x_iconst, x_ret0, b_X6_cart_11, x_loadI_2, b_X6_cart_20, b_X6_cart_23, x_storeI_3, x_storeI_4, x_storeI_5, x_loadI_5, y_ic_ge_t, y_ic_ge_f, b_X6_cart_42, f_6_4, x_imul, y_iast_35, x_iadd, x_storeI_6, x_loadI_6, y_ic_eq_t, y_ic_eq_f, b_X6_cart_81, x_loadI_3, b_X6_cart_86, x_loadI_4, b_X6_cart_93, x_goto, b_X6_cart_97, b_X6_cart_98, x_storeI_7, x_loadI_7, y_if_eq_t, y_if_eq_f, b_X6_cart_105, b_X6_cart_110, b_X6_cart_111, b_X6_cart_117, b_X6_cart_122, b_X6_cart_124, x_iinc_5, b_X6_cart_132, b_X6_cart_136, b_X6_cart_140, b_X6_cart_142, q_isL_I, q_isL_R, q_isL_S, true_and, and_true, and_self, List.length_nil, List.length_cons, Nat.zero_add, x_K, x_Kn, Int.reduceToNat, Nat.reduceAdd, Nat.reduceMul, Nat.reduceLeDiff, Nat.reduceLT, Nat.zero_le, Int.reduceAdd, Int.reduceSub, Int.reduceMul, Int.reduceNeg, q_add_e, q_sub_e, q_mul_e, q_neg_e, q_upd_s, q_upd_n, zr_shr0, zr_shr1, zr_shr2, zr_shr3, zr_shr4, zr_and, zr_dyn8, zr_or, zr_shl, q_cpy_n, y_cpy26, hl6, c_X6_lays]
          refine mp_layT2 t3 (fun M4 h4 t4 => ?_)
          generalize G_till V (F_lay (mW M) N k) N (-1) 60 0 = y at ih2 ⊢
          generalize G_ct V (mW M) N k = X at ih2 ⊢
          by_cases c3 : y ≠ -1 ∧ (X.1 = -1 ∨ y < X.2)
          · rw [if_pos c3] at ih2
            have c4 := c3.1
            rcases (show X.1 = -1 ∨ (X.1 ≠ -1 ∧ y < X.2) by omega) with c5 | c5
            · simp (disch := omega) only [b_X6_cart_0, x_loadR_0, x_loadS_0, x_loadI_1, y_if_ne_t, y_if_ne_f, b_X6_cart_8, x_iconst, x_ret0, b_X6_cart_11, x_loadI_2, b_X6_cart_20, b_X6_cart_23, x_storeI_3, x_storeI_4, x_storeI_5, x_loadI_5, y_ic_ge_t, y_ic_ge_f, b_X6_cart_42, f_6_4, x_imul, y_iast_35, x_iadd, x_storeI_6, x_loadI_6, y_ic_eq_t, y_ic_eq_f, b_X6_cart_81, x_loadI_3, b_X6_cart_86, x_loadI_4, b_X6_cart_93, x_goto, b_X6_cart_97, b_X6_cart_98, x_storeI_7, x_loadI_7, y_if_eq_t, y_if_eq_f, b_X6_cart_105, b_X6_cart_110, b_X6_cart_111, b_X6_cart_117, b_X6_cart_122, b_X6_cart_124, x_iinc_5, b_X6_cart_132, b_X6_cart_136, b_X6_cart_140, b_X6_cart_142, q_isL_I, q_isL_R, q_isL_S, true_and, and_true, and_self, List.length_nil, List.length_cons, Nat.zero_add, x_K, x_Kn, Int.reduceToNat, Nat.reduceAdd, Nat.reduceMul, Nat.reduceLeDiff, Nat.reduceLT, Nat.zero_le, Int.reduceAdd, Int.reduceSub, Int.reduceMul, Int.reduceNeg, q_add_e, q_sub_e, q_mul_e, q_neg_e, q_upd_s, q_upd_n, zr_shr0, zr_shr1, zr_shr2, zr_shr3, zr_shr4, zr_and, zr_dyn8, zr_or, zr_shl, q_cpy_n, y_cpy26, hl7]
              exact ih2 M4 _ _ rfl rfl h4 t4
            · simp (disch := omega) only [b_X6_cart_0, x_loadR_0, x_loadS_0, x_loadI_1, y_if_ne_t, y_if_ne_f, b_X6_cart_8, x_iconst, x_ret0, b_X6_cart_11, x_loadI_2, b_X6_cart_20, b_X6_cart_23, x_storeI_3, x_storeI_4, x_storeI_5, x_loadI_5, y_ic_ge_t, y_ic_ge_f, b_X6_cart_42, f_6_4, x_imul, y_iast_35, x_iadd, x_storeI_6, x_loadI_6, y_ic_eq_t, y_ic_eq_f, b_X6_cart_81, x_loadI_3, b_X6_cart_86, x_loadI_4, b_X6_cart_93, x_goto, b_X6_cart_97, b_X6_cart_98, x_storeI_7, x_loadI_7, y_if_eq_t, y_if_eq_f, b_X6_cart_105, b_X6_cart_110, b_X6_cart_111, b_X6_cart_117, b_X6_cart_122, b_X6_cart_124, x_iinc_5, b_X6_cart_132, b_X6_cart_136, b_X6_cart_140, b_X6_cart_142, q_isL_I, q_isL_R, q_isL_S, true_and, and_true, and_self, List.length_nil, List.length_cons, Nat.zero_add, x_K, x_Kn, Int.reduceToNat, Nat.reduceAdd, Nat.reduceMul, Nat.reduceLeDiff, Nat.reduceLT, Nat.zero_le, Int.reduceAdd, Int.reduceSub, Int.reduceMul, Int.reduceNeg, q_add_e, q_sub_e, q_mul_e, q_neg_e, q_upd_s, q_upd_n, zr_shr0, zr_shr1, zr_shr2, zr_shr3, zr_shr4, zr_and, zr_dyn8, zr_or, zr_shl, q_cpy_n, y_cpy26, hl7]
              exact ih2 M4 _ _ rfl rfl h4 t4
          · rw [if_neg c3] at ih2
            by_cases c4 : y = -1
            · simp (disch := omega) only [b_X6_cart_0, x_loadR_0, x_loadS_0, x_loadI_1, y_if_ne_t, y_if_ne_f, b_X6_cart_8, x_iconst, x_ret0, b_X6_cart_11, x_loadI_2, b_X6_cart_20, b_X6_cart_23, x_storeI_3, x_storeI_4, x_storeI_5, x_loadI_5, y_ic_ge_t, y_ic_ge_f, b_X6_cart_42, f_6_4, x_imul, y_iast_35, x_iadd, x_storeI_6, x_loadI_6, y_ic_eq_t, y_ic_eq_f, b_X6_cart_81, x_loadI_3, b_X6_cart_86, x_loadI_4, b_X6_cart_93, x_goto, b_X6_cart_97, b_X6_cart_98, x_storeI_7, x_loadI_7, y_if_eq_t, y_if_eq_f, b_X6_cart_105, b_X6_cart_110, b_X6_cart_111, b_X6_cart_117, b_X6_cart_122, b_X6_cart_124, x_iinc_5, b_X6_cart_132, b_X6_cart_136, b_X6_cart_140, b_X6_cart_142, q_isL_I, q_isL_R, q_isL_S, true_and, and_true, and_self, List.length_nil, List.length_cons, Nat.zero_add, x_K, x_Kn, Int.reduceToNat, Nat.reduceAdd, Nat.reduceMul, Nat.reduceLeDiff, Nat.reduceLT, Nat.zero_le, Int.reduceAdd, Int.reduceSub, Int.reduceMul, Int.reduceNeg, q_add_e, q_sub_e, q_mul_e, q_neg_e, q_upd_s, q_upd_n, zr_shr0, zr_shr1, zr_shr2, zr_shr3, zr_shr4, zr_and, zr_dyn8, zr_or, zr_shl, q_cpy_n, y_cpy26, hl7]
              exact ih2 M4 _ _ rfl rfl h4 t4
            · have c5 : X.1 ≠ -1 ∧ X.2 ≤ y := by omega
              simp (disch := omega) only [b_X6_cart_0, x_loadR_0, x_loadS_0, x_loadI_1, y_if_ne_t, y_if_ne_f, b_X6_cart_8, x_iconst, x_ret0, b_X6_cart_11, x_loadI_2, b_X6_cart_20, b_X6_cart_23, x_storeI_3, x_storeI_4, x_storeI_5, x_loadI_5, y_ic_ge_t, y_ic_ge_f, b_X6_cart_42, f_6_4, x_imul, y_iast_35, x_iadd, x_storeI_6, x_loadI_6, y_ic_eq_t, y_ic_eq_f, b_X6_cart_81, x_loadI_3, b_X6_cart_86, x_loadI_4, b_X6_cart_93, x_goto, b_X6_cart_97, b_X6_cart_98, x_storeI_7, x_loadI_7, y_if_eq_t, y_if_eq_f, b_X6_cart_105, b_X6_cart_110, b_X6_cart_111, b_X6_cart_117, b_X6_cart_122, b_X6_cart_124, x_iinc_5, b_X6_cart_132, b_X6_cart_136, b_X6_cart_140, b_X6_cart_142, q_isL_I, q_isL_R, q_isL_S, true_and, and_true, and_self, List.length_nil, List.length_cons, Nat.zero_add, x_K, x_Kn, Int.reduceToNat, Nat.reduceAdd, Nat.reduceMul, Nat.reduceLeDiff, Nat.reduceLT, Nat.zero_le, Int.reduceAdd, Int.reduceSub, Int.reduceMul, Int.reduceNeg, q_add_e, q_sub_e, q_mul_e, q_neg_e, q_upd_s, q_upd_n, zr_shr0, zr_shr1, zr_shr2, zr_shr3, zr_shr4, zr_and, zr_dyn8, zr_or, zr_shl, q_cpy_n, y_cpy26, hl7]
              exact ih2 M4 _ _ rfl rfl h4 t4
      simp (disch := omega) only [b_X6_cart_0, x_loadR_0, x_loadS_0, x_loadI_1, y_if_ne_t, y_if_ne_f, b_X6_cart_8, x_iconst, x_ret0, b_X6_cart_11, x_loadI_2, b_X6_cart_20, b_X6_cart_23, x_storeI_3, x_storeI_4, x_storeI_5, x_loadI_5, y_ic_ge_t, y_ic_ge_f, b_X6_cart_42, f_6_4, x_imul, y_iast_35, x_iadd, x_storeI_6, x_loadI_6, y_ic_eq_t, y_ic_eq_f, b_X6_cart_81, x_loadI_3, b_X6_cart_86, x_loadI_4, b_X6_cart_93, x_goto, b_X6_cart_97, b_X6_cart_98, x_storeI_7, x_loadI_7, y_if_eq_t, y_if_eq_f, b_X6_cart_105, b_X6_cart_110, b_X6_cart_111, b_X6_cart_117, b_X6_cart_122, b_X6_cart_124, x_iinc_5, b_X6_cart_132, b_X6_cart_136, b_X6_cart_140, b_X6_cart_142, q_isL_I, q_isL_R, q_isL_S, true_and, and_true, and_self, List.length_nil, List.length_cons, Nat.zero_add, x_K, x_Kn, Int.reduceToNat, Nat.reduceAdd, Nat.reduceMul, Nat.reduceLeDiff, Nat.reduceLT, Nat.zero_le, Int.reduceAdd, Int.reduceSub, Int.reduceMul, Int.reduceNeg, q_add_e, q_sub_e, q_mul_e, q_neg_e, q_upd_s, q_upd_n, zr_shr0, zr_shr1, zr_shr2, zr_shr3, zr_shr4, zr_and, zr_dyn8, zr_or, zr_shl, q_cpy_n, y_cpy26, c_X6_isStone, mp_isStone, c1, c_X6_in, mp_in, c2, and_self, if_true, c_X6_keeps]
      refine mp_keeps q_mq_rf (fun M2 t2 h2 => ?_)
      simp (disch := omega) only [b_X6_cart_0, x_loadR_0, x_loadS_0, x_loadI_1, y_if_ne_t, y_if_ne_f, b_X6_cart_8, x_iconst, x_ret0, b_X6_cart_11, x_loadI_2, b_X6_cart_20, b_X6_cart_23, x_storeI_3, x_storeI_4, x_storeI_5, x_loadI_5, y_ic_ge_t, y_ic_ge_f, b_X6_cart_42, f_6_4, x_imul, y_iast_35, x_iadd, x_storeI_6, x_loadI_6, y_ic_eq_t, y_ic_eq_f, b_X6_cart_81, x_loadI_3, b_X6_cart_86, x_loadI_4, b_X6_cart_93, x_goto, b_X6_cart_97, b_X6_cart_98, x_storeI_7, x_loadI_7, y_if_eq_t, y_if_eq_f, b_X6_cart_105, b_X6_cart_110, b_X6_cart_111, b_X6_cart_117, b_X6_cart_122, b_X6_cart_124, x_iinc_5, b_X6_cart_132, b_X6_cart_136, b_X6_cart_140, b_X6_cart_142, q_isL_I, q_isL_R, q_isL_S, true_and, and_true, and_self, List.length_nil, List.length_cons, Nat.zero_add, x_K, x_Kn, Int.reduceToNat, Nat.reduceAdd, Nat.reduceMul, Nat.reduceLeDiff, Nat.reduceLT, Nat.zero_le, Int.reduceAdd, Int.reduceSub, Int.reduceMul, Int.reduceNeg, q_add_e, q_sub_e, q_mul_e, q_neg_e, q_upd_s, q_upd_n, zr_shr0, zr_shr1, zr_shr2, zr_shr3, zr_shr4, zr_and, zr_dyn8, zr_or, zr_shl, q_cpy_n, y_cpy26]
      exact loop 100 0 rfl M2 _ _ rfl rfl h2 t2
    · rw [if_pos c2] at hq
      simp (disch := omega) only [b_X6_cart_0, x_loadR_0, x_loadS_0, x_loadI_1, y_if_ne_t, y_if_ne_f, b_X6_cart_8, x_iconst, x_ret0, b_X6_cart_11, x_loadI_2, b_X6_cart_20, b_X6_cart_23, x_storeI_3, x_storeI_4, x_storeI_5, x_loadI_5, y_ic_ge_t, y_ic_ge_f, b_X6_cart_42, f_6_4, x_imul, y_iast_35, x_iadd, x_storeI_6, x_loadI_6, y_ic_eq_t, y_ic_eq_f, b_X6_cart_81, x_loadI_3, b_X6_cart_86, x_loadI_4, b_X6_cart_93, x_goto, b_X6_cart_97, b_X6_cart_98, x_storeI_7, x_loadI_7, y_if_eq_t, y_if_eq_f, b_X6_cart_105, b_X6_cart_110, b_X6_cart_111, b_X6_cart_117, b_X6_cart_122, b_X6_cart_124, x_iinc_5, b_X6_cart_132, b_X6_cart_136, b_X6_cart_140, b_X6_cart_142, q_isL_I, q_isL_R, q_isL_S, true_and, and_true, and_self, List.length_nil, List.length_cons, Nat.zero_add, x_K, x_Kn, Int.reduceToNat, Nat.reduceAdd, Nat.reduceMul, Nat.reduceLeDiff, Nat.reduceLT, Nat.zero_le, Int.reduceAdd, Int.reduceSub, Int.reduceMul, Int.reduceNeg, q_add_e, q_sub_e, q_mul_e, q_neg_e, q_upd_s, q_upd_n, zr_shr0, zr_shr1, zr_shr2, zr_shr3, zr_shr4, zr_and, zr_dyn8, zr_or, zr_shl, q_cpy_n, y_cpy26, c_X6_isStone, mp_isStone, c1, c_X6_in, mp_in, c2, and_self, if_true, if_false]
      exact hq M q_mq_rf
  · rw [if_pos c1] at hq
    simp (disch := omega) only [b_X6_cart_0, x_loadR_0, x_loadS_0, x_loadI_1, y_if_ne_t, y_if_ne_f, b_X6_cart_8, x_iconst, x_ret0, b_X6_cart_11, x_loadI_2, b_X6_cart_20, b_X6_cart_23, x_storeI_3, x_storeI_4, x_storeI_5, x_loadI_5, y_ic_ge_t, y_ic_ge_f, b_X6_cart_42, f_6_4, x_imul, y_iast_35, x_iadd, x_storeI_6, x_loadI_6, y_ic_eq_t, y_ic_eq_f, b_X6_cart_81, x_loadI_3, b_X6_cart_86, x_loadI_4, b_X6_cart_93, x_goto, b_X6_cart_97, b_X6_cart_98, x_storeI_7, x_loadI_7, y_if_eq_t, y_if_eq_f, b_X6_cart_105, b_X6_cart_110, b_X6_cart_111, b_X6_cart_117, b_X6_cart_122, b_X6_cart_124, x_iinc_5, b_X6_cart_132, b_X6_cart_136, b_X6_cart_140, b_X6_cart_142, q_isL_I, q_isL_R, q_isL_S, true_and, and_true, and_self, List.length_nil, List.length_cons, Nat.zero_add, x_K, x_Kn, Int.reduceToNat, Nat.reduceAdd, Nat.reduceMul, Nat.reduceLeDiff, Nat.reduceLT, Nat.zero_le, Int.reduceAdd, Int.reduceSub, Int.reduceMul, Int.reduceNeg, q_add_e, q_sub_e, q_mul_e, q_neg_e, q_upd_s, q_upd_n, zr_shr0, zr_shr1, zr_shr2, zr_shr3, zr_shr4, zr_and, zr_dyn8, zr_or, zr_shl, q_cpy_n, y_cpy26, c_X6_isStone, mp_isStone, c1, if_false]
    exact hq M q_mq_rf
def G_fo (V : Nat → (Nat → Int) → Int) (S : q_M) (p : Nat) (C : Nat → Int) : Nat → Nat → Int
  | 0, _ => -1
  | j + 1, i => if C i = G_ys V S (i + 1) 2 p then G_fo V S p C j (i + 1) else i
theorem tn_c {s k : Nat} : (40 * (s : Int) + (k : Int)).toNat = 40 * s + k := by omega
def G_foA (V : Nat → (Nat → Int) → Int) (M S : q_M) (s p : Nat) : Int := G_fo V S p (fun i => M 112 (40 * s + i)) (M 111 s).toNat 0
set_option maxHeartbeats 4000000 in
theorem mp_unlike {V : Nat → (Nat → Int) → Int} {d dd : Nat} {g : q_G} {M : q_M} {s p : Nat} {P : q_P} {nx : Nat} {ops : List Instr} {ls st : List q_V} {Q : Option q_V → q_G → q_M → Prop} (hm : q_ml V M) (hy : M 100 5 ≤ 1000) (hs : s < 4) (hz : 0 ≤ M 111 s ∧ M 111 s ≤ 40) (hp : p < (M 100 0).toNat) (hq : ∀ M2 : q_M, q_mq M M2 → q_T 1 dd P nx ops ls (qI (G_foA V M (mW M) s p) :: st) g M2 Q) : q_S 1 (d + 8) 181 [qR 6 100, qI s, qI p] g M (q_K 1 dd P nx ops ls st Q) := by
  have hpush : ∀ (v : Int) (M3 : q_M), q_K 1 dd P nx ops ls st Q (some (qI v)) g M3 = q_T 1 dd P nx ops ls (qI v :: st) g M3 Q := fun _ _ => rfl
  generalize q_K 1 dd P nx ops ls st Q = QQ at hpush ⊢
  have n1 := hm.1.1
  have hp5 : p < 5 := by omega
  rw [s_X6_unlike]
  have fin : ∀ (M3 : q_M) (v k : Int), q_mt M M3 → (∀ M2 : q_M, q_mq M M2 → q_T 1 dd P nx ops ls (qI v :: st) g M2 Q) → q_T 1 (d + 8) qP_X6_unlike 66 [] [qR 6 100, qI s, qI p, qI v, qI k] [] g M3 QQ := by
    intro M3 v k t3 h
    rw [b_X6_unlike_66]
    simp (disch := omega) only [b_X6_unlike_0, x_iconst, x_storeI_3, x_loadR_0, x_loadS_0, x_storeI_4, x_loadI_4, f_6_16, x_loadI_1, y_iald_24, y_iald_35, y_iald_180, y_ic_ge_t, y_ic_ge_f, b_X6_unlike_20, x_loadI_3, y_ic_ne_t, y_ic_ne_f, b_X6_unlike_25, x_popI, x_popR, f_6_17, x_imul, x_iadd, f_6_4, x_loadI_2, b_X6_unlike_53, x_goto, b_X6_unlike_57, b_X6_unlike_59, x_iinc_4, x_ret0, q_isL_I, q_isL_R, q_isL_S, true_and, and_true, and_self, List.length_nil, List.length_cons, Nat.zero_add, x_K, x_Kn, Int.reduceToNat, Nat.reduceAdd, Nat.reduceMul, Nat.reduceLeDiff, Nat.reduceLT, Nat.zero_le, Int.reduceAdd, Int.reduceSub, Int.reduceMul, Int.reduceNeg, q_add_e, q_sub_e, q_mul_e, q_neg_e, q_upd_s, q_upd_n, zr_shr0, zr_shr1, zr_shr2, zr_shr3, zr_shr4, zr_and, zr_dyn8, zr_or, zr_shl, q_cpy_n, y_cpy26, c_X6_lays]
    refine mp_layT t3 (fun M4 h4 _ => ?_)
    simp (disch := omega) only [b_X6_unlike_0, x_iconst, x_storeI_3, x_loadR_0, x_loadS_0, x_storeI_4, x_loadI_4, f_6_16, x_loadI_1, y_iald_24, y_iald_35, y_iald_180, y_ic_ge_t, y_ic_ge_f, b_X6_unlike_20, x_loadI_3, y_ic_ne_t, y_ic_ne_f, b_X6_unlike_25, x_popI, x_popR, f_6_17, x_imul, x_iadd, f_6_4, x_loadI_2, b_X6_unlike_53, x_goto, b_X6_unlike_57, b_X6_unlike_59, x_iinc_4, x_ret0, q_isL_I, q_isL_R, q_isL_S, true_and, and_true, and_self, List.length_nil, List.length_cons, Nat.zero_add, x_K, x_Kn, Int.reduceToNat, Nat.reduceAdd, Nat.reduceMul, Nat.reduceLeDiff, Nat.reduceLT, Nat.zero_le, Int.reduceAdd, Int.reduceSub, Int.reduceMul, Int.reduceNeg, q_add_e, q_sub_e, q_mul_e, q_neg_e, q_upd_s, q_upd_n, zr_shr0, zr_shr1, zr_shr2, zr_shr3, zr_shr4, zr_and, zr_dyn8, zr_or, zr_shl, q_cpy_n, y_cpy26]
    rw [hpush]
    exact h M4 h4
  unfold G_foA at hq
  have loop : ∀ j k : Nat, (k : Int) + j = M 111 s → ∀ M2 : q_M, q_ml V M2 → mW M2 = G_ys V (mW M) k → M2 100 5 + j ≤ 1900 → M2 100 0 = M 100 0 → q_mt M M2 → (∀ M3 : q_M, q_mq M M3 → q_T 1 dd P nx ops ls (qI (G_fo V (mW M) p (fun i => M 112 (40 * s + i)) j k) :: st) g M3 Q) → q_T 1 (d + 8) qP_X6_unlike 9 [] [qR 6 100, qI s, qI p, qI (-1), qI k] [] g M2 QQ := by
    intro j
    induction j with
    | zero =>
      intro k hk M2 m2 w2 y2 e0 t2 hq
      have es : M2 111 s = M 111 s := t2.2 111 s (by omega) (by omega) (by omega) (by omega)
      rw [G_fo] at hq
      rw [b_X6_unlike_9]
      simp (disch := omega) only [b_X6_unlike_0, x_iconst, x_storeI_3, x_loadR_0, x_loadS_0, x_storeI_4, x_loadI_4, f_6_16, x_loadI_1, y_iald_24, y_iald_35, y_iald_180, y_ic_ge_t, y_ic_ge_f, b_X6_unlike_20, x_loadI_3, y_ic_ne_t, y_ic_ne_f, b_X6_unlike_25, x_popI, x_popR, f_6_17, x_imul, x_iadd, f_6_4, x_loadI_2, b_X6_unlike_53, x_goto, b_X6_unlike_57, b_X6_unlike_59, x_iinc_4, x_ret0, q_isL_I, q_isL_R, q_isL_S, true_and, and_true, and_self, List.length_nil, List.length_cons, Nat.zero_add, x_K, x_Kn, Int.reduceToNat, Nat.reduceAdd, Nat.reduceMul, Nat.reduceLeDiff, Nat.reduceLT, Nat.zero_le, Int.reduceAdd, Int.reduceSub, Int.reduceMul, Int.reduceNeg, q_add_e, q_sub_e, q_mul_e, q_neg_e, q_upd_s, q_upd_n, zr_shr0, zr_shr1, zr_shr2, zr_shr3, zr_shr4, zr_and, zr_dyn8, zr_or, zr_shl, q_cpy_n, y_cpy26, Int.toNat_natCast, es]
      exact fin M2 (-1) _ t2 hq
    | succ j ih =>
      intro k hk M2 m2 w2 y2 e0 t2 hq
      have es : M2 111 s = M 111 s := t2.2 111 s (by omega) (by omega) (by omega) (by omega)
      rw [G_fo] at hq
      rw [b_X6_unlike_9]
      simp (disch := omega) only [b_X6_unlike_0, x_iconst, x_storeI_3, x_loadR_0, x_loadS_0, x_storeI_4, x_loadI_4, f_6_16, x_loadI_1, y_iald_24, y_iald_35, y_iald_180, y_ic_ge_t, y_ic_ge_f, b_X6_unlike_20, x_loadI_3, y_ic_ne_t, y_ic_ne_f, b_X6_unlike_25, x_popI, x_popR, f_6_17, x_imul, x_iadd, f_6_4, x_loadI_2, b_X6_unlike_53, x_goto, b_X6_unlike_57, b_X6_unlike_59, x_iinc_4, x_ret0, q_isL_I, q_isL_R, q_isL_S, true_and, and_true, and_self, List.length_nil, List.length_cons, Nat.zero_add, x_K, x_Kn, Int.reduceToNat, Nat.reduceAdd, Nat.reduceMul, Nat.reduceLeDiff, Nat.reduceLT, Nat.zero_le, Int.reduceAdd, Int.reduceSub, Int.reduceMul, Int.reduceNeg, q_add_e, q_sub_e, q_mul_e, q_neg_e, q_upd_s, q_upd_n, zr_shr0, zr_shr1, zr_shr2, zr_shr3, zr_shr4, zr_and, zr_dyn8, zr_or, zr_shl, q_cpy_n, y_cpy26, Int.toNat_natCast, es, c_X6_yearOf]
      refine mp_yearT m2 (by omega) t2 (fun M3 m3 w3 y3 n3 t3 => ?_)
      have w4 : mW M3 = G_ys V (mW M) (k + 1) := by rw [w3, w2]; rfl
      have ea : G_ys V (mW M) (k + 1) 2 p = M3 104 (3 * p) := by rw [← w4]; exact mW_2 (by rw [n3, e0]; exact hp)
      have ec : M 112 (40 * s + k) = M3 112 (40 * s + k) := (t3.2 112 _ (by omega) (by omega) (by omega) (by omega)).symm
      have es3 : M3 111 s = M 111 s := t3.2 111 s (by omega) (by omega) (by omega) (by omega)
      rw [ea, ec] at hq
      by_cases c : M3 112 (40 * s + k) = M3 104 (3 * p)
      · rw [if_pos c] at hq
        simp (disch := omega) only [b_X6_unlike_0, x_iconst, x_storeI_3, x_loadR_0, x_loadS_0, x_storeI_4, x_loadI_4, f_6_16, x_loadI_1, y_iald_24, y_iald_35, y_iald_180, y_ic_ge_t, y_ic_ge_f, b_X6_unlike_20, x_loadI_3, y_ic_ne_t, y_ic_ne_f, b_X6_unlike_25, x_popI, x_popR, f_6_17, x_imul, x_iadd, f_6_4, x_loadI_2, b_X6_unlike_53, x_goto, b_X6_unlike_57, b_X6_unlike_59, x_iinc_4, x_ret0, q_isL_I, q_isL_R, q_isL_S, true_and, and_true, and_self, List.length_nil, List.length_cons, Nat.zero_add, x_K, x_Kn, Int.reduceToNat, Nat.reduceAdd, Nat.reduceMul, Nat.reduceLeDiff, Nat.reduceLT, Nat.zero_le, Int.reduceAdd, Int.reduceSub, Int.reduceMul, Int.reduceNeg, q_add_e, q_sub_e, q_mul_e, q_neg_e, q_upd_s, q_upd_n, zr_shr0, zr_shr1, zr_shr2, zr_shr3, zr_shr4, zr_and, zr_dyn8, zr_or, zr_shl, q_cpy_n, y_cpy26, tn_c, tn_30]
        exact ih (k + 1) (by omega) M3 m3 w4 (by omega) (n3.trans e0) t3 hq
      · rw [if_neg c] at hq
        by_cases c2 : M 111 s ≤ (k : Int) + 1
        · simp (disch := omega) only [b_X6_unlike_0, x_iconst, x_storeI_3, x_loadR_0, x_loadS_0, x_storeI_4, b_X6_unlike_9, x_loadI_4, f_6_16, x_loadI_1, y_iald_24, y_iald_35, y_iald_180, y_ic_ge_t, y_ic_ge_f, b_X6_unlike_20, x_loadI_3, y_ic_ne_t, y_ic_ne_f, b_X6_unlike_25, x_popI, x_popR, f_6_17, x_imul, x_iadd, f_6_4, x_loadI_2, b_X6_unlike_53, x_goto, b_X6_unlike_57, b_X6_unlike_59, x_iinc_4, x_ret0, q_isL_I, q_isL_R, q_isL_S, true_and, and_true, and_self, List.length_nil, List.length_cons, Nat.zero_add, x_K, x_Kn, Int.reduceToNat, Nat.reduceAdd, Nat.reduceMul, Nat.reduceLeDiff, Nat.reduceLT, Nat.zero_le, Int.reduceAdd, Int.reduceSub, Int.reduceMul, Int.reduceNeg, q_add_e, q_sub_e, q_mul_e, q_neg_e, q_upd_s, q_upd_n, zr_shr0, zr_shr1, zr_shr2, zr_shr3, zr_shr4, zr_and, zr_dyn8, zr_or, zr_shl, q_cpy_n, y_cpy26, Int.toNat_natCast, tn_c, tn_30, es3]
          exact fin M3 _ _ t3 hq
        · simp (disch := omega) only [b_X6_unlike_0, x_iconst, x_storeI_3, x_loadR_0, x_loadS_0, x_storeI_4, b_X6_unlike_9, x_loadI_4, f_6_16, x_loadI_1, y_iald_24, y_iald_35, y_iald_180, y_ic_ge_t, y_ic_ge_f, b_X6_unlike_20, x_loadI_3, y_ic_ne_t, y_ic_ne_f, b_X6_unlike_25, x_popI, x_popR, f_6_17, x_imul, x_iadd, f_6_4, x_loadI_2, b_X6_unlike_53, x_goto, b_X6_unlike_57, b_X6_unlike_59, x_iinc_4, x_ret0, q_isL_I, q_isL_R, q_isL_S, true_and, and_true, and_self, List.length_nil, List.length_cons, Nat.zero_add, x_K, x_Kn, Int.reduceToNat, Nat.reduceAdd, Nat.reduceMul, Nat.reduceLeDiff, Nat.reduceLT, Nat.zero_le, Int.reduceAdd, Int.reduceSub, Int.reduceMul, Int.reduceNeg, q_add_e, q_sub_e, q_mul_e, q_neg_e, q_upd_s, q_upd_n, zr_shr0, zr_shr1, zr_shr2, zr_shr3, zr_shr4, zr_and, zr_dyn8, zr_or, zr_shl, q_cpy_n, y_cpy26, Int.toNat_natCast, tn_c, tn_30, es3]
          exact fin M3 _ _ t3 hq
  simp (disch := omega) only [b_X6_unlike_0, x_iconst, x_storeI_3, x_loadR_0, x_loadS_0, x_storeI_4, x_loadI_4, f_6_16, x_loadI_1, y_iald_24, y_iald_35, y_iald_180, y_ic_ge_t, y_ic_ge_f, b_X6_unlike_20, x_loadI_3, y_ic_ne_t, y_ic_ne_f, b_X6_unlike_25, x_popI, x_popR, f_6_17, x_imul, x_iadd, f_6_4, x_loadI_2, b_X6_unlike_53, x_goto, b_X6_unlike_57, b_X6_unlike_59, x_iinc_4, x_ret0, q_isL_I, q_isL_R, q_isL_S, true_and, and_true, and_self, List.length_nil, List.length_cons, Nat.zero_add, x_K, x_Kn, Int.reduceToNat, Nat.reduceAdd, Nat.reduceMul, Nat.reduceLeDiff, Nat.reduceLT, Nat.zero_le, Int.reduceAdd, Int.reduceSub, Int.reduceMul, Int.reduceNeg, q_add_e, q_sub_e, q_mul_e, q_neg_e, q_upd_s, q_upd_n, zr_shr0, zr_shr1, zr_shr2, zr_shr3, zr_shr4, zr_and, zr_dyn8, zr_or, zr_shl, q_cpy_n, y_cpy26, c_X6_keeps]
  refine mp_keepT hm q_mq_rf (fun M2 m2 w2 t2 => ?_)
  have e5 : M2 100 5 = M 100 5 := by rw [← mW_91 (M := M2), w2, mW_91]
  have e0 : M2 100 0 = M 100 0 := by rw [← mW_90 (M := M2), w2, mW_90]
  simp (disch := omega) only [b_X6_unlike_0, x_iconst, x_storeI_3, x_loadR_0, x_loadS_0, x_storeI_4, x_loadI_4, f_6_16, x_loadI_1, y_iald_24, y_iald_35, y_iald_180, y_ic_ge_t, y_ic_ge_f, b_X6_unlike_20, x_loadI_3, y_ic_ne_t, y_ic_ne_f, b_X6_unlike_25, x_popI, x_popR, f_6_17, x_imul, x_iadd, f_6_4, x_loadI_2, b_X6_unlike_53, x_goto, b_X6_unlike_57, b_X6_unlike_59, x_iinc_4, x_ret0, q_isL_I, q_isL_R, q_isL_S, true_and, and_true, and_self, List.length_nil, List.length_cons, Nat.zero_add, x_K, x_Kn, Int.reduceToNat, Nat.reduceAdd, Nat.reduceMul, Nat.reduceLeDiff, Nat.reduceLT, Nat.zero_le, Int.reduceAdd, Int.reduceSub, Int.reduceMul, Int.reduceNeg, q_add_e, q_sub_e, q_mul_e, q_neg_e, q_upd_s, q_upd_n, zr_shr0, zr_shr1, zr_shr2, zr_shr3, zr_shr4, zr_and, zr_dyn8, zr_or, zr_shl, q_cpy_n, y_cpy26]
  exact loop (M 111 s).toNat 0 (by omega) M2 m2 w2 (by omega) e0 t2 hq
end
section
/-! THE MODEL: told years: judge, kinds, states, whose -/
def q_mwA (M : q_M) (s : Int) : Int := if ¬(0 ≤ s ∧ s ≤ 3) then -2 else if M 110 s.toNat = -1 then -11 else if 20 < M 111 s.toNat then -2 else 0
theorem mp_sheetWrong {d : Nat} {g : q_G} {M : q_M} {s : Int} (Q : Option q_V → q_G → q_M → Prop) : q_S 1 (d + 1) 179 [qR 6 100, qI s] g M Q = Q (some (qI (q_mwA M s))) g M := by
  rw [s_X6_sheetWrong]
  unfold q_mwA
  by_cases h1 : 0 ≤ s ∧ s ≤ 3
  · rw [if_neg (fun z => z h1)]
    by_cases h2 : M 110 s.toNat = -1
    · rw [if_pos h2]
      simp (disch := omega) only [b_X6_sheetWrong_0, x_loadI_1, x_iconst, y_if_ne_t, y_if_ne_f, b_X6_sheetWrong_9, x_ret0, b_X6_sheetWrong_12, x_loadR_0, x_loadS_0, f_6_15, y_iald_24, y_ic_ne_t, y_ic_ne_f, b_X6_sheetWrong_22, b_X6_sheetWrong_25, f_6_16, y_ic_le_t, y_ic_le_f, b_X6_sheetWrong_36, x_goto, b_X6_sheetWrong_41, b_X6_sheetWrong_42, q_isL_I, q_isL_R, q_isL_S, true_and, and_true, and_self, List.length_nil, List.length_cons, Nat.zero_add, x_K, x_Kn, Int.reduceToNat, Nat.reduceAdd, Nat.reduceMul, Nat.reduceLeDiff, Nat.reduceLT, Nat.zero_le, Int.reduceAdd, Int.reduceSub, Int.reduceMul, Int.reduceNeg, q_add_e, q_sub_e, q_mul_e, q_neg_e, q_upd_s, q_upd_n, zr_shr0, zr_shr1, zr_shr2, zr_shr3, zr_shr4, zr_and, zr_dyn8, zr_or, zr_shl, q_cpy_n, y_cpy26, c_X6_in, mp_in, h1, and_self, if_true]
    · rw [if_neg h2]
      by_cases h3 : 20 < M 111 s.toNat
      · rw [if_pos h3]
        simp (disch := omega) only [b_X6_sheetWrong_0, x_loadI_1, x_iconst, y_if_ne_t, y_if_ne_f, b_X6_sheetWrong_9, x_ret0, b_X6_sheetWrong_12, x_loadR_0, x_loadS_0, f_6_15, y_iald_24, y_ic_ne_t, y_ic_ne_f, b_X6_sheetWrong_22, b_X6_sheetWrong_25, f_6_16, y_ic_le_t, y_ic_le_f, b_X6_sheetWrong_36, x_goto, b_X6_sheetWrong_41, b_X6_sheetWrong_42, q_isL_I, q_isL_R, q_isL_S, true_and, and_true, and_self, List.length_nil, List.length_cons, Nat.zero_add, x_K, x_Kn, Int.reduceToNat, Nat.reduceAdd, Nat.reduceMul, Nat.reduceLeDiff, Nat.reduceLT, Nat.zero_le, Int.reduceAdd, Int.reduceSub, Int.reduceMul, Int.reduceNeg, q_add_e, q_sub_e, q_mul_e, q_neg_e, q_upd_s, q_upd_n, zr_shr0, zr_shr1, zr_shr2, zr_shr3, zr_shr4, zr_and, zr_dyn8, zr_or, zr_shl, q_cpy_n, y_cpy26, c_X6_in, mp_in, h1, and_self, if_true]
      · rw [if_neg h3]
        simp (disch := omega) only [b_X6_sheetWrong_0, x_loadI_1, x_iconst, y_if_ne_t, y_if_ne_f, b_X6_sheetWrong_9, x_ret0, b_X6_sheetWrong_12, x_loadR_0, x_loadS_0, f_6_15, y_iald_24, y_ic_ne_t, y_ic_ne_f, b_X6_sheetWrong_22, b_X6_sheetWrong_25, f_6_16, y_ic_le_t, y_ic_le_f, b_X6_sheetWrong_36, x_goto, b_X6_sheetWrong_41, b_X6_sheetWrong_42, q_isL_I, q_isL_R, q_isL_S, true_and, and_true, and_self, List.length_nil, List.length_cons, Nat.zero_add, x_K, x_Kn, Int.reduceToNat, Nat.reduceAdd, Nat.reduceMul, Nat.reduceLeDiff, Nat.reduceLT, Nat.zero_le, Int.reduceAdd, Int.reduceSub, Int.reduceMul, Int.reduceNeg, q_add_e, q_sub_e, q_mul_e, q_neg_e, q_upd_s, q_upd_n, zr_shr0, zr_shr1, zr_shr2, zr_shr3, zr_shr4, zr_and, zr_dyn8, zr_or, zr_shl, q_cpy_n, y_cpy26, c_X6_in, mp_in, h1, and_self, if_true]
  · rw [if_pos h1]
    simp (disch := omega) only [b_X6_sheetWrong_0, x_loadI_1, x_iconst, y_if_ne_t, y_if_ne_f, b_X6_sheetWrong_9, x_ret0, b_X6_sheetWrong_12, x_loadR_0, x_loadS_0, f_6_15, y_iald_24, y_ic_ne_t, y_ic_ne_f, b_X6_sheetWrong_22, b_X6_sheetWrong_25, f_6_16, y_ic_le_t, y_ic_le_f, b_X6_sheetWrong_36, x_goto, b_X6_sheetWrong_41, b_X6_sheetWrong_42, q_isL_I, q_isL_R, q_isL_S, true_and, and_true, and_self, List.length_nil, List.length_cons, Nat.zero_add, x_K, x_Kn, Int.reduceToNat, Nat.reduceAdd, Nat.reduceMul, Nat.reduceLeDiff, Nat.reduceLT, Nat.zero_le, Int.reduceAdd, Int.reduceSub, Int.reduceMul, Int.reduceNeg, q_add_e, q_sub_e, q_mul_e, q_neg_e, q_upd_s, q_upd_n, zr_shr0, zr_shr1, zr_shr2, zr_shr3, zr_shr4, zr_and, zr_dyn8, zr_or, zr_shl, q_cpy_n, y_cpy26, c_X6_in, mp_in, h1, if_false]
def q_twA (M : q_M) (s p : Int) : Int := if q_mwA M s ≠ 0 then q_mwA M s else if 0 ≤ p ∧ p ≤ M 100 0 - 1 then 0 else -5
theorem mp_toldWrong {d : Nat} {g : q_G} {M : q_M} {s p : Int} (h0 : 0 ≤ M 100 0) (h5 : M 100 0 ≤ 5) (Q : Option q_V → q_G → q_M → Prop) : q_S 1 (d + 2) 180 [qR 6 100, qI s, qI p] g M Q = Q (some (qI (q_twA M s p))) g M := by
  rw [s_X6_toldWrong]
  unfold q_twA
  by_cases h1 : q_mwA M s = 0
  · rw [if_neg (fun z => z h1)]
    by_cases h2 : 0 ≤ p ∧ p ≤ M 100 0 - 1
    · rw [if_pos h2]
      simp (disch := omega) only [b_X6_toldWrong_0, x_loadR_0, x_loadS_0, x_loadI_1, x_storeI_3, x_loadI_3, y_if_eq_t, y_if_eq_f, b_X6_toldWrong_10, x_goto, b_X6_toldWrong_14, x_loadI_2, b_X6_toldWrong_22, x_iconst, b_X6_toldWrong_26, b_X6_toldWrong_28, x_ret0, q_isL_I, q_isL_R, q_isL_S, true_and, and_true, and_self, List.length_nil, List.length_cons, Nat.zero_add, x_K, x_Kn, Int.reduceToNat, Nat.reduceAdd, Nat.reduceMul, Nat.reduceLeDiff, Nat.reduceLT, Nat.zero_le, Int.reduceAdd, Int.reduceSub, Int.reduceMul, Int.reduceNeg, q_add_e, q_sub_e, q_mul_e, q_neg_e, q_upd_s, q_upd_n, zr_shr0, zr_shr1, zr_shr2, zr_shr3, zr_shr4, zr_and, zr_dyn8, zr_or, zr_shl, q_cpy_n, y_cpy26, c_X6_sheetWrong, mp_sheetWrong, c_X6_isStone, mp_isStone, h2, and_self, if_true]
    · rw [if_neg h2]
      simp (disch := omega) only [b_X6_toldWrong_0, x_loadR_0, x_loadS_0, x_loadI_1, x_storeI_3, x_loadI_3, y_if_eq_t, y_if_eq_f, b_X6_toldWrong_10, x_goto, b_X6_toldWrong_14, x_loadI_2, b_X6_toldWrong_22, x_iconst, b_X6_toldWrong_26, b_X6_toldWrong_28, x_ret0, q_isL_I, q_isL_R, q_isL_S, true_and, and_true, and_self, List.length_nil, List.length_cons, Nat.zero_add, x_K, x_Kn, Int.reduceToNat, Nat.reduceAdd, Nat.reduceMul, Nat.reduceLeDiff, Nat.reduceLT, Nat.zero_le, Int.reduceAdd, Int.reduceSub, Int.reduceMul, Int.reduceNeg, q_add_e, q_sub_e, q_mul_e, q_neg_e, q_upd_s, q_upd_n, zr_shr0, zr_shr1, zr_shr2, zr_shr3, zr_shr4, zr_and, zr_dyn8, zr_or, zr_shl, q_cpy_n, y_cpy26, c_X6_sheetWrong, mp_sheetWrong, c_X6_isStone, mp_isStone, h2, if_false]
  · rw [if_pos h1]
    simp (disch := omega) only [b_X6_toldWrong_0, x_loadR_0, x_loadS_0, x_loadI_1, x_storeI_3, x_loadI_3, y_if_eq_t, y_if_eq_f, b_X6_toldWrong_10, x_goto, b_X6_toldWrong_14, x_loadI_2, b_X6_toldWrong_22, x_iconst, b_X6_toldWrong_26, b_X6_toldWrong_28, x_ret0, q_isL_I, q_isL_R, q_isL_S, true_and, and_true, and_self, List.length_nil, List.length_cons, Nat.zero_add, x_K, x_Kn, Int.reduceToNat, Nat.reduceAdd, Nat.reduceMul, Nat.reduceLeDiff, Nat.reduceLT, Nat.zero_le, Int.reduceAdd, Int.reduceSub, Int.reduceMul, Int.reduceNeg, q_add_e, q_sub_e, q_mul_e, q_neg_e, q_upd_s, q_upd_n, zr_shr0, zr_shr1, zr_shr2, zr_shr3, zr_shr4, zr_and, zr_dyn8, zr_or, zr_shl, q_cpy_n, y_cpy26, c_X6_sheetWrong, mp_sheetWrong]
theorem q_mwA_0 {M : q_M} {s : Int} (h : q_mwA M s = 0) : (0 ≤ s ∧ s ≤ 3) ∧ M 111 s.toNat ≤ 20 := by
  unfold q_mwA at h
  by_cases h1 : 0 ≤ s ∧ s ≤ 3
  · rw [if_neg (fun z => z h1)] at h
    by_cases h2 : M 110 s.toNat = -1
    · rw [if_pos h2] at h
      omega
    · rw [if_neg h2] at h
      by_cases h3 : 20 < M 111 s.toNat
      · rw [if_pos h3] at h
        omega
      · exact ⟨h1, by omega⟩
  · rw [if_pos h1] at h
    omega
theorem q_twA_0 {M : q_M} {s p : Int} (h : q_twA M s p = 0) : q_mwA M s = 0 ∧ (0 ≤ p ∧ p ≤ M 100 0 - 1) := by
  unfold q_twA at h
  by_cases h1 : q_mwA M s = 0
  · rw [if_neg (fun z => z h1)] at h
    by_cases h2 : 0 ≤ p ∧ p ≤ M 100 0 - 1
    · exact ⟨h1, h2⟩
    · rw [if_neg h2] at h
      omega
  · rw [if_pos h1] at h
    exact absurd h h1
def B_judge (V : Nat → (Nat → Int) → Int) (M : q_M) (s p : Int) : Int := if q_twA M s p = 0 then G_foA V M (mW M) s.toNat p.toNat else q_twA M s p
set_option maxHeartbeats 4000000 in
theorem mp_judge {V : Nat → (Nat → Int) → Int} {d : Nat} {g : q_G} {M : q_M} {s p : Int} {Q : Option q_V → q_G → q_M → Prop} (C : q_mi V M) (hq : ∀ M2 : q_M, q_mq M M2 → Q (some (qI (B_judge V M s p))) g M2) : q_S 1 (d + 9) 182 [qR 6 100, qI s, qI p] g M Q := by
  have n0 := C.1.1.1
  have y9 := C.2.1
  rw [s_X6_judge]
  unfold B_judge at hq
  by_cases c1 : q_twA M s p = 0
  · rw [if_pos c1] at hq
    obtain ⟨c2, c3⟩ := q_twA_0 c1
    obtain ⟨c4, c5⟩ := q_mwA_0 c2
    obtain ⟨S, rfl⟩ : ∃ S : Nat, s = S := ⟨s.toNat, by omega⟩
    obtain ⟨N, rfl⟩ : ∃ N : Nat, p = N := ⟨p.toNat, by omega⟩
    simp only [Int.toNat_natCast] at hq c5
    have hz := C.2.2 S (by omega)
    simp (disch := omega) only [b_X6_judge_0, x_loadR_0, x_loadS_0, x_loadI_1, x_loadI_2, x_storeI_3, x_loadI_3, y_if_ne_t, y_if_ne_f, b_X6_judge_11, x_goto, b_X6_judge_20, b_X6_judge_21, x_ret0, q_isL_I, q_isL_R, q_isL_S, true_and, and_true, and_self, List.length_nil, List.length_cons, Nat.zero_add, x_K, x_Kn, Int.reduceToNat, Nat.reduceAdd, Nat.reduceMul, Nat.reduceLeDiff, Nat.reduceLT, Nat.zero_le, Int.reduceAdd, Int.reduceSub, Int.reduceMul, Int.reduceNeg, q_add_e, q_sub_e, q_mul_e, q_neg_e, q_upd_s, q_upd_n, zr_shr0, zr_shr1, zr_shr2, zr_shr3, zr_shr4, zr_and, zr_dyn8, zr_or, zr_shl, q_cpy_n, y_cpy26, c_X6_toldWrong, mp_toldWrong, c_X6_unlike]
    refine mp_unlike C.1 (by omega) (by omega) hz (by omega) (fun M2 h2 => ?_)
    simp (disch := omega) only [b_X6_judge_0, x_loadR_0, x_loadS_0, x_loadI_1, x_loadI_2, x_storeI_3, x_loadI_3, y_if_ne_t, y_if_ne_f, b_X6_judge_11, x_goto, b_X6_judge_20, b_X6_judge_21, x_ret0, q_isL_I, q_isL_R, q_isL_S, true_and, and_true, and_self, List.length_nil, List.length_cons, Nat.zero_add, x_K, x_Kn, Int.reduceToNat, Nat.reduceAdd, Nat.reduceMul, Nat.reduceLeDiff, Nat.reduceLT, Nat.zero_le, Int.reduceAdd, Int.reduceSub, Int.reduceMul, Int.reduceNeg, q_add_e, q_sub_e, q_mul_e, q_neg_e, q_upd_s, q_upd_n, zr_shr0, zr_shr1, zr_shr2, zr_shr3, zr_shr4, zr_and, zr_dyn8, zr_or, zr_shl, q_cpy_n, y_cpy26]
    exact hq M2 h2
  · rw [if_neg c1] at hq
    simp (disch := omega) only [b_X6_judge_0, x_loadR_0, x_loadS_0, x_loadI_1, x_loadI_2, x_storeI_3, x_loadI_3, y_if_ne_t, y_if_ne_f, b_X6_judge_11, x_goto, b_X6_judge_20, b_X6_judge_21, x_ret0, q_isL_I, q_isL_R, q_isL_S, true_and, and_true, and_self, List.length_nil, List.length_cons, Nat.zero_add, x_K, x_Kn, Int.reduceToNat, Nat.reduceAdd, Nat.reduceMul, Nat.reduceLeDiff, Nat.reduceLT, Nat.zero_le, Int.reduceAdd, Int.reduceSub, Int.reduceMul, Int.reduceNeg, q_add_e, q_sub_e, q_mul_e, q_neg_e, q_upd_s, q_upd_n, zr_shr0, zr_shr1, zr_shr2, zr_shr3, zr_shr4, zr_and, zr_dyn8, zr_or, zr_shl, q_cpy_n, y_cpy26, c_X6_toldWrong, mp_toldWrong]
    exact hq M q_mq_rf
/-- bits of those below k of which T says -1, as the model gathers them -/
def G_set (T : Nat → Int) : Nat → Int
  | 0 => 0
  | k + 1 => q_or (G_set T k) (if T k = -1 then q_shl 1 k else 0)
theorem G_foA_mq {V : Nat → (Nat → Int) → Int} {M M2 S : q_M} {s p : Nat} (h : ∀ i, M2 112 i = M 112 i) (h2 : M2 111 s = M 111 s) : G_foA V M2 S s p = G_foA V M S s p := by
  unfold G_foA
  rw [h2, show (fun i => M2 112 (40 * s + i)) = (fun i => M 112 (40 * s + i)) from funext (fun i => h _)]
def B_whose (V : Nat → (Nat → Int) → Int) (M : q_M) (s : Int) : Int := if q_mwA M s ≠ 0 then q_mwA M s else G_set (fun k => G_foA V M (mW M) s.toNat k) (M 100 0).toNat
set_option maxHeartbeats 4000000 in
theorem mp_whose {V : Nat → (Nat → Int) → Int} {d : Nat} {g : q_G} {M : q_M} {s : Int} {Q : Option q_V → q_G → q_M → Prop} (C : q_mi V M) (hq : ∀ M2 : q_M, q_mq M M2 → Q (some (qI (B_whose V M s))) g M2) : q_S 1 (d + 9) 185 [qR 6 100, qI s] g M Q := by
  have n0 := C.1.1.1
  have y9 := C.2.1
  rw [s_X6_whose]
  unfold B_whose at hq
  by_cases c1 : q_mwA M s = 0
  · rw [if_neg (fun z => z c1)] at hq
    obtain ⟨c4, c5⟩ := q_mwA_0 c1
    obtain ⟨S, rfl⟩ : ∃ S : Nat, s = S := ⟨s.toNat, by omega⟩
    simp only [Int.toNat_natCast] at hq c5
    have hz := C.2.2 S (by omega)
    generalize hT : (fun k : Nat => G_foA V M (mW M) S k) = T at hq
    have loop : ∀ j k : Nat, k + j = (M 100 0).toNat → ∀ M1 : q_M, q_mq M M1 → q_T 1 (d + 9) qP_X6_whose 17 [] [qR 6 100, qI S, qI (q_mwA M S), qI (G_set T k), qI k] [] g M1 Q := by
      intro j
      induction j with
      | zero =>
        intro k hk M1 h1
        have e0 : M1 100 0 = M 100 0 := h1 100 0 (by omega) (by omega)
        have e : k = (M 100 0).toNat := by omega
        rw [← e] at hq
        rw [b_X6_whose_17]
        simp (disch := omega) only [b_X6_whose_0, x_loadR_0, x_loadS_0, x_loadI_1, x_storeI_2, x_loadI_2, y_if_eq_t, y_if_eq_f, b_X6_whose_10, x_ret0, b_X6_whose_12, x_iconst, x_storeI_3, x_storeI_4, x_loadI_4, f_6_0, y_ic_ge_t, y_ic_ge_f, b_X6_whose_26, x_loadI_3, y_ic_ne_t, y_ic_ne_f, b_X6_whose_38, x_ishl, x_goto, b_X6_whose_45, b_X6_whose_46, x_ior, x_iinc_4, b_X6_whose_54, q_isL_I, q_isL_R, q_isL_S, true_and, and_true, and_self, List.length_nil, List.length_cons, Nat.zero_add, x_K, x_Kn, Int.reduceToNat, Nat.reduceAdd, Nat.reduceMul, Nat.reduceLeDiff, Nat.reduceLT, Nat.zero_le, Int.reduceAdd, Int.reduceSub, Int.reduceMul, Int.reduceNeg, q_add_e, q_sub_e, q_mul_e, q_neg_e, q_upd_s, q_upd_n, zr_shr0, zr_shr1, zr_shr2, zr_shr3, zr_shr4, zr_and, zr_dyn8, zr_or, zr_shl, q_cpy_n, y_cpy26]
        exact hq M1 h1
      | succ j ih =>
        intro k hk M1 h1
        have e0 : M1 100 0 = M 100 0 := h1 100 0 (by omega) (by omega)
        have e5 : M1 100 5 = M 100 5 := h1 100 5 (by omega) (by omega)
        have ez : M1 111 S = M 111 S := h1 111 S (by omega) (by omega)
        have ih2 := ih (k + 1) (by omega)
        rw [G_set] at ih2
        rw [b_X6_whose_17]
        simp (disch := omega) only [b_X6_whose_0, x_loadR_0, x_loadS_0, x_loadI_1, x_storeI_2, x_loadI_2, y_if_eq_t, y_if_eq_f, b_X6_whose_10, x_ret0, b_X6_whose_12, x_iconst, x_storeI_3, x_storeI_4, x_loadI_4, f_6_0, y_ic_ge_t, y_ic_ge_f, b_X6_whose_26, x_loadI_3, y_ic_ne_t, y_ic_ne_f, b_X6_whose_38, x_ishl, x_goto, b_X6_whose_45, b_X6_whose_46, x_ior, x_iinc_4, b_X6_whose_54, q_isL_I, q_isL_R, q_isL_S, true_and, and_true, and_self, List.length_nil, List.length_cons, Nat.zero_add, x_K, x_Kn, Int.reduceToNat, Nat.reduceAdd, Nat.reduceMul, Nat.reduceLeDiff, Nat.reduceLT, Nat.zero_le, Int.reduceAdd, Int.reduceSub, Int.reduceMul, Int.reduceNeg, q_add_e, q_sub_e, q_mul_e, q_neg_e, q_upd_s, q_upd_n, zr_shr0, zr_shr1, zr_shr2, zr_shr3, zr_shr4, zr_and, zr_dyn8, zr_or, zr_shl, q_cpy_n, y_cpy26, c_X6_unlike]
        refine mp_unlike (q_mq_ml h1 C.1) (by omega) (by omega) (by omega) (by omega) (fun M2 h2 => ?_)
        have eT : G_foA V M1 (mW M1) S k = T k := by rw [← hT, q_mq_mW h1]; exact G_foA_mq (fun i => h1 112 i (by omega) (by omega)) ez
        rw [eT]
        by_cases c : T k = -1
        · rw [if_pos c] at ih2
          simp (disch := omega) only [b_X6_whose_0, x_loadR_0, x_loadS_0, x_loadI_1, x_storeI_2, x_loadI_2, y_if_eq_t, y_if_eq_f, b_X6_whose_10, x_ret0, b_X6_whose_12, x_iconst, x_storeI_3, x_storeI_4, x_loadI_4, f_6_0, y_ic_ge_t, y_ic_ge_f, b_X6_whose_26, x_loadI_3, y_ic_ne_t, y_ic_ne_f, b_X6_whose_38, x_ishl, x_goto, b_X6_whose_45, b_X6_whose_46, x_ior, x_iinc_4, b_X6_whose_54, q_isL_I, q_isL_R, q_isL_S, true_and, and_true, and_self, List.length_nil, List.length_cons, Nat.zero_add, x_K, x_Kn, Int.reduceToNat, Nat.reduceAdd, Nat.reduceMul, Nat.reduceLeDiff, Nat.reduceLT, Nat.zero_le, Int.reduceAdd, Int.reduceSub, Int.reduceMul, Int.reduceNeg, q_add_e, q_sub_e, q_mul_e, q_neg_e, q_upd_s, q_upd_n, zr_shr0, zr_shr1, zr_shr2, zr_shr3, zr_shr4, zr_and, zr_dyn8, zr_or, zr_shl, q_cpy_n, y_cpy26]
          exact ih2 M2 (q_mq_tr h1 h2)
        · rw [if_neg c] at ih2
          simp (disch := omega) only [b_X6_whose_0, x_loadR_0, x_loadS_0, x_loadI_1, x_storeI_2, x_loadI_2, y_if_eq_t, y_if_eq_f, b_X6_whose_10, x_ret0, b_X6_whose_12, x_iconst, x_storeI_3, x_storeI_4, x_loadI_4, f_6_0, y_ic_ge_t, y_ic_ge_f, b_X6_whose_26, x_loadI_3, y_ic_ne_t, y_ic_ne_f, b_X6_whose_38, x_ishl, x_goto, b_X6_whose_45, b_X6_whose_46, x_ior, x_iinc_4, b_X6_whose_54, q_isL_I, q_isL_R, q_isL_S, true_and, and_true, and_self, List.length_nil, List.length_cons, Nat.zero_add, x_K, x_Kn, Int.reduceToNat, Nat.reduceAdd, Nat.reduceMul, Nat.reduceLeDiff, Nat.reduceLT, Nat.zero_le, Int.reduceAdd, Int.reduceSub, Int.reduceMul, Int.reduceNeg, q_add_e, q_sub_e, q_mul_e, q_neg_e, q_upd_s, q_upd_n, zr_shr0, zr_shr1, zr_shr2, zr_shr3, zr_shr4, zr_and, zr_dyn8, zr_or, zr_shl, q_cpy_n, y_cpy26]
          exact ih2 M2 (q_mq_tr h1 h2)
    simp (disch := omega) only [b_X6_whose_0, x_loadR_0, x_loadS_0, x_loadI_1, x_storeI_2, x_loadI_2, y_if_eq_t, y_if_eq_f, b_X6_whose_10, x_ret0, b_X6_whose_12, x_iconst, x_storeI_3, x_storeI_4, x_loadI_4, f_6_0, y_ic_ge_t, y_ic_ge_f, b_X6_whose_26, x_loadI_3, y_ic_ne_t, y_ic_ne_f, b_X6_whose_38, x_ishl, x_goto, b_X6_whose_45, b_X6_whose_46, x_ior, x_iinc_4, b_X6_whose_54, q_isL_I, q_isL_R, q_isL_S, true_and, and_true, and_self, List.length_nil, List.length_cons, Nat.zero_add, x_K, x_Kn, Int.reduceToNat, Nat.reduceAdd, Nat.reduceMul, Nat.reduceLeDiff, Nat.reduceLT, Nat.zero_le, Int.reduceAdd, Int.reduceSub, Int.reduceMul, Int.reduceNeg, q_add_e, q_sub_e, q_mul_e, q_neg_e, q_upd_s, q_upd_n, zr_shr0, zr_shr1, zr_shr2, zr_shr3, zr_shr4, zr_and, zr_dyn8, zr_or, zr_shl, q_cpy_n, y_cpy26, c_X6_sheetWrong, mp_sheetWrong]
    exact loop (M 100 0).toNat 0 (by omega) M q_mq_rf
  · rw [if_pos c1] at hq
    simp (disch := omega) only [b_X6_whose_0, x_loadR_0, x_loadS_0, x_loadI_1, x_storeI_2, x_loadI_2, y_if_eq_t, y_if_eq_f, b_X6_whose_10, x_ret0, b_X6_whose_12, x_iconst, x_storeI_3, x_storeI_4, x_loadI_4, f_6_0, y_ic_ge_t, y_ic_ge_f, b_X6_whose_26, x_loadI_3, y_ic_ne_t, y_ic_ne_f, b_X6_whose_38, x_ishl, x_goto, b_X6_whose_45, b_X6_whose_46, x_ior, x_iinc_4, b_X6_whose_54, q_isL_I, q_isL_R, q_isL_S, true_and, and_true, and_self, List.length_nil, List.length_cons, Nat.zero_add, x_K, x_Kn, Int.reduceToNat, Nat.reduceAdd, Nat.reduceMul, Nat.reduceLeDiff, Nat.reduceLT, Nat.zero_le, Int.reduceAdd, Int.reduceSub, Int.reduceMul, Int.reduceNeg, q_add_e, q_sub_e, q_mul_e, q_neg_e, q_upd_s, q_upd_n, zr_shr0, zr_shr1, zr_shr2, zr_shr3, zr_shr4, zr_and, zr_dyn8, zr_or, zr_shl, q_cpy_n, y_cpy26, c_X6_sheetWrong, mp_sheetWrong]
    exact hq M q_mq_rf
def B_kinds (V : Nat → (Nat → Int) → Int) (M : q_M) (s p so : Int) : Int := if q_twA M s p ≠ 0 then q_twA M s p else if ¬(0 ≤ so ∧ so ≤ 1) then -7 else G_set (fun k => G_foA V M (q_upd (mW M) so.toNat p.toNat k) s.toNat p.toNat) (if so = 0 then 6 else 10)
/-- all as in M but two cells -/
def q_m2 (p : Nat) (M M2 : q_M) : Prop := ∀ a i, (a < 116 ∨ 124 ≤ a) → (a = 100 → i ≠ 36) → ((a = 101 ∨ a = 102) → i ≠ p) → M2 a i = M a i
set_option maxHeartbeats 4000000 in
theorem mp_kinds {V : Nat → (Nat → Int) → Int} {d : Nat} {g : q_G} {M : q_M} {s p so : Int} {Q : Option q_V → q_G → q_M → Prop} (C : q_mi V M) (hq : ∀ M2 : q_M, q_mq M M2 → Q (some (qI (B_kinds V M s p so))) g M2) : q_S 1 (d + 9) 183 [qR 6 100, qI s, qI p, qI so] g M Q := by
  have n0 := C.1.1.1
  have y9 := C.2.1
  rw [s_X6_kinds]
  unfold B_kinds at hq
  by_cases c1 : q_twA M s p = 0
  · rw [if_neg (fun z => z c1)] at hq
    by_cases cs : 0 ≤ so ∧ so ≤ 1
    · rw [if_neg (fun z => z cs)] at hq
      obtain ⟨c2, c3⟩ := q_twA_0 c1
      obtain ⟨c4, c5⟩ := q_mwA_0 c2
      obtain ⟨S, rfl⟩ : ∃ S : Nat, s = S := ⟨s.toNat, by omega⟩
      obtain ⟨N, rfl⟩ : ∃ N : Nat, p = N := ⟨p.toNat, by omega⟩
      simp only [Int.toNat_natCast] at hq c5
      have hz := C.2.2 S (by omega)
      have hN : N < 5 := by omega
      have bK := C.1.1.2.2.1 N hN
      have bM := C.1.1.2.2.2.1 N hN
      generalize hT : (fun k : Nat => G_foA V M (q_upd (mW M) so.toNat N k) S N) = T at hq
      have step : ∀ (M1 : q_M) (k : Nat) (row : Nat) (a b : Int), q_m2 N M M1 → row < 2 → (row = 0 → a = k ∧ b = M 102 N ∧ k ≤ 5) → (row = 1 → a = M 101 N ∧ b = k ∧ k ≤ 9) → q_ml V (q_upd (q_upd M1 101 N a) 102 N b) ∧ mW (q_upd (q_upd M1 101 N a) 102 N b) = q_upd (mW M) row N k ∧ q_m2 N M (q_upd (q_upd M1 101 N a) 102 N b) := by
        intro M1 k row a b h1 hr h2 h3
        have h4 : q_mq (q_upd M (101 + row) N k) (q_upd (q_upd M1 101 N a) 102 N b) := by
          intro x i q1 q2
          rcases (show row = 0 ∨ row = 1 by omega) with e | e
          · obtain ⟨e1, e2, e3⟩ := h2 e
            subst e
            by_cases k1 : x = 102 ∧ i = N
            · obtain ⟨rfl, rfl⟩ := k1
              rw [q_upd_s, q_upd_n (by omega), e2]
            · rw [q_upd_n (by omega)]
              by_cases k2 : x = 101 ∧ i = N
              · obtain ⟨rfl, rfl⟩ := k2
                rw [q_upd_s, e1]
                exact q_upd_s.symm
              · rw [q_upd_n (by omega), q_upd_n (by omega)]
                exact h1 x i q1 q2 (by omega)
          · obtain ⟨e1, e2, e3⟩ := h3 e
            subst e
            by_cases k1 : x = 102 ∧ i = N
            · obtain ⟨rfl, rfl⟩ := k1
              rw [q_upd_s, e2]
              exact q_upd_s.symm
            · rw [q_upd_n (by omega)]
              by_cases k2 : x = 101 ∧ i = N
              · obtain ⟨rfl, rfl⟩ := k2
                rw [q_upd_s, q_upd_n (by omega), e1]
              · rw [q_upd_n (by omega), q_upd_n (by omega)]
                exact h1 x i q1 q2 (by omega)
        have hu : q_ml V (q_upd M (101 + row) N k) := by
          rcases (show row = 0 ∨ row = 1 by omega) with e | e
          · obtain ⟨e1, e2, e3⟩ := h2 e
            subst e
            exact q_ml_up C.1 (q_ok0 (by omega)) (by omega) (by omega) (by omega)
          · obtain ⟨e1, e2, e3⟩ := h3 e
            subst e
            exact q_ml_up C.1 (q_ok1 (by omega)) (by omega) (by omega) (by omega)
        refine ⟨q_mq_ml h4 hu, ?_, fun x i q1 q2 q3 => ?_⟩
        · rw [q_mq_mW h4]
          rcases (show row = 0 ∨ row = 1 by omega) with e | e
          · subst e
            exact mW_up0 (by omega)
          · subst e
            exact mW_up1 (by omega)
        · rw [q_upd_n (by omega), q_upd_n (by omega)]
          exact h1 x i q1 q2 q3
      have loop : ∀ K : Nat, K = (if so = 0 then 6 else 10) → ∀ j k : Nat, k + j = K → ∀ M1 : q_M, q_m2 N M M1 → q_T 1 (d + 9) qP_X6_kinds 50 [] [qR 6 100, qI S, qI N, qI so, qI (q_twA M S N), qI (M 101 N), qI (M 102 N), qI (G_set T k), qI k] [] g M1 Q := by
        intro K hK
        rw [← hK] at hq
        intro j
        induction j with
        | zero =>
          intro k hk M1 h1
          have e : k = K := by omega
          subst e
          have fin : ∀ M3 : q_M, M3 = q_upd (q_upd M1 101 N (M 101 N)) 102 N (M 102 N) → q_mq M M3 := by
            intro M3 e3 x i q1 q2
            rw [e3]
            by_cases k1 : x = 102 ∧ i = N
            · obtain ⟨rfl, rfl⟩ := k1
              exact q_upd_s
            · rw [q_upd_n (by omega)]
              by_cases k2 : x = 101 ∧ i = N
              · obtain ⟨rfl, rfl⟩ := k2
                exact q_upd_s
              · rw [q_upd_n (by omega)]
                exact h1 x i q1 q2 (by omega)
          rw [b_X6_kinds_50]
          rcases (show so = 0 ∨ so = 1 by omega) with e | e
          · subst e
            rw [if_pos rfl] at hK
            subst hK
            simp (disch := omega) only [b_X6_kinds_0, x_loadR_0, x_loadS_0, x_loadI_1, x_loadI_2, x_storeI_4, x_loadI_4, y_if_eq_t, y_if_eq_f, b_X6_kinds_13, x_ret0, b_X6_kinds_16, x_loadI_3, x_iconst, y_if_ne_t, y_if_ne_f, b_X6_kinds_25, b_X6_kinds_28, f_6_1, y_iald_25, x_storeI_5, f_6_2, x_storeI_6, x_storeI_7, x_storeI_8, x_loadI_8, b_X6_kinds_56, x_goto, b_X6_kinds_61, b_X6_kinds_63, y_ic_ge_t, y_ic_ge_f, b_X6_kinds_66, b_X6_kinds_75, b_X6_kinds_80, x_loadI_5, b_X6_kinds_82, y_iast_25, y_ic_ne_t, y_ic_ne_f, b_X6_kinds_93, b_X6_kinds_98, x_loadI_6, b_X6_kinds_100, x_loadI_7, b_X6_kinds_113, x_ishl, b_X6_kinds_120, b_X6_kinds_121, x_ior, x_iinc_8, b_X6_kinds_130, q_isL_I, q_isL_R, q_isL_S, true_and, and_true, and_self, List.length_nil, List.length_cons, Nat.zero_add, x_K, x_Kn, Int.reduceToNat, Nat.reduceAdd, Nat.reduceMul, Nat.reduceLeDiff, Nat.reduceLT, Nat.zero_le, Int.reduceAdd, Int.reduceSub, Int.reduceMul, Int.reduceNeg, q_add_e, q_sub_e, q_mul_e, q_neg_e, q_upd_s, q_upd_n, zr_shr0, zr_shr1, zr_shr2, zr_shr3, zr_shr4, zr_and, zr_dyn8, zr_or, zr_shl, q_cpy_n, y_cpy26, Int.toNat_natCast]
            exact hq _ (fin _ rfl)
          · subst e
            rw [if_neg (by omega)] at hK
            subst hK
            simp (disch := omega) only [b_X6_kinds_0, x_loadR_0, x_loadS_0, x_loadI_1, x_loadI_2, x_storeI_4, x_loadI_4, y_if_eq_t, y_if_eq_f, b_X6_kinds_13, x_ret0, b_X6_kinds_16, x_loadI_3, x_iconst, y_if_ne_t, y_if_ne_f, b_X6_kinds_25, b_X6_kinds_28, f_6_1, y_iald_25, x_storeI_5, f_6_2, x_storeI_6, x_storeI_7, x_storeI_8, x_loadI_8, b_X6_kinds_56, x_goto, b_X6_kinds_61, b_X6_kinds_63, y_ic_ge_t, y_ic_ge_f, b_X6_kinds_66, b_X6_kinds_75, b_X6_kinds_80, x_loadI_5, b_X6_kinds_82, y_iast_25, y_ic_ne_t, y_ic_ne_f, b_X6_kinds_93, b_X6_kinds_98, x_loadI_6, b_X6_kinds_100, x_loadI_7, b_X6_kinds_113, x_ishl, b_X6_kinds_120, b_X6_kinds_121, x_ior, x_iinc_8, b_X6_kinds_130, q_isL_I, q_isL_R, q_isL_S, true_and, and_true, and_self, List.length_nil, List.length_cons, Nat.zero_add, x_K, x_Kn, Int.reduceToNat, Nat.reduceAdd, Nat.reduceMul, Nat.reduceLeDiff, Nat.reduceLT, Nat.zero_le, Int.reduceAdd, Int.reduceSub, Int.reduceMul, Int.reduceNeg, q_add_e, q_sub_e, q_mul_e, q_neg_e, q_upd_s, q_upd_n, zr_shr0, zr_shr1, zr_shr2, zr_shr3, zr_shr4, zr_and, zr_dyn8, zr_or, zr_shl, q_cpy_n, y_cpy26, Int.toNat_natCast]
            exact hq _ (fin _ rfl)
        | succ j ih =>
          intro k hk M1 h1
          have e0 : M1 100 0 = M 100 0 := h1 100 0 (by omega) (by omega) (by omega)
          have e5 : M1 100 5 = M 100 5 := h1 100 5 (by omega) (by omega) (by omega)
          have ez : M1 111 S = M 111 S := h1 111 S (by omega) (by omega) (by omega)
          have ih2 := ih (k + 1) (by omega)
          rw [G_set] at ih2
          rw [b_X6_kinds_50]
          rcases (show so = 0 ∨ so = 1 by omega) with e | e
          · subst e
            rw [if_pos rfl] at hK
            subst hK
            obtain ⟨m2, w2, f2⟩ := step M1 k 0 k (M 102 N) h1 (by omega) (fun _ => ⟨rfl, rfl, by omega⟩) (fun z => absurd z (by omega))
            simp (disch := omega) only [b_X6_kinds_0, x_loadR_0, x_loadS_0, x_loadI_1, x_loadI_2, x_storeI_4, x_loadI_4, y_if_eq_t, y_if_eq_f, b_X6_kinds_13, x_ret0, b_X6_kinds_16, x_loadI_3, x_iconst, y_if_ne_t, y_if_ne_f, b_X6_kinds_25, b_X6_kinds_28, f_6_1, y_iald_25, x_storeI_5, f_6_2, x_storeI_6, x_storeI_7, x_storeI_8, x_loadI_8, b_X6_kinds_56, x_goto, b_X6_kinds_61, b_X6_kinds_63, y_ic_ge_t, y_ic_ge_f, b_X6_kinds_66, b_X6_kinds_75, b_X6_kinds_80, x_loadI_5, b_X6_kinds_82, y_iast_25, y_ic_ne_t, y_ic_ne_f, b_X6_kinds_93, b_X6_kinds_98, x_loadI_6, b_X6_kinds_100, x_loadI_7, b_X6_kinds_113, x_ishl, b_X6_kinds_120, b_X6_kinds_121, x_ior, x_iinc_8, b_X6_kinds_130, q_isL_I, q_isL_R, q_isL_S, true_and, and_true, and_self, List.length_nil, List.length_cons, Nat.zero_add, x_K, x_Kn, Int.reduceToNat, Nat.reduceAdd, Nat.reduceMul, Nat.reduceLeDiff, Nat.reduceLT, Nat.zero_le, Int.reduceAdd, Int.reduceSub, Int.reduceMul, Int.reduceNeg, q_add_e, q_sub_e, q_mul_e, q_neg_e, q_upd_s, q_upd_n, zr_shr0, zr_shr1, zr_shr2, zr_shr3, zr_shr4, zr_and, zr_dyn8, zr_or, zr_shl, q_cpy_n, y_cpy26, Int.toNat_natCast, c_X6_unlike]
            refine mp_unlike m2 (by rw [q_upd_n (by omega), q_upd_n (by omega)]; omega) (by omega) (by rw [q_upd_n (by omega), q_upd_n (by omega)]; omega) (by rw [q_upd_n (by omega), q_upd_n (by omega)]; omega) (fun M3 h3 => ?_)
            have eT : G_foA V (q_upd (q_upd M1 101 N k) 102 N (M 102 N)) (mW (q_upd (q_upd M1 101 N k) 102 N (M 102 N))) S N = T k := by
              rw [← hT, w2]
              exact G_foA_mq (fun i => f2 112 i (by omega) (by omega) (by omega)) (f2 111 S (by omega) (by omega) (by omega))
            rw [eT]
            have f3 : q_m2 N M M3 := fun x i q1 q2 q3 => (h3 x i q1 q2).trans (f2 x i q1 q2 q3)
            by_cases c : T k = -1
            · rw [if_pos c] at ih2
              simp (disch := omega) only [b_X6_kinds_0, x_loadR_0, x_loadS_0, x_loadI_1, x_loadI_2, x_storeI_4, x_loadI_4, y_if_eq_t, y_if_eq_f, b_X6_kinds_13, x_ret0, b_X6_kinds_16, x_loadI_3, x_iconst, y_if_ne_t, y_if_ne_f, b_X6_kinds_25, b_X6_kinds_28, f_6_1, y_iald_25, x_storeI_5, f_6_2, x_storeI_6, x_storeI_7, x_storeI_8, x_loadI_8, b_X6_kinds_56, x_goto, b_X6_kinds_61, b_X6_kinds_63, y_ic_ge_t, y_ic_ge_f, b_X6_kinds_66, b_X6_kinds_75, b_X6_kinds_80, x_loadI_5, b_X6_kinds_82, y_iast_25, y_ic_ne_t, y_ic_ne_f, b_X6_kinds_93, b_X6_kinds_98, x_loadI_6, b_X6_kinds_100, x_loadI_7, b_X6_kinds_113, x_ishl, b_X6_kinds_120, b_X6_kinds_121, x_ior, x_iinc_8, b_X6_kinds_130, q_isL_I, q_isL_R, q_isL_S, true_and, and_true, and_self, List.length_nil, List.length_cons, Nat.zero_add, x_K, x_Kn, Int.reduceToNat, Nat.reduceAdd, Nat.reduceMul, Nat.reduceLeDiff, Nat.reduceLT, Nat.zero_le, Int.reduceAdd, Int.reduceSub, Int.reduceMul, Int.reduceNeg, q_add_e, q_sub_e, q_mul_e, q_neg_e, q_upd_s, q_upd_n, zr_shr0, zr_shr1, zr_shr2, zr_shr3, zr_shr4, zr_and, zr_dyn8, zr_or, zr_shl, q_cpy_n, y_cpy26]
              exact ih2 M3 f3
            · rw [if_neg c] at ih2
              simp (disch := omega) only [b_X6_kinds_0, x_loadR_0, x_loadS_0, x_loadI_1, x_loadI_2, x_storeI_4, x_loadI_4, y_if_eq_t, y_if_eq_f, b_X6_kinds_13, x_ret0, b_X6_kinds_16, x_loadI_3, x_iconst, y_if_ne_t, y_if_ne_f, b_X6_kinds_25, b_X6_kinds_28, f_6_1, y_iald_25, x_storeI_5, f_6_2, x_storeI_6, x_storeI_7, x_storeI_8, x_loadI_8, b_X6_kinds_56, x_goto, b_X6_kinds_61, b_X6_kinds_63, y_ic_ge_t, y_ic_ge_f, b_X6_kinds_66, b_X6_kinds_75, b_X6_kinds_80, x_loadI_5, b_X6_kinds_82, y_iast_25, y_ic_ne_t, y_ic_ne_f, b_X6_kinds_93, b_X6_kinds_98, x_loadI_6, b_X6_kinds_100, x_loadI_7, b_X6_kinds_113, x_ishl, b_X6_kinds_120, b_X6_kinds_121, x_ior, x_iinc_8, b_X6_kinds_130, q_isL_I, q_isL_R, q_isL_S, true_and, and_true, and_self, List.length_nil, List.length_cons, Nat.zero_add, x_K, x_Kn, Int.reduceToNat, Nat.reduceAdd, Nat.reduceMul, Nat.reduceLeDiff, Nat.reduceLT, Nat.zero_le, Int.reduceAdd, Int.reduceSub, Int.reduceMul, Int.reduceNeg, q_add_e, q_sub_e, q_mul_e, q_neg_e, q_upd_s, q_upd_n, zr_shr0, zr_shr1, zr_shr2, zr_shr3, zr_shr4, zr_and, zr_dyn8, zr_or, zr_shl, q_cpy_n, y_cpy26]
              exact ih2 M3 f3
          · subst e
            rw [if_neg (by omega)] at hK
            subst hK
            obtain ⟨m2, w2, f2⟩ := step M1 k 1 (M 101 N) k h1 (by omega) (fun z => absurd z (by omega)) (fun _ => ⟨rfl, rfl, by omega⟩)
            simp (disch := omega) only [b_X6_kinds_0, x_loadR_0, x_loadS_0, x_loadI_1, x_loadI_2, x_storeI_4, x_loadI_4, y_if_eq_t, y_if_eq_f, b_X6_kinds_13, x_ret0, b_X6_kinds_16, x_loadI_3, x_iconst, y_if_ne_t, y_if_ne_f, b_X6_kinds_25, b_X6_kinds_28, f_6_1, y_iald_25, x_storeI_5, f_6_2, x_storeI_6, x_storeI_7, x_storeI_8, x_loadI_8, b_X6_kinds_56, x_goto, b_X6_kinds_61, b_X6_kinds_63, y_ic_ge_t, y_ic_ge_f, b_X6_kinds_66, b_X6_kinds_75, b_X6_kinds_80, x_loadI_5, b_X6_kinds_82, y_iast_25, y_ic_ne_t, y_ic_ne_f, b_X6_kinds_93, b_X6_kinds_98, x_loadI_6, b_X6_kinds_100, x_loadI_7, b_X6_kinds_113, x_ishl, b_X6_kinds_120, b_X6_kinds_121, x_ior, x_iinc_8, b_X6_kinds_130, q_isL_I, q_isL_R, q_isL_S, true_and, and_true, and_self, List.length_nil, List.length_cons, Nat.zero_add, x_K, x_Kn, Int.reduceToNat, Nat.reduceAdd, Nat.reduceMul, Nat.reduceLeDiff, Nat.reduceLT, Nat.zero_le, Int.reduceAdd, Int.reduceSub, Int.reduceMul, Int.reduceNeg, q_add_e, q_sub_e, q_mul_e, q_neg_e, q_upd_s, q_upd_n, zr_shr0, zr_shr1, zr_shr2, zr_shr3, zr_shr4, zr_and, zr_dyn8, zr_or, zr_shl, q_cpy_n, y_cpy26, Int.toNat_natCast, c_X6_unlike]
            refine mp_unlike m2 (by rw [q_upd_n (by omega), q_upd_n (by omega)]; omega) (by omega) (by rw [q_upd_n (by omega), q_upd_n (by omega)]; omega) (by rw [q_upd_n (by omega), q_upd_n (by omega)]; omega) (fun M3 h3 => ?_)
            have eT : G_foA V (q_upd (q_upd M1 101 N (M 101 N)) 102 N k) (mW (q_upd (q_upd M1 101 N (M 101 N)) 102 N k)) S N = T k := by
              rw [← hT, w2]
              exact G_foA_mq (fun i => f2 112 i (by omega) (by omega) (by omega)) (f2 111 S (by omega) (by omega) (by omega))
            rw [eT]
            have f3 : q_m2 N M M3 := fun x i q1 q2 q3 => (h3 x i q1 q2).trans (f2 x i q1 q2 q3)
            by_cases c : T k = -1
            · rw [if_pos c] at ih2
              simp (disch := omega) only [b_X6_kinds_0, x_loadR_0, x_loadS_0, x_loadI_1, x_loadI_2, x_storeI_4, x_loadI_4, y_if_eq_t, y_if_eq_f, b_X6_kinds_13, x_ret0, b_X6_kinds_16, x_loadI_3, x_iconst, y_if_ne_t, y_if_ne_f, b_X6_kinds_25, b_X6_kinds_28, f_6_1, y_iald_25, x_storeI_5, f_6_2, x_storeI_6, x_storeI_7, x_storeI_8, x_loadI_8, b_X6_kinds_56, x_goto, b_X6_kinds_61, b_X6_kinds_63, y_ic_ge_t, y_ic_ge_f, b_X6_kinds_66, b_X6_kinds_75, b_X6_kinds_80, x_loadI_5, b_X6_kinds_82, y_iast_25, y_ic_ne_t, y_ic_ne_f, b_X6_kinds_93, b_X6_kinds_98, x_loadI_6, b_X6_kinds_100, x_loadI_7, b_X6_kinds_113, x_ishl, b_X6_kinds_120, b_X6_kinds_121, x_ior, x_iinc_8, b_X6_kinds_130, q_isL_I, q_isL_R, q_isL_S, true_and, and_true, and_self, List.length_nil, List.length_cons, Nat.zero_add, x_K, x_Kn, Int.reduceToNat, Nat.reduceAdd, Nat.reduceMul, Nat.reduceLeDiff, Nat.reduceLT, Nat.zero_le, Int.reduceAdd, Int.reduceSub, Int.reduceMul, Int.reduceNeg, q_add_e, q_sub_e, q_mul_e, q_neg_e, q_upd_s, q_upd_n, zr_shr0, zr_shr1, zr_shr2, zr_shr3, zr_shr4, zr_and, zr_dyn8, zr_or, zr_shl, q_cpy_n, y_cpy26]
              exact ih2 M3 f3
            · rw [if_neg c] at ih2
              simp (disch := omega) only [b_X6_kinds_0, x_loadR_0, x_loadS_0, x_loadI_1, x_loadI_2, x_storeI_4, x_loadI_4, y_if_eq_t, y_if_eq_f, b_X6_kinds_13, x_ret0, b_X6_kinds_16, x_loadI_3, x_iconst, y_if_ne_t, y_if_ne_f, b_X6_kinds_25, b_X6_kinds_28, f_6_1, y_iald_25, x_storeI_5, f_6_2, x_storeI_6, x_storeI_7, x_storeI_8, x_loadI_8, b_X6_kinds_56, x_goto, b_X6_kinds_61, b_X6_kinds_63, y_ic_ge_t, y_ic_ge_f, b_X6_kinds_66, b_X6_kinds_75, b_X6_kinds_80, x_loadI_5, b_X6_kinds_82, y_iast_25, y_ic_ne_t, y_ic_ne_f, b_X6_kinds_93, b_X6_kinds_98, x_loadI_6, b_X6_kinds_100, x_loadI_7, b_X6_kinds_113, x_ishl, b_X6_kinds_120, b_X6_kinds_121, x_ior, x_iinc_8, b_X6_kinds_130, q_isL_I, q_isL_R, q_isL_S, true_and, and_true, and_self, List.length_nil, List.length_cons, Nat.zero_add, x_K, x_Kn, Int.reduceToNat, Nat.reduceAdd, Nat.reduceMul, Nat.reduceLeDiff, Nat.reduceLT, Nat.zero_le, Int.reduceAdd, Int.reduceSub, Int.reduceMul, Int.reduceNeg, q_add_e, q_sub_e, q_mul_e, q_neg_e, q_upd_s, q_upd_n, zr_shr0, zr_shr1, zr_shr2, zr_shr3, zr_shr4, zr_and, zr_dyn8, zr_or, zr_shl, q_cpy_n, y_cpy26]
              exact ih2 M3 f3
      have l := fun K hK => loop K hK K 0 (by omega) M (fun _ _ _ _ _ => rfl)
      simp (disch := omega) only [b_X6_kinds_0, x_loadR_0, x_loadS_0, x_loadI_1, x_loadI_2, x_storeI_4, x_loadI_4, y_if_eq_t, y_if_eq_f, b_X6_kinds_13, x_ret0, b_X6_kinds_16, x_loadI_3, x_iconst, y_if_ne_t, y_if_ne_f, b_X6_kinds_25, b_X6_kinds_28, f_6_1, y_iald_25, x_storeI_5, f_6_2, x_storeI_6, x_storeI_7, x_storeI_8, x_loadI_8, b_X6_kinds_56, x_goto, b_X6_kinds_61, b_X6_kinds_63, y_ic_ge_t, y_ic_ge_f, b_X6_kinds_66, b_X6_kinds_75, b_X6_kinds_80, x_loadI_5, b_X6_kinds_82, y_iast_25, y_ic_ne_t, y_ic_ne_f, b_X6_kinds_93, b_X6_kinds_98, x_loadI_6, b_X6_kinds_100, x_loadI_7, b_X6_kinds_113, x_ishl, b_X6_kinds_120, b_X6_kinds_121, x_ior, x_iinc_8, b_X6_kinds_130, q_isL_I, q_isL_R, q_isL_S, true_and, and_true, and_self, List.length_nil, List.length_cons, Nat.zero_add, x_K, x_Kn, Int.reduceToNat, Nat.reduceAdd, Nat.reduceMul, Nat.reduceLeDiff, Nat.reduceLT, Nat.zero_le, Int.reduceAdd, Int.reduceSub, Int.reduceMul, Int.reduceNeg, q_add_e, q_sub_e, q_mul_e, q_neg_e, q_upd_s, q_upd_n, zr_shr0, zr_shr1, zr_shr2, zr_shr3, zr_shr4, zr_and, zr_dyn8, zr_or, zr_shl, q_cpy_n, y_cpy26, c_X6_toldWrong, mp_toldWrong, c_X6_in, mp_in, cs, and_self, if_true, Int.toNat_natCast]
      exact l _ rfl
    · rw [if_pos cs] at hq
      simp (disch := omega) only [b_X6_kinds_0, x_loadR_0, x_loadS_0, x_loadI_1, x_loadI_2, x_storeI_4, x_loadI_4, y_if_eq_t, y_if_eq_f, b_X6_kinds_13, x_ret0, b_X6_kinds_16, x_loadI_3, x_iconst, y_if_ne_t, y_if_ne_f, b_X6_kinds_25, b_X6_kinds_28, f_6_1, y_iald_25, x_storeI_5, f_6_2, x_storeI_6, x_storeI_7, x_storeI_8, x_loadI_8, b_X6_kinds_56, x_goto, b_X6_kinds_61, b_X6_kinds_63, y_ic_ge_t, y_ic_ge_f, b_X6_kinds_66, b_X6_kinds_75, b_X6_kinds_80, x_loadI_5, b_X6_kinds_82, y_iast_25, y_ic_ne_t, y_ic_ne_f, b_X6_kinds_93, b_X6_kinds_98, x_loadI_6, b_X6_kinds_100, x_loadI_7, b_X6_kinds_113, x_ishl, b_X6_kinds_120, b_X6_kinds_121, x_ior, x_iinc_8, b_X6_kinds_130, q_isL_I, q_isL_R, q_isL_S, true_and, and_true, and_self, List.length_nil, List.length_cons, Nat.zero_add, x_K, x_Kn, Int.reduceToNat, Nat.reduceAdd, Nat.reduceMul, Nat.reduceLeDiff, Nat.reduceLT, Nat.zero_le, Int.reduceAdd, Int.reduceSub, Int.reduceMul, Int.reduceNeg, q_add_e, q_sub_e, q_mul_e, q_neg_e, q_upd_s, q_upd_n, zr_shr0, zr_shr1, zr_shr2, zr_shr3, zr_shr4, zr_and, zr_dyn8, zr_or, zr_shl, q_cpy_n, y_cpy26, c_X6_toldWrong, mp_toldWrong, c_X6_in, mp_in, cs, if_false]
      exact hq M q_mq_rf
  · rw [if_pos c1] at hq
    simp (disch := omega) only [b_X6_kinds_0, x_loadR_0, x_loadS_0, x_loadI_1, x_loadI_2, x_storeI_4, x_loadI_4, y_if_eq_t, y_if_eq_f, b_X6_kinds_13, x_ret0, b_X6_kinds_16, x_loadI_3, x_iconst, y_if_ne_t, y_if_ne_f, b_X6_kinds_25, b_X6_kinds_28, f_6_1, y_iald_25, x_storeI_5, f_6_2, x_storeI_6, x_storeI_7, x_storeI_8, x_loadI_8, b_X6_kinds_56, x_goto, b_X6_kinds_61, b_X6_kinds_63, y_ic_ge_t, y_ic_ge_f, b_X6_kinds_66, b_X6_kinds_75, b_X6_kinds_80, x_loadI_5, b_X6_kinds_82, y_iast_25, y_ic_ne_t, y_ic_ne_f, b_X6_kinds_93, b_X6_kinds_98, x_loadI_6, b_X6_kinds_100, x_loadI_7, b_X6_kinds_113, x_ishl, b_X6_kinds_120, b_X6_kinds_121, x_ior, x_iinc_8, b_X6_kinds_130, q_isL_I, q_isL_R, q_isL_S, true_and, and_true, and_self, List.length_nil, List.length_cons, Nat.zero_add, x_K, x_Kn, Int.reduceToNat, Nat.reduceAdd, Nat.reduceMul, Nat.reduceLeDiff, Nat.reduceLT, Nat.zero_le, Int.reduceAdd, Int.reduceSub, Int.reduceMul, Int.reduceNeg, q_add_e, q_sub_e, q_mul_e, q_neg_e, q_upd_s, q_upd_n, zr_shr0, zr_shr1, zr_shr2, zr_shr3, zr_shr4, zr_and, zr_dyn8, zr_or, zr_shl, q_cpy_n, y_cpy26, c_X6_toldWrong, mp_toldWrong]
    exact hq M q_mq_rf
end
section
/-! THE MODEL: states, laws -/
def B_states (V : Nat → (Nat → Int) → Int) (M : q_M) (s p so wt : Int) : Int := if q_twA M s p ≠ 0 then q_twA M s p else if ¬((0 ≤ so ∧ so ≤ 1) ∧ (0 ≤ wt ∧ wt ≤ 1)) then -7 else if wt = 0 then F_mn (fun k => G_foA V M (q_upd (mW M) (so.toNat + 2) p.toNat k) s.toNat p.toNat) 100 else F_ls (fun k => G_foA V M (q_upd (mW M) (so.toNat + 2) p.toNat k) s.toNat p.toNat) 100
set_option maxHeartbeats 4000000 in
theorem mp_states {V : Nat → (Nat → Int) → Int} {d : Nat} {g : q_G} {M : q_M} {s p so wt : Int} {Q : Option q_V → q_G → q_M → Prop} (C : q_mi V M) (hq : ∀ M2 : q_M, q_mq M M2 → Q (some (qI (B_states V M s p so wt))) g M2) : q_S 1 (d + 9) 184 [qR 6 100, qI s, qI p, qI so, qI wt] g M Q := by
  have n0 := C.1.1.1
  have y9 := C.2.1
  rw [s_X6_states]
  unfold B_states at hq
  by_cases c1 : q_twA M s p = 0
  · rw [if_neg (fun z => z c1)] at hq
    by_cases cs : 0 ≤ so ∧ so ≤ 1
    · by_cases cw : 0 ≤ wt ∧ wt ≤ 1
      · rw [if_neg (fun z => z ⟨cs, cw⟩)] at hq
        obtain ⟨c2, c3⟩ := q_twA_0 c1
        obtain ⟨c4, c5⟩ := q_mwA_0 c2
        obtain ⟨S, rfl⟩ : ∃ S : Nat, s = S := ⟨s.toNat, by omega⟩
        obtain ⟨N, rfl⟩ : ∃ N : Nat, p = N := ⟨p.toNat, by omega⟩
        obtain ⟨R, rfl⟩ : ∃ R : Nat, so = R := ⟨so.toNat, by omega⟩
        simp only [Int.toNat_natCast] at hq c5
        have hz := C.2.2 S (by omega)
        have hN : N < 5 := by omega
        have hR : R < 2 := by omega
        have tn : (3 * (N : Int) + (R : Int)).toNat = 3 * N + R := by omega
        generalize hT : (fun k : Nat => G_foA V M (q_upd (mW M) (R + 2) N k) S N) = T at hq
        have step : ∀ (M1 : q_M) (k : Nat), k ≤ 99 → (∀ a i, (a < 116 ∨ 124 ≤ a) → (a = 100 → i ≠ 36) → (a = 104 → i ≠ 3 * N + R) → M1 a i = M a i) → q_ml V (q_upd M1 104 (3 * N + R) k) ∧ mW (q_upd M1 104 (3 * N + R) k) = q_upd (mW M) (R + 2) N k ∧ q_mq (q_upd M 104 (3 * N + R) k) (q_upd M1 104 (3 * N + R) k) := by
          intro M1 k hk h1
          have h4 : q_mq (q_upd M 104 (3 * N + R) k) (q_upd M1 104 (3 * N + R) k) := by
            intro x i q1 q2
            by_cases k1 : x = 104 ∧ i = 3 * N + R
            · obtain ⟨rfl, rfl⟩ := k1
              rw [q_upd_s, q_upd_s]
            · rw [q_upd_n (by omega), q_upd_n (by omega)]
              exact h1 x i q1 q2 (by omega)
          rcases (show R = 0 ∨ R = 1 by omega) with e | e
          · subst e
            refine ⟨q_mq_ml h4 (q_ml_up C.1 (q_ok2 (by omega)) (by omega) (by omega) (by omega)), ?_, h4⟩
            rw [q_mq_mW h4]
            exact mW_up2 (by omega)
          · subst e
            refine ⟨q_mq_ml h4 (q_ml_up C.1 (q_ok3 (by omega)) (by omega) (by omega) (by omega)), ?_, h4⟩
            rw [q_mq_mW h4]
            exact mW_up3 (by omega)
        have loop : ∀ j k : Nat, k + j = 100 → ∀ (M1 : q_M) (la : q_V), q_isL la = false → (∀ a i, (a < 116 ∨ 124 ≤ a) → (a = 100 → i ≠ 36) → (a = 104 → i ≠ 3 * N + R) → M1 a i = M a i) → q_T 1 (d + 9) qP_X6_states 59 [] [qR 6 100, qI S, qI N, qI R, qI wt, qI (q_twA M S N), qI (M 104 (3 * N + R)), qI (F_mn T k), qI (F_ls T k), qI k, la] [] g M1 Q := by
          intro j
          induction j with
          | zero =>
            intro k hk M1 la hla h1
            have e : k = 100 := by omega
            subst e
            have fin : q_mq M (q_upd M1 104 (3 * N + R) (M 104 (3 * N + R))) := by
              intro x i q1 q2
              by_cases k1 : x = 104 ∧ i = 3 * N + R
              · obtain ⟨rfl, rfl⟩ := k1
                exact q_upd_s
              · rw [q_upd_n (by omega)]
                exact h1 x i q1 q2 (by omega)
            rw [b_X6_states_59]
            rcases (show wt = 0 ∨ wt = 1 by omega) with e | e
            · rw [if_pos e] at hq
              simp (disch := omega) only [b_X6_states_0, x_loadR_0, x_loadS_0, x_loadI_1, x_loadI_2, x_storeI_5, x_loadI_5, y_if_eq_t, y_if_eq_f, b_X6_states_13, x_ret0, b_X6_states_16, x_loadI_3, x_iconst, b_X6_states_25, x_loadI_4, y_if_ne_t, y_if_ne_f, b_X6_states_35, b_X6_states_38, f_6_4, x_imul, x_iadd, y_iald_35, x_storeI_6, x_storeI_7, x_storeI_8, x_storeI_9, x_loadI_9, y_ic_gt_t, y_ic_gt_f, b_X6_states_66, y_iast_35, y_ic_ne_t, y_ic_ne_f, b_X6_states_88, x_goto, b_X6_states_92, b_X6_states_93, x_storeI_10, x_loadI_7, x_loadI_10, b_X6_states_102, b_X6_states_106, b_X6_states_107, b_X6_states_115, x_loadI_8, b_X6_states_121, b_X6_states_126, b_X6_states_128, x_iinc_9, b_X6_states_136, x_loadI_6, b_X6_states_153, b_X6_states_158, b_X6_states_160, q_isL_I, q_isL_R, q_isL_S, true_and, and_true, and_self, List.length_nil, List.length_cons, Nat.zero_add, x_K, x_Kn, Int.reduceToNat, Nat.reduceAdd, Nat.reduceMul, Nat.reduceLeDiff, Nat.reduceLT, Nat.zero_le, Int.reduceAdd, Int.reduceSub, Int.reduceMul, Int.reduceNeg, q_add_e, q_sub_e, q_mul_e, q_neg_e, q_upd_s, q_upd_n, zr_shr0, zr_shr1, zr_shr2, zr_shr3, zr_shr4, zr_and, zr_dyn8, zr_or, zr_shl, q_cpy_n, y_cpy26, tn]
              exact hq _ fin
            · rw [if_neg (by omega)] at hq
              simp (disch := omega) only [b_X6_states_0, x_loadR_0, x_loadS_0, x_loadI_1, x_loadI_2, x_storeI_5, x_loadI_5, y_if_eq_t, y_if_eq_f, b_X6_states_13, x_ret0, b_X6_states_16, x_loadI_3, x_iconst, b_X6_states_25, x_loadI_4, y_if_ne_t, y_if_ne_f, b_X6_states_35, b_X6_states_38, f_6_4, x_imul, x_iadd, y_iald_35, x_storeI_6, x_storeI_7, x_storeI_8, x_storeI_9, x_loadI_9, y_ic_gt_t, y_ic_gt_f, b_X6_states_66, y_iast_35, y_ic_ne_t, y_ic_ne_f, b_X6_states_88, x_goto, b_X6_states_92, b_X6_states_93, x_storeI_10, x_loadI_7, x_loadI_10, b_X6_states_102, b_X6_states_106, b_X6_states_107, b_X6_states_115, x_loadI_8, b_X6_states_121, b_X6_states_126, b_X6_states_128, x_iinc_9, b_X6_states_136, x_loadI_6, b_X6_states_153, b_X6_states_158, b_X6_states_160, q_isL_I, q_isL_R, q_isL_S, true_and, and_true, and_self, List.length_nil, List.length_cons, Nat.zero_add, x_K, x_Kn, Int.reduceToNat, Nat.reduceAdd, Nat.reduceMul, Nat.reduceLeDiff, Nat.reduceLT, Nat.zero_le, Int.reduceAdd, Int.reduceSub, Int.reduceMul, Int.reduceNeg, q_add_e, q_sub_e, q_mul_e, q_neg_e, q_upd_s, q_upd_n, zr_shr0, zr_shr1, zr_shr2, zr_shr3, zr_shr4, zr_and, zr_dyn8, zr_or, zr_shl, q_cpy_n, y_cpy26, tn]
              exact hq _ fin
          | succ j ih =>
            intro k hk M1 la hla h1
            have e0 : M1 100 0 = M 100 0 := h1 100 0 (by omega) (by omega) (by omega)
            have e5 : M1 100 5 = M 100 5 := h1 100 5 (by omega) (by omega) (by omega)
            have ez : M1 111 S = M 111 S := h1 111 S (by omega) (by omega) (by omega)
            have hm := F_mn_le T k
            have ih2 := ih (k + 1) (by omega)
            rw [F_mn, F_ls] at ih2
            obtain ⟨m2, w2, f2⟩ := step M1 k (by omega) h1
            rw [b_X6_states_59]
            simp (disch := omega) only [b_X6_states_0, x_loadR_0, x_loadS_0, x_loadI_1, x_loadI_2, x_storeI_5, x_loadI_5, y_if_eq_t, y_if_eq_f, b_X6_states_13, x_ret0, b_X6_states_16, x_loadI_3, x_iconst, b_X6_states_25, x_loadI_4, y_if_ne_t, y_if_ne_f, b_X6_states_35, b_X6_states_38, f_6_4, x_imul, x_iadd, y_iald_35, x_storeI_6, x_storeI_7, x_storeI_8, x_storeI_9, x_loadI_9, y_ic_gt_t, y_ic_gt_f, b_X6_states_66, y_iast_35, y_ic_ne_t, y_ic_ne_f, b_X6_states_88, x_goto, b_X6_states_92, b_X6_states_93, x_storeI_10, x_loadI_7, x_loadI_10, b_X6_states_102, b_X6_states_106, b_X6_states_107, b_X6_states_115, x_loadI_8, b_X6_states_121, b_X6_states_126, b_X6_states_128, x_iinc_9, b_X6_states_136, x_loadI_6, b_X6_states_153, b_X6_states_158, b_X6_states_160, q_isL_I, q_isL_R, q_isL_S, true_and, and_true, and_self, List.length_nil, List.length_cons, Nat.zero_add, x_K, x_Kn, Int.reduceToNat, Nat.reduceAdd, Nat.reduceMul, Nat.reduceLeDiff, Nat.reduceLT, Nat.zero_le, Int.reduceAdd, Int.reduceSub, Int.reduceMul, Int.reduceNeg, q_add_e, q_sub_e, q_mul_e, q_neg_e, q_upd_s, q_upd_n, zr_shr0, zr_shr1, zr_shr2, zr_shr3, zr_shr4, zr_and, zr_dyn8, zr_or, zr_shl, q_cpy_n, y_cpy26, tn, c_X6_unlike]
            refine mp_unlike m2 (by rw [q_upd_n (by omega)]; omega) (by omega) (by rw [q_upd_n (by omega)]; omega) (by rw [q_upd_n (by omega)]; omega) (fun M3 h3 => ?_)
            have eT : G_foA V (q_upd M1 104 (3 * N + R) k) (mW (q_upd M1 104 (3 * N + R) k)) S N = T k := by
              rw [← hT, w2]
              exact G_foA_mq (fun i => (q_upd_n (by omega)).trans (h1 112 i (by omega) (by omega) (by omega))) ((q_upd_n (by omega)).trans ez)
            rw [eT]
            have f3 : ∀ a i, (a < 116 ∨ 124 ≤ a) → (a = 100 → i ≠ 36) → (a = 104 → i ≠ 3 * N + R) → M3 a i = M a i := fun a i q1 q2 q3 => (h3 a i q1 q2).trans ((f2 a i q1 q2).trans (q_upd_n (by omega)))
            by_cases c : T k = -1
            · rw [if_pos c] at ih2
              by_cases c7 : F_ls T k = -1
              · rw [if_pos ⟨c, c7⟩] at ih2
                simp (disch := omega) only [b_X6_states_0, x_loadR_0, x_loadS_0, x_loadI_1, x_loadI_2, x_storeI_5, x_loadI_5, y_if_eq_t, y_if_eq_f, b_X6_states_13, x_ret0, b_X6_states_16, x_loadI_3, x_iconst, b_X6_states_25, x_loadI_4, y_if_ne_t, y_if_ne_f, b_X6_states_35, b_X6_states_38, f_6_4, x_imul, x_iadd, y_iald_35, x_storeI_6, x_storeI_7, x_storeI_8, x_storeI_9, x_loadI_9, y_ic_gt_t, y_ic_gt_f, b_X6_states_66, y_iast_35, y_ic_ne_t, y_ic_ne_f, b_X6_states_88, x_goto, b_X6_states_92, b_X6_states_93, x_storeI_10, x_loadI_7, x_loadI_10, b_X6_states_102, b_X6_states_106, b_X6_states_107, b_X6_states_115, x_loadI_8, b_X6_states_121, b_X6_states_126, b_X6_states_128, x_iinc_9, b_X6_states_136, x_loadI_6, b_X6_states_153, b_X6_states_158, b_X6_states_160, q_isL_I, q_isL_R, q_isL_S, true_and, and_true, and_self, List.length_nil, List.length_cons, Nat.zero_add, x_K, x_Kn, Int.reduceToNat, Nat.reduceAdd, Nat.reduceMul, Nat.reduceLeDiff, Nat.reduceLT, Nat.zero_le, Int.reduceAdd, Int.reduceSub, Int.reduceMul, Int.reduceNeg, q_add_e, q_sub_e, q_mul_e, q_neg_e, q_upd_s, q_upd_n, zr_shr0, zr_shr1, zr_shr2, zr_shr3, zr_shr4, zr_and, zr_dyn8, zr_or, zr_shl, q_cpy_n, y_cpy26, hla]
                exact ih2 M3 _ rfl f3
              · rw [if_neg (fun z => c7 z.2)] at ih2
                simp (disch := omega) only [b_X6_states_0, x_loadR_0, x_loadS_0, x_loadI_1, x_loadI_2, x_storeI_5, x_loadI_5, y_if_eq_t, y_if_eq_f, b_X6_states_13, x_ret0, b_X6_states_16, x_loadI_3, x_iconst, b_X6_states_25, x_loadI_4, y_if_ne_t, y_if_ne_f, b_X6_states_35, b_X6_states_38, f_6_4, x_imul, x_iadd, y_iald_35, x_storeI_6, x_storeI_7, x_storeI_8, x_storeI_9, x_loadI_9, y_ic_gt_t, y_ic_gt_f, b_X6_states_66, y_iast_35, y_ic_ne_t, y_ic_ne_f, b_X6_states_88, x_goto, b_X6_states_92, b_X6_states_93, x_storeI_10, x_loadI_7, x_loadI_10, b_X6_states_102, b_X6_states_106, b_X6_states_107, b_X6_states_115, x_loadI_8, b_X6_states_121, b_X6_states_126, b_X6_states_128, x_iinc_9, b_X6_states_136, x_loadI_6, b_X6_states_153, b_X6_states_158, b_X6_states_160, q_isL_I, q_isL_R, q_isL_S, true_and, and_true, and_self, List.length_nil, List.length_cons, Nat.zero_add, x_K, x_Kn, Int.reduceToNat, Nat.reduceAdd, Nat.reduceMul, Nat.reduceLeDiff, Nat.reduceLT, Nat.zero_le, Int.reduceAdd, Int.reduceSub, Int.reduceMul, Int.reduceNeg, q_add_e, q_sub_e, q_mul_e, q_neg_e, q_upd_s, q_upd_n, zr_shr0, zr_shr1, zr_shr2, zr_shr3, zr_shr4, zr_and, zr_dyn8, zr_or, zr_shl, q_cpy_n, y_cpy26, hla]
                exact ih2 M3 _ rfl f3
            · rw [if_neg c, if_neg (fun z => c z.1)] at ih2
              simp (disch := omega) only [b_X6_states_0, x_loadR_0, x_loadS_0, x_loadI_1, x_loadI_2, x_storeI_5, x_loadI_5, y_if_eq_t, y_if_eq_f, b_X6_states_13, x_ret0, b_X6_states_16, x_loadI_3, x_iconst, b_X6_states_25, x_loadI_4, y_if_ne_t, y_if_ne_f, b_X6_states_35, b_X6_states_38, f_6_4, x_imul, x_iadd, y_iald_35, x_storeI_6, x_storeI_7, x_storeI_8, x_storeI_9, x_loadI_9, y_ic_gt_t, y_ic_gt_f, b_X6_states_66, y_iast_35, y_ic_ne_t, y_ic_ne_f, b_X6_states_88, x_goto, b_X6_states_92, b_X6_states_93, x_storeI_10, x_loadI_7, x_loadI_10, b_X6_states_102, b_X6_states_106, b_X6_states_107, b_X6_states_115, x_loadI_8, b_X6_states_121, b_X6_states_126, b_X6_states_128, x_iinc_9, b_X6_states_136, x_loadI_6, b_X6_states_153, b_X6_states_158, b_X6_states_160, q_isL_I, q_isL_R, q_isL_S, true_and, and_true, and_self, List.length_nil, List.length_cons, Nat.zero_add, x_K, x_Kn, Int.reduceToNat, Nat.reduceAdd, Nat.reduceMul, Nat.reduceLeDiff, Nat.reduceLT, Nat.zero_le, Int.reduceAdd, Int.reduceSub, Int.reduceMul, Int.reduceNeg, q_add_e, q_sub_e, q_mul_e, q_neg_e, q_upd_s, q_upd_n, zr_shr0, zr_shr1, zr_shr2, zr_shr3, zr_shr4, zr_and, zr_dyn8, zr_or, zr_shl, q_cpy_n, y_cpy26, hla]
              exact ih2 M3 _ rfl f3
        have l := fun la hl => loop 100 0 rfl M la hl (fun _ _ _ _ _ => rfl)
        simp (disch := omega) only [b_X6_states_0, x_loadR_0, x_loadS_0, x_loadI_1, x_loadI_2, x_storeI_5, x_loadI_5, y_if_eq_t, y_if_eq_f, b_X6_states_13, x_ret0, b_X6_states_16, x_loadI_3, x_iconst, b_X6_states_25, x_loadI_4, y_if_ne_t, y_if_ne_f, b_X6_states_35, b_X6_states_38, f_6_4, x_imul, x_iadd, y_iald_35, x_storeI_6, x_storeI_7, x_storeI_8, x_storeI_9, x_loadI_9, y_ic_gt_t, y_ic_gt_f, b_X6_states_66, y_iast_35, y_ic_ne_t, y_ic_ne_f, b_X6_states_88, x_goto, b_X6_states_92, b_X6_states_93, x_storeI_10, x_loadI_7, x_loadI_10, b_X6_states_102, b_X6_states_106, b_X6_states_107, b_X6_states_115, x_loadI_8, b_X6_states_121, b_X6_states_126, b_X6_states_128, x_iinc_9, b_X6_states_136, x_loadI_6, b_X6_states_153, b_X6_states_158, b_X6_states_160, q_isL_I, q_isL_R, q_isL_S, true_and, and_true, and_self, List.length_nil, List.length_cons, Nat.zero_add, x_K, x_Kn, Int.reduceToNat, Nat.reduceAdd, Nat.reduceMul, Nat.reduceLeDiff, Nat.reduceLT, Nat.zero_le, Int.reduceAdd, Int.reduceSub, Int.reduceMul, Int.reduceNeg, q_add_e, q_sub_e, q_mul_e, q_neg_e, q_upd_s, q_upd_n, zr_shr0, zr_shr1, zr_shr2, zr_shr3, zr_shr4, zr_and, zr_dyn8, zr_or, zr_shl, q_cpy_n, y_cpy26, c_X6_toldWrong, mp_toldWrong, c_X6_in, mp_in, cs, cw, and_self, if_true, tn]
        exact l _ rfl
      · rw [if_pos (fun z => cw z.2)] at hq
        simp (disch := omega) only [b_X6_states_0, x_loadR_0, x_loadS_0, x_loadI_1, x_loadI_2, x_storeI_5, x_loadI_5, y_if_eq_t, y_if_eq_f, b_X6_states_13, x_ret0, b_X6_states_16, x_loadI_3, x_iconst, b_X6_states_25, x_loadI_4, y_if_ne_t, y_if_ne_f, b_X6_states_35, b_X6_states_38, f_6_4, x_imul, x_iadd, y_iald_35, x_storeI_6, x_storeI_7, x_storeI_8, x_storeI_9, x_loadI_9, y_ic_gt_t, y_ic_gt_f, b_X6_states_66, y_iast_35, y_ic_ne_t, y_ic_ne_f, b_X6_states_88, x_goto, b_X6_states_92, b_X6_states_93, x_storeI_10, x_loadI_7, x_loadI_10, b_X6_states_102, b_X6_states_106, b_X6_states_107, b_X6_states_115, x_loadI_8, b_X6_states_121, b_X6_states_126, b_X6_states_128, x_iinc_9, b_X6_states_136, x_loadI_6, b_X6_states_153, b_X6_states_158, b_X6_states_160, q_isL_I, q_isL_R, q_isL_S, true_and, and_true, and_self, List.length_nil, List.length_cons, Nat.zero_add, x_K, x_Kn, Int.reduceToNat, Nat.reduceAdd, Nat.reduceMul, Nat.reduceLeDiff, Nat.reduceLT, Nat.zero_le, Int.reduceAdd, Int.reduceSub, Int.reduceMul, Int.reduceNeg, q_add_e, q_sub_e, q_mul_e, q_neg_e, q_upd_s, q_upd_n, zr_shr0, zr_shr1, zr_shr2, zr_shr3, zr_shr4, zr_and, zr_dyn8, zr_or, zr_shl, q_cpy_n, y_cpy26, c_X6_toldWrong, mp_toldWrong, c_X6_in, mp_in, cs, cw, and_self, if_true, if_false]
        exact hq M q_mq_rf
    · rw [if_pos (fun z => cs z.1)] at hq
      simp (disch := omega) only [b_X6_states_0, x_loadR_0, x_loadS_0, x_loadI_1, x_loadI_2, x_storeI_5, x_loadI_5, y_if_eq_t, y_if_eq_f, b_X6_states_13, x_ret0, b_X6_states_16, x_loadI_3, x_iconst, b_X6_states_25, x_loadI_4, y_if_ne_t, y_if_ne_f, b_X6_states_35, b_X6_states_38, f_6_4, x_imul, x_iadd, y_iald_35, x_storeI_6, x_storeI_7, x_storeI_8, x_storeI_9, x_loadI_9, y_ic_gt_t, y_ic_gt_f, b_X6_states_66, y_iast_35, y_ic_ne_t, y_ic_ne_f, b_X6_states_88, x_goto, b_X6_states_92, b_X6_states_93, x_storeI_10, x_loadI_7, x_loadI_10, b_X6_states_102, b_X6_states_106, b_X6_states_107, b_X6_states_115, x_loadI_8, b_X6_states_121, b_X6_states_126, b_X6_states_128, x_iinc_9, b_X6_states_136, x_loadI_6, b_X6_states_153, b_X6_states_158, b_X6_states_160, q_isL_I, q_isL_R, q_isL_S, true_and, and_true, and_self, List.length_nil, List.length_cons, Nat.zero_add, x_K, x_Kn, Int.reduceToNat, Nat.reduceAdd, Nat.reduceMul, Nat.reduceLeDiff, Nat.reduceLT, Nat.zero_le, Int.reduceAdd, Int.reduceSub, Int.reduceMul, Int.reduceNeg, q_add_e, q_sub_e, q_mul_e, q_neg_e, q_upd_s, q_upd_n, zr_shr0, zr_shr1, zr_shr2, zr_shr3, zr_shr4, zr_and, zr_dyn8, zr_or, zr_shl, q_cpy_n, y_cpy26, c_X6_toldWrong, mp_toldWrong, c_X6_in, mp_in, cs, if_false]
      exact hq M q_mq_rf
  · rw [if_pos c1] at hq
    simp (disch := omega) only [b_X6_states_0, x_loadR_0, x_loadS_0, x_loadI_1, x_loadI_2, x_storeI_5, x_loadI_5, y_if_eq_t, y_if_eq_f, b_X6_states_13, x_ret0, b_X6_states_16, x_loadI_3, x_iconst, b_X6_states_25, x_loadI_4, y_if_ne_t, y_if_ne_f, b_X6_states_35, b_X6_states_38, f_6_4, x_imul, x_iadd, y_iald_35, x_storeI_6, x_storeI_7, x_storeI_8, x_storeI_9, x_loadI_9, y_ic_gt_t, y_ic_gt_f, b_X6_states_66, y_iast_35, y_ic_ne_t, y_ic_ne_f, b_X6_states_88, x_goto, b_X6_states_92, b_X6_states_93, x_storeI_10, x_loadI_7, x_loadI_10, b_X6_states_102, b_X6_states_106, b_X6_states_107, b_X6_states_115, x_loadI_8, b_X6_states_121, b_X6_states_126, b_X6_states_128, x_iinc_9, b_X6_states_136, x_loadI_6, b_X6_states_153, b_X6_states_158, b_X6_states_160, q_isL_I, q_isL_R, q_isL_S, true_and, and_true, and_self, List.length_nil, List.length_cons, Nat.zero_add, x_K, x_Kn, Int.reduceToNat, Nat.reduceAdd, Nat.reduceMul, Nat.reduceLeDiff, Nat.reduceLT, Nat.zero_le, Int.reduceAdd, Int.reduceSub, Int.reduceMul, Int.reduceNeg, q_add_e, q_sub_e, q_mul_e, q_neg_e, q_upd_s, q_upd_n, zr_shr0, zr_shr1, zr_shr2, zr_shr3, zr_shr4, zr_and, zr_dyn8, zr_or, zr_shl, q_cpy_n, y_cpy26, c_X6_toldWrong, mp_toldWrong]
    exact hq M q_mq_rf
/-- a text r of the model says V -/
def q_lawT (V : Nat → (Nat → Int) → Int) (r : Nat) (M : q_M) : Prop := ∀ M' : q_M, (∀ a i, ((a = 106 ∧ 200 * r ≤ i ∧ i < 200 * r + 200) ∨ (a = 107 ∧ 4 * r ≤ i ∧ i < 4 * r + 4)) → M' a i = M a i) → M' 100 11 = r → ∀ (d : Nat) (g : q_G) (Q : Option q_V → q_G → q_M → Prop) (part : Nat), part < 3 → (∀ M2 : q_M, (∀ a i, a ≠ 116 → M2 a i = M' a i) → Q (some (qI (V part (M' 117)))) g M2) → q_S 1 (d + 1) 135 [qR 6 100, qI part] g M' Q
def q_mtx (Vt : Nat → Nat → (Nat → Int) → Int) (tm : Nat) (M : q_M) : Prop := 1 ≤ tm ∧ tm ≤ 6 ∧ M 100 10 = tm ∧ ∀ t, t < tm → q_lawV (Vt t) ∧ q_lawT (Vt t) t M
theorem q_mtx_mq {Vt : Nat → Nat → (Nat → Int) → Int} {tm : Nat} {M M2 : q_M} (h : ∀ a i, (a = 106 ∨ a = 107 ∨ (a = 100 ∧ i = 10)) → M2 a i = M a i) (T : q_mtx Vt tm M) : q_mtx Vt tm M2 := by
  obtain ⟨h1, h2, h3, h4⟩ := T
  exact ⟨h1, h2, (h 100 10 (by omega)).trans h3, fun t ht => ⟨(h4 t ht).1, fun M' q1 q2 => (h4 t ht).2 M' (fun a i ha => (q1 a i ha).trans (h a i (by omega))) q2⟩⟩
theorem q_ml_rule {V : Nat → (Nat → Int) → Int} {r : Nat} {M : q_M} (hb : q_mb M) (hV : q_lawV V) (hT : q_lawT V r M) (hr : M 100 11 = r) : q_ml V M := ⟨hb, hV, fun M' h1 h2 => hT M' (fun a i ha => h1 a i (by omega)) (h2.trans hr)⟩
theorem q_okr {v : Int} {i : Nat} (h : i ≠ 0) (h5 : i ≠ 5) : q_okv 100 i v := ⟨q_okE (by decide), q_okE (by decide), q_okE (by decide), q_okE (by decide), fun _ z => absurd z h5, q_okE (by decide), q_okE (by decide), fun _ => h⟩
def B_laws (Vt : Nat → Nat → (Nat → Int) → Int) (tm : Nat) (M : q_M) (s p : Int) : Int := if q_twA M s p ≠ 0 then q_twA M s p else G_set (fun t => G_foA (Vt t) M (mW M) s.toNat p.toNat) tm
set_option maxHeartbeats 4000000 in
theorem mp_laws {V : Nat → (Nat → Int) → Int} {Vt : Nat → Nat → (Nat → Int) → Int} {d tm : Nat} {g : q_G} {M : q_M} {s p : Int} {Q : Option q_V → q_G → q_M → Prop} (C : q_mi V M) (X : q_mtx Vt tm M) (hq : ∀ M2 : q_M, q_mq M M2 → Q (some (qI (B_laws Vt tm M s p))) g M2) : q_S 1 (d + 9) 186 [qR 6 100, qI s, qI p] g M Q := by
  have n0 := C.1.1.1
  have y9 := C.2.1
  obtain ⟨t1, t6, etm, htx⟩ := X
  rw [s_X6_laws]
  unfold B_laws at hq
  by_cases c1 : q_twA M s p = 0
  · rw [if_neg (fun z => z c1)] at hq
    obtain ⟨c2, c3⟩ := q_twA_0 c1
    obtain ⟨c4, c5⟩ := q_mwA_0 c2
    obtain ⟨S, rfl⟩ : ∃ S : Nat, s = S := ⟨s.toNat, by omega⟩
    obtain ⟨N, rfl⟩ : ∃ N : Nat, p = N := ⟨p.toNat, by omega⟩
    simp only [Int.toNat_natCast] at hq c5
    have hz := C.2.2 S (by omega)
    have hN : N < 5 := by omega
    generalize hT : (fun t : Nat => G_foA (Vt t) M (mW M) S N) = T at hq
    have loop : ∀ j k : Nat, k + j = tm → ∀ M1 : q_M, (∀ a i, (a < 116 ∨ 124 ≤ a) → (a = 100 → i ≠ 36 ∧ i ≠ 11) → M1 a i = M a i) → q_T 1 (d + 9) qP_X6_laws 25 [] [qR 6 100, qI S, qI N, qI (q_twA M S N), qI (M 100 11), qI (G_set T k), qI k] [] g M1 Q := by
      intro j
      induction j with
      | zero =>
        intro k hk M1 h1
        have e1 : M1 100 10 = tm := (h1 100 10 (by omega) (by omega)).trans etm
        have e : k = tm := by omega
        rw [← e] at hq
        have fin : q_mq M (q_upd M1 100 11 (M 100 11)) := by
          intro x i q1 q2
          by_cases k1 : x = 100 ∧ i = 11
          · obtain ⟨rfl, rfl⟩ := k1
            exact q_upd_s
          · rw [q_upd_n (by omega)]
            exact h1 x i q1 (by omega)
        rw [b_X6_laws_25]
        simp (disch := omega) only [b_X6_laws_0, x_loadR_0, x_loadS_0, x_loadI_1, x_loadI_2, x_storeI_3, x_loadI_3, y_if_eq_t, y_if_eq_f, b_X6_laws_11, x_ret0, b_X6_laws_13, f_6_11, x_storeI_4, x_iconst, x_storeI_5, x_storeI_6, x_loadI_6, f_6_10, y_ic_ge_t, y_ic_ge_f, b_X6_laws_34, p_6_11, x_loadI_5, y_ic_ne_t, y_ic_ne_f, b_X6_laws_52, x_ishl, x_goto, b_X6_laws_59, b_X6_laws_60, x_ior, x_iinc_6, b_X6_laws_69, x_loadI_4, q_isL_I, q_isL_R, q_isL_S, true_and, and_true, and_self, List.length_nil, List.length_cons, Nat.zero_add, x_K, x_Kn, Int.reduceToNat, Nat.reduceAdd, Nat.reduceMul, Nat.reduceLeDiff, Nat.reduceLT, Nat.zero_le, Int.reduceAdd, Int.reduceSub, Int.reduceMul, Int.reduceNeg, q_add_e, q_sub_e, q_mul_e, q_neg_e, q_upd_s, q_upd_n, zr_shr0, zr_shr1, zr_shr2, zr_shr3, zr_shr4, zr_and, zr_dyn8, zr_or, zr_shl, q_cpy_n, y_cpy26]
        exact hq _ fin
      | succ j ih =>
        intro k hk M1 h1
        have e1 : M1 100 10 = tm := (h1 100 10 (by omega) (by omega)).trans etm
        have e0 : M1 100 0 = M 100 0 := h1 100 0 (by omega) (by omega)
        have e5 : M1 100 5 = M 100 5 := h1 100 5 (by omega) (by omega)
        have ez : M1 111 S = M 111 S := h1 111 S (by omega) (by omega)
        have ih2 := ih (k + 1) (by omega)
        rw [G_set] at ih2
        have hx := htx k (by omega)
        have hb : q_mb M1 := q_mb_same (fun a i ha => h1 a i (by omega) (by omega)) C.1.1
        have m2 : q_ml (Vt k) (q_upd M1 100 11 k) := q_ml_rule (q_mb_up hb (q_okr (by decide) (by decide))) hx.1 (fun M' q1 q2 => hx.2 M' (fun a i ha => (q1 a i ha).trans ((q_upd_n (by omega)).trans (h1 a i (by omega) (by omega)))) q2) q_upd_s
        have w2 : mW (q_upd M1 100 11 k) = mW M := mW_same (fun a i ha => (q_upd_n (by omega)).trans (h1 a i (by omega) (by omega)))
        rw [b_X6_laws_25]
        simp (disch := omega) only [b_X6_laws_0, x_loadR_0, x_loadS_0, x_loadI_1, x_loadI_2, x_storeI_3, x_loadI_3, y_if_eq_t, y_if_eq_f, b_X6_laws_11, x_ret0, b_X6_laws_13, f_6_11, x_storeI_4, x_iconst, x_storeI_5, x_storeI_6, x_loadI_6, f_6_10, y_ic_ge_t, y_ic_ge_f, b_X6_laws_34, p_6_11, x_loadI_5, y_ic_ne_t, y_ic_ne_f, b_X6_laws_52, x_ishl, x_goto, b_X6_laws_59, b_X6_laws_60, x_ior, x_iinc_6, b_X6_laws_69, x_loadI_4, q_isL_I, q_isL_R, q_isL_S, true_and, and_true, and_self, List.length_nil, List.length_cons, Nat.zero_add, x_K, x_Kn, Int.reduceToNat, Nat.reduceAdd, Nat.reduceMul, Nat.reduceLeDiff, Nat.reduceLT, Nat.zero_le, Int.reduceAdd, Int.reduceSub, Int.reduceMul, Int.reduceNeg, q_add_e, q_sub_e, q_mul_e, q_neg_e, q_upd_s, q_upd_n, zr_shr0, zr_shr1, zr_shr2, zr_shr3, zr_shr4, zr_and, zr_dyn8, zr_or, zr_shl, q_cpy_n, y_cpy26, c_X6_unlike]
        refine mp_unlike m2 (by rw [q_upd_n (by omega)]; omega) (by omega) (by rw [q_upd_n (by omega)]; omega) (by rw [q_upd_n (by omega)]; omega) (fun M3 h3 => ?_)
        have eT : G_foA (Vt k) (q_upd M1 100 11 k) (mW (q_upd M1 100 11 k)) S N = T k := by
          rw [← hT, w2]
          exact G_foA_mq (fun i => (q_upd_n (by omega)).trans (h1 112 i (by omega) (by omega))) ((q_upd_n (by omega)).trans ez)
        rw [eT]
        have f3 : ∀ a i, (a < 116 ∨ 124 ≤ a) → (a = 100 → i ≠ 36 ∧ i ≠ 11) → M3 a i = M a i := fun a i q1 q2 => (h3 a i q1 (by omega)).trans ((q_upd_n (by omega)).trans (h1 a i q1 q2))
        by_cases c : T k = -1
        · rw [if_pos c] at ih2
          simp (disch := omega) only [b_X6_laws_0, x_loadR_0, x_loadS_0, x_loadI_1, x_loadI_2, x_storeI_3, x_loadI_3, y_if_eq_t, y_if_eq_f, b_X6_laws_11, x_ret0, b_X6_laws_13, f_6_11, x_storeI_4, x_iconst, x_storeI_5, x_storeI_6, x_loadI_6, f_6_10, y_ic_ge_t, y_ic_ge_f, b_X6_laws_34, p_6_11, x_loadI_5, y_ic_ne_t, y_ic_ne_f, b_X6_laws_52, x_ishl, x_goto, b_X6_laws_59, b_X6_laws_60, x_ior, x_iinc_6, b_X6_laws_69, x_loadI_4, q_isL_I, q_isL_R, q_isL_S, true_and, and_true, and_self, List.length_nil, List.length_cons, Nat.zero_add, x_K, x_Kn, Int.reduceToNat, Nat.reduceAdd, Nat.reduceMul, Nat.reduceLeDiff, Nat.reduceLT, Nat.zero_le, Int.reduceAdd, Int.reduceSub, Int.reduceMul, Int.reduceNeg, q_add_e, q_sub_e, q_mul_e, q_neg_e, q_upd_s, q_upd_n, zr_shr0, zr_shr1, zr_shr2, zr_shr3, zr_shr4, zr_and, zr_dyn8, zr_or, zr_shl, q_cpy_n, y_cpy26]
          exact ih2 M3 f3
        · rw [if_neg c] at ih2
          simp (disch := omega) only [b_X6_laws_0, x_loadR_0, x_loadS_0, x_loadI_1, x_loadI_2, x_storeI_3, x_loadI_3, y_if_eq_t, y_if_eq_f, b_X6_laws_11, x_ret0, b_X6_laws_13, f_6_11, x_storeI_4, x_iconst, x_storeI_5, x_storeI_6, x_loadI_6, f_6_10, y_ic_ge_t, y_ic_ge_f, b_X6_laws_34, p_6_11, x_loadI_5, y_ic_ne_t, y_ic_ne_f, b_X6_laws_52, x_ishl, x_goto, b_X6_laws_59, b_X6_laws_60, x_ior, x_iinc_6, b_X6_laws_69, x_loadI_4, q_isL_I, q_isL_R, q_isL_S, true_and, and_true, and_self, List.length_nil, List.length_cons, Nat.zero_add, x_K, x_Kn, Int.reduceToNat, Nat.reduceAdd, Nat.reduceMul, Nat.reduceLeDiff, Nat.reduceLT, Nat.zero_le, Int.reduceAdd, Int.reduceSub, Int.reduceMul, Int.reduceNeg, q_add_e, q_sub_e, q_mul_e, q_neg_e, q_upd_s, q_upd_n, zr_shr0, zr_shr1, zr_shr2, zr_shr3, zr_shr4, zr_and, zr_dyn8, zr_or, zr_shl, q_cpy_n, y_cpy26]
          exact ih2 M3 f3
    have l := loop tm 0 (by omega) M (fun _ _ _ _ => rfl)
    simp (disch := omega) only [b_X6_laws_0, x_loadR_0, x_loadS_0, x_loadI_1, x_loadI_2, x_storeI_3, x_loadI_3, y_if_eq_t, y_if_eq_f, b_X6_laws_11, x_ret0, b_X6_laws_13, f_6_11, x_storeI_4, x_iconst, x_storeI_5, x_storeI_6, x_loadI_6, f_6_10, y_ic_ge_t, y_ic_ge_f, b_X6_laws_34, p_6_11, x_loadI_5, y_ic_ne_t, y_ic_ne_f, b_X6_laws_52, x_ishl, x_goto, b_X6_laws_59, b_X6_laws_60, x_ior, x_iinc_6, b_X6_laws_69, x_loadI_4, q_isL_I, q_isL_R, q_isL_S, true_and, and_true, and_self, List.length_nil, List.length_cons, Nat.zero_add, x_K, x_Kn, Int.reduceToNat, Nat.reduceAdd, Nat.reduceMul, Nat.reduceLeDiff, Nat.reduceLT, Nat.zero_le, Int.reduceAdd, Int.reduceSub, Int.reduceMul, Int.reduceNeg, q_add_e, q_sub_e, q_mul_e, q_neg_e, q_upd_s, q_upd_n, zr_shr0, zr_shr1, zr_shr2, zr_shr3, zr_shr4, zr_and, zr_dyn8, zr_or, zr_shl, q_cpy_n, y_cpy26, c_X6_toldWrong, mp_toldWrong]
    exact l
  · rw [if_pos c1] at hq
    simp (disch := omega) only [b_X6_laws_0, x_loadR_0, x_loadS_0, x_loadI_1, x_loadI_2, x_storeI_3, x_loadI_3, y_if_eq_t, y_if_eq_f, b_X6_laws_11, x_ret0, b_X6_laws_13, f_6_11, x_storeI_4, x_iconst, x_storeI_5, x_storeI_6, x_loadI_6, f_6_10, y_ic_ge_t, y_ic_ge_f, b_X6_laws_34, p_6_11, x_loadI_5, y_ic_ne_t, y_ic_ne_f, b_X6_laws_52, x_ishl, x_goto, b_X6_laws_59, b_X6_laws_60, x_ior, x_iinc_6, b_X6_laws_69, x_loadI_4, q_isL_I, q_isL_R, q_isL_S, true_and, and_true, and_self, List.length_nil, List.length_cons, Nat.zero_add, x_K, x_Kn, Int.reduceToNat, Nat.reduceAdd, Nat.reduceMul, Nat.reduceLeDiff, Nat.reduceLT, Nat.zero_le, Int.reduceAdd, Int.reduceSub, Int.reduceMul, Int.reduceNeg, q_add_e, q_sub_e, q_mul_e, q_neg_e, q_upd_s, q_upd_n, zr_shr0, zr_shr1, zr_shr2, zr_shr3, zr_shr4, zr_and, zr_dyn8, zr_or, zr_shl, q_cpy_n, y_cpy26, c_X6_toldWrong, mp_toldWrong]
    exact hq M q_mq_rf
end
