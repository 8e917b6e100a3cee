/-! THE MODEL: run, when -/
def G_ys (V : Nat → (Nat → Int) → Int) (S : q_M) : Nat → q_M
  | 0 => S
  | n + 1 => (G_year V (G_ys V S n)).2
theorem G_year_y {V : Nat → (Nat → Int) → Int} {M M2 : q_M} (h : mW M2 = (G_year V (mW M)).2) : M2 100 5 = M 100 5 + 1 := by
  rw [← mW_91 (M := M2), h]
  show q_upd (G_yr V (mW M) (F_n (mW M))).2 9 1 (mW M 9 1 + 1) 9 1 = M 100 5 + 1
  rw [q_upd_s, mW_91]
theorem q_mt_ml {V : Nat → (Nat → Int) → Int} {M M2 : q_M} (h : q_mq M M2) (hm : q_ml V M) : q_ml V M2 := q_mq_ml h hm
theorem mp_keepT {V : Nat → (Nat → Int) → Int} {d dd : Nat} {g : q_G} {M M1 : q_M} {P : q_P} {nx : Nat} {ops : List Instr} {ls st : List q_V} {Q : Option q_V → q_G → q_M → Prop} (hm : q_ml V M) (h0 : q_mq M M1) (h : ∀ M2 : q_M, q_ml V M2 → mW M2 = mW M → q_mt M M2 → q_T 1 dd P nx ops ls st g M2 Q) : q_S 1 d 154 [qR 6 100] g M1 (q_K 1 dd P nx ops ls st Q) :=
  mp_keeps h0 (fun M2 h1 h2 => h M2 (q_mq_ml (q_mq_tr h0 h2) hm) (q_mq_mW (q_mq_tr h0 h2)) h1)
theorem mp_layT {d dd : Nat} {g : q_G} {M M1 : q_M} {P : q_P} {nx : Nat} {ops : List Instr} {ls st : List q_V} {Q : Option q_V → q_G → q_M → Prop} (ht : q_mt M M1) (h : ∀ M2 : q_M, q_mq M M2 → M2 100 36 = M1 100 36 → q_T 1 dd P nx ops ls st g M2 Q) : q_S 1 d 155 [qR 6 100] g M1 (q_K 1 dd P nx ops ls st Q) := mp_lays ht (fun M2 h1 h2 _ => h M2 h1 h2)
theorem mp_layT2 {d dd : Nat} {g : q_G} {M M1 : q_M} {P : q_P} {nx : Nat} {ops : List Instr} {ls st : List q_V} {Q : Option q_V → q_G → q_M → Prop} (ht : q_mt M M1) (h : ∀ M2 : q_M, q_mq M M2 → q_mt M M2 → q_T 1 dd P nx ops ls st g M2 Q) : q_S 1 d 155 [qR 6 100] g M1 (q_K 1 dd P nx ops ls st Q) := mp_lays ht (fun M2 h1 _ h3 => h M2 h1 ⟨⟨fun i hi => (h3 i).trans (ht.1.1 i hi), fun i hi => (h3 _).trans (ht.1.2.1 i hi), (h3 35).trans ht.1.2.2⟩, fun a i q1 _ _ q4 => h1 a i q1 (fun e => (q4 e).2)⟩)
theorem q_mt_up {M M2 : q_M} {a i : Nat} {v : Int} (h : q_mt M M2) (ha : (a = 104 ∧ i < 15) ∨ (a = 103 ∧ i < 20)) : q_mt M (q_upd M2 a i v) := by
  obtain ⟨⟨k1, k2, k3⟩, h3⟩ := h
  refine ⟨⟨fun i hi => (q_upd_n (by omega)).trans (k1 i hi), fun i hi => (q_upd_n (by omega)).trans (k2 i hi), (q_upd_n (by omega)).trans k3⟩, fun x j q1 q2 q3 q4 => (q_upd_n (by omega)).trans (h3 x j q1 q2 q3 q4)⟩
theorem mp_yearT {V : Nat → (Nat → Int) → Int} {d dd : Nat} {g : q_G} {M M1 : q_M} {P : q_P} {nx : Nat} {ops : List Instr} {ls st : List q_V} {Q : Option q_V → q_G → q_M → Prop} (hm : q_ml V M1) (hy : M1 100 5 < 2000) (ht : q_mt M M1) (h : ∀ M2 : q_M, q_ml V M2 → mW M2 = (G_year V (mW M1)).2 → M2 100 5 = M1 100 5 + 1 → M2 100 0 = M1 100 0 → q_mt M M2 → q_T 1 dd P nx ops ls (qI (G_year V (mW M1)).1 :: st) g M2 Q) : q_S 1 (d + 7) 151 [qR 6 100] g M1 (q_K 1 dd P nx ops ls st Q) :=
  mp_year hm hy (fun M2 h1 h2 h3 => h M2 h1 h2 (G_year_y h2) (h3 100 0 (by omega) (by omega) (by omega) (by omega) (by omega)) (q_mt_mz ht h3))
theorem mp_digits {d : Nat} {g : q_G} {M : q_M} (h0 : 0 ≤ M 100 0) (h5 : M 100 0 ≤ 5) (hin : ∀ i, i < 5 → -1 ≤ M 104 (3 * i + 2) ∧ M 104 (3 * i + 2) ≤ 4) (Q : Option q_V → q_G → q_M → Prop) : q_S 1 d 153 [qR 6 100] g M Q = Q (some (qI (F_dig (mIn M) (M 100 0).toNat))) g M := by
  refine q_S_eq (fun Q hq => ?_) Q
  have hf : ∀ i, 0 ≤ (fun i => if i < 5 then mIn M i else 0) i ∧ (fun i => if i < 5 then mIn M i else 0) i ≤ 5 := by
    intro i
    show 0 ≤ (if i < 5 then mIn M i else 0) ∧ (if i < 5 then mIn M i else 0) ≤ 5
    by_cases c : i < 5
    · have := hin i c
      rw [if_pos c]
      unfold mIn
      split <;> omega
    · rw [if_neg c]
      omega
  rw [s_X6_digitsNow]
  have loop : ∀ j k : Nat, k + j = (M 100 0).toNat → q_T 1 d qP_X6_digitsNow 4 [] [qR 6 100, qI (F_dig (mIn M) k), qI k] [] g M Q := by
    intro j
    induction j with
    | zero =>
      intro k hk
      have e : k = (M 100 0).toNat := by omega
      rw [← e] at hq
      rw [b_X6_digitsNow_4]
      simp (disch := omega) only [b_X6_digitsNow_0, x_iconst, x_storeI_1, x_storeI_2, x_loadI_2, x_loadR_0, x_loadS_0, f_6_0, y_ic_ge_t, y_ic_ge_f, b_X6_digitsNow_12, x_loadI_1, x_imul, f_6_4, x_iadd, y_iald_35, x_iinc_2, x_goto, b_X6_digitsNow_36, x_ret0, q_isL_I, q_isL_R, q_isL_S, true_and, and_true, and_self, List.length_nil, List.length_cons, Nat.zero_add, x_K, x_Kn, Int.reduceToNat, Nat.reduceAdd, Nat.reduceMul, Nat.reduceLeDiff, Nat.reduceLT, Nat.zero_le, Int.reduceAdd, Int.reduceSub, Int.reduceMul, Int.reduceNeg, q_add_e, q_sub_e, q_mul_e, q_neg_e, q_upd_s, q_upd_n, zr_shr0, zr_shr1, zr_shr2, zr_shr3, zr_shr4, zr_and, zr_dyn8, zr_or, zr_shl, q_cpy_n, y_cpy26]
      exact hq
    | succ j ih =>
      intro k hk
      have hi := hin k (by omega)
      have hd := F_dig_le _ hf k (by omega)
      rw [← F_dig_cong (f := mIn M) k (fun i hi => (if_pos (by omega)).symm)] at hd
      have ih2 := ih (k + 1) (by omega)
      rw [F_dig] at ih2
      have e : (if mIn M k = 5 then 0 else mIn M k + 1) = M 104 (3 * k + 2) + 1 := by
        unfold mIn
        by_cases c : M 104 (3 * k + 2) = -1
        · rw [if_pos c, if_pos rfl, c]
          rfl
        · rw [if_neg c, if_neg (by omega)]
      have e2 : 10 * F_dig (mIn M) k + (M 104 (3 * k + 2) + 1) = 10 * F_dig (mIn M) k + M 104 (3 * k + 2) + 1 := by omega
      rw [e, e2] at ih2
      rw [b_X6_digitsNow_4]
      simp (disch := omega) only [b_X6_digitsNow_0, x_iconst, x_storeI_1, x_storeI_2, x_loadI_2, x_loadR_0, x_loadS_0, f_6_0, y_ic_ge_t, y_ic_ge_f, b_X6_digitsNow_12, x_loadI_1, x_imul, f_6_4, x_iadd, y_iald_35, x_iinc_2, x_goto, b_X6_digitsNow_36, x_ret0, q_isL_I, q_isL_R, q_isL_S, true_and, and_true, and_self, List.length_nil, List.length_cons, Nat.zero_add, x_K, x_Kn, Int.reduceToNat, Nat.reduceAdd, Nat.reduceMul, Nat.reduceLeDiff, Nat.reduceLT, Nat.zero_le, Int.reduceAdd, Int.reduceSub, Int.reduceMul, Int.reduceNeg, q_add_e, q_sub_e, q_mul_e, q_neg_e, q_upd_s, q_upd_n, zr_shr0, zr_shr1, zr_shr2, zr_shr3, zr_shr4, zr_and, zr_dyn8, zr_or, zr_shl, q_cpy_n, y_cpy26, tn_32]
      exact ih2
  simp (disch := omega) only [b_X6_digitsNow_0, x_iconst, x_storeI_1, x_storeI_2, x_loadI_2, x_loadR_0, x_loadS_0, f_6_0, y_ic_ge_t, y_ic_ge_f, b_X6_digitsNow_12, x_loadI_1, x_imul, f_6_4, x_iadd, y_iald_35, x_iinc_2, x_goto, b_X6_digitsNow_36, x_ret0, q_isL_I, q_isL_R, q_isL_S, true_and, and_true, and_self, List.length_nil, List.length_cons, Nat.zero_add, x_K, x_Kn, Int.reduceToNat, Nat.reduceAdd, Nat.reduceMul, Nat.reduceLeDiff, Nat.reduceLT, Nat.zero_le, Int.reduceAdd, Int.reduceSub, Int.reduceMul, Int.reduceNeg, q_add_e, q_sub_e, q_mul_e, q_neg_e, q_upd_s, q_upd_n, zr_shr0, zr_shr1, zr_shr2, zr_shr3, zr_shr4, zr_and, zr_dyn8, zr_or, zr_shl, q_cpy_n, y_cpy26]
  exact loop (M 100 0).toNat 0 (by omega)
/-- what questions ask of the model -/
def q_mi (V : Nat → (Nat → Int) → Int) (M : q_M) : Prop := q_ml V M ∧ M 100 5 ≤ 999 ∧ (∀ s, s < 4 → 0 ≤ M 111 s ∧ M 111 s ≤ 40)
theorem q_mi_mq {V : Nat → (Nat → Int) → Int} {M M2 : q_M} (h : q_mq M M2) (C : q_mi V M) : q_mi V M2 := ⟨q_mq_ml h C.1, by rw [h 100 5 (by omega) (by omega)]; exact C.2.1, fun s hs => by rw [h 111 s (by omega) (by omega)]; exact C.2.2 s hs⟩
def B_rnA (S : q_M) (wt : Int) : Int := if wt = 0 then F_dig (S 4) (F_n S) else if wt = 1 then F_cnt (S 4) 5 (F_n S) else S 2 (wt - 10).toNat
def B_run (V : Nat → (Nat → Int) → Int) (S : q_M) (n wt : Int) : Int := if ¬(0 ≤ n ∧ n ≤ 40) ∨ (¬(0 ≤ wt ∧ wt ≤ 1) ∧ ¬(10 ≤ wt ∧ wt ≤ 9 + S 9 0)) then -2 else B_rnA (G_ys V S n.toNat) wt
set_option maxHeartbeats 4000000 in
theorem mp_run {V : Nat → (Nat → Int) → Int} {d : Nat} {g : q_G} {M : q_M} {n wt : Int} {Q : Option q_V → q_G → q_M → Prop} (C : q_mi V M) (hq : ∀ M2 : q_M, q_mq M M2 → Q (some (qI (B_run V (mW M) n wt))) g M2) : q_S 1 (d + 8) 156 [qR 6 100, qI n, qI wt] g M Q := by
  have n0 := C.1.1.1
  have y0 := C.1.1.2.1
  have y9 := C.2.1
  rw [s_X6_run]
  unfold B_run at hq
  rw [mW_90] at hq
  by_cases c1 : 0 ≤ n ∧ n ≤ 40
  · by_cases c2 : ¬(0 ≤ wt ∧ wt ≤ 1) ∧ ¬(10 ≤ wt ∧ wt ≤ 9 + M 100 0)
    · rw [if_pos (Or.inr c2)] at hq
      simp (disch := omega) only [b_X6_run_0, x_loadI_1, x_iconst, y_if_eq_t, y_if_eq_f, b_X6_run_10, x_loadI_2, y_if_ne_t, y_if_ne_f, b_X6_run_19, x_loadR_0, x_loadS_0, f_6_0, x_iadd, b_X6_run_35, x_ret0, b_X6_run_38, x_storeI_3, x_loadI_3, y_ic_ge_t, y_ic_ge_f, b_X6_run_49, x_popI, x_popR, x_iinc_3, x_goto, b_X6_run_60, b_X6_run_67, b_X6_run_71, b_X6_run_78, b_X6_run_82, b_X6_run_86, f_6_4, x_isub, x_imul, y_iald_35, b_X6_run_98, q_isL_I, q_isL_R, q_isL_S, true_and, and_true, and_self, List.length_nil, List.length_cons, Nat.zero_add, x_K, x_Kn, Int.reduceToNat, Nat.reduceAdd, Nat.reduceMul, Nat.reduceLeDiff, Nat.reduceLT, Nat.zero_le, Int.reduceAdd, Int.reduceSub, Int.reduceMul, Int.reduceNeg, q_add_e, q_sub_e, q_mul_e, q_neg_e, q_upd_s, q_upd_n, zr_shr0, zr_shr1, zr_shr2, zr_shr3, zr_shr4, zr_and, zr_dyn8, zr_or, zr_shl, q_cpy_n, y_cpy26, c_X6_in, mp_in, c1, and_self, if_true, c2.1, c2.2, if_false]
      exact hq M q_mq_rf
    · rw [if_neg (fun z => z.elim (fun z => z c1) c2)] at hq
      obtain ⟨N, rfl⟩ : ∃ N : Nat, n = N := ⟨n.toNat, by omega⟩
      rw [Int.toNat_natCast] at hq
      have loop : ∀ j k : Nat, k + j = N → ∀ M1 : q_M, q_ml V M1 → mW M1 = G_ys V (mW M) k → M1 100 5 + j ≤ 1500 → M1 100 0 = M 100 0 → q_mt M M1 → q_T 1 (d + 8) qP_X6_run 44 [] [qR 6 100, qI N, qI wt, qI k] [] g M1 Q := by
        intro j
        induction j with
        | zero =>
          intro k hk M1 m1 w1 y1 e0 t1
          have e : k = N := by omega
          subst e
          rw [b_X6_run_44]
          unfold B_rnA at hq
          rw [← w1, show F_n (mW M1) = (M1 100 0).toNat from rfl] at hq
          have lay : ∀ (v : Int) (l : List q_V), (∀ M2 : q_M, q_mq M M2 → Q (some (qI v)) g M2) → q_S 1 (d + 7) 155 [qR 6 100] g M1 (q_K 1 (d + 8) qP_X6_run 104 [.iload 3, .ret 0] [qR 6 100, qI k, qI wt, qI v] [] Q) := by
            intro v l h
            refine mp_layT t1 (fun M2 h1 h2 => ?_)
            simp (disch := omega) only [b_X6_run_0, x_loadI_1, x_iconst, y_if_eq_t, y_if_eq_f, b_X6_run_10, x_loadI_2, y_if_ne_t, y_if_ne_f, b_X6_run_19, x_loadR_0, x_loadS_0, f_6_0, x_iadd, b_X6_run_35, x_ret0, b_X6_run_38, x_storeI_3, x_loadI_3, y_ic_ge_t, y_ic_ge_f, b_X6_run_49, x_popI, x_popR, x_iinc_3, x_goto, b_X6_run_60, b_X6_run_67, b_X6_run_71, b_X6_run_78, b_X6_run_82, b_X6_run_86, f_6_4, x_isub, x_imul, y_iald_35, b_X6_run_98, q_isL_I, q_isL_R, q_isL_S, true_and, and_true, and_self, List.length_nil, List.length_cons, Nat.zero_add, x_K, x_Kn, Int.reduceToNat, Nat.reduceAdd, Nat.reduceMul, Nat.reduceLeDiff, Nat.reduceLT, Nat.zero_le, Int.reduceAdd, Int.reduceSub, Int.reduceMul, Int.reduceNeg, q_add_e, q_sub_e, q_mul_e, q_neg_e, q_upd_s, q_upd_n, zr_shr0, zr_shr1, zr_shr2, zr_shr3, zr_shr4, zr_and, zr_dyn8, zr_or, zr_shl, q_cpy_n, y_cpy26]
            exact h M2 h1
          by_cases k0 : wt = 0
          · subst k0
            rw [if_pos rfl, ← F_dig_cong _ mIn_cong] at hq
            simp (disch := omega) only [b_X6_run_0, x_loadI_1, x_iconst, y_if_eq_t, y_if_eq_f, b_X6_run_10, x_loadI_2, y_if_ne_t, y_if_ne_f, b_X6_run_19, x_loadR_0, x_loadS_0, f_6_0, x_iadd, b_X6_run_35, x_ret0, b_X6_run_38, x_storeI_3, x_loadI_3, y_ic_ge_t, y_ic_ge_f, b_X6_run_49, x_popI, x_popR, x_iinc_3, x_goto, b_X6_run_60, b_X6_run_67, b_X6_run_71, b_X6_run_78, b_X6_run_82, b_X6_run_86, f_6_4, x_isub, x_imul, y_iald_35, b_X6_run_98, q_isL_I, q_isL_R, q_isL_S, true_and, and_true, and_self, List.length_nil, List.length_cons, Nat.zero_add, x_K, x_Kn, Int.reduceToNat, Nat.reduceAdd, Nat.reduceMul, Nat.reduceLeDiff, Nat.reduceLT, Nat.zero_le, Int.reduceAdd, Int.reduceSub, Int.reduceMul, Int.reduceNeg, q_add_e, q_sub_e, q_mul_e, q_neg_e, q_upd_s, q_upd_n, zr_shr0, zr_shr1, zr_shr2, zr_shr3, zr_shr4, zr_and, zr_dyn8, zr_or, zr_shl, q_cpy_n, y_cpy26, c_X6_digitsNow]
            rw [mp_digits m1.1.1.1 m1.1.1.2 m1.1.2.2.2.2.2.2.1]
            simp (disch := omega) only [b_X6_run_0, x_loadI_1, x_iconst, y_if_eq_t, y_if_eq_f, b_X6_run_10, x_loadI_2, y_if_ne_t, y_if_ne_f, b_X6_run_19, x_loadR_0, x_loadS_0, f_6_0, x_iadd, b_X6_run_35, x_ret0, b_X6_run_38, x_storeI_3, x_loadI_3, y_ic_ge_t, y_ic_ge_f, b_X6_run_49, x_popI, x_popR, x_iinc_3, x_goto, b_X6_run_60, b_X6_run_67, b_X6_run_71, b_X6_run_78, b_X6_run_82, b_X6_run_86, f_6_4, x_isub, x_imul, y_iald_35, b_X6_run_98, q_isL_I, q_isL_R, q_isL_S, true_and, and_true, and_self, List.length_nil, List.length_cons, Nat.zero_add, x_K, x_Kn, Int.reduceToNat, Nat.reduceAdd, Nat.reduceMul, Nat.reduceLeDiff, Nat.reduceLT, Nat.zero_le, Int.reduceAdd, Int.reduceSub, Int.reduceMul, Int.reduceNeg, q_add_e, q_sub_e, q_mul_e, q_neg_e, q_upd_s, q_upd_n, zr_shr0, zr_shr1, zr_shr2, zr_shr3, zr_shr4, zr_and, zr_dyn8, zr_or, zr_shl, q_cpy_n, y_cpy26, c_X6_lays]
            exact lay _ [] hq
          rw [if_neg k0] at hq
          by_cases k1 : wt = 1
          · subst k1
            rw [if_pos rfl, ← F_cnt_cong _ mIn_cong] at hq
            simp (disch := omega) only [b_X6_run_0, x_loadI_1, x_iconst, y_if_eq_t, y_if_eq_f, b_X6_run_10, x_loadI_2, y_if_ne_t, y_if_ne_f, b_X6_run_19, x_loadR_0, x_loadS_0, f_6_0, x_iadd, b_X6_run_35, x_ret0, b_X6_run_38, x_storeI_3, x_loadI_3, y_ic_ge_t, y_ic_ge_f, b_X6_run_49, x_popI, x_popR, x_iinc_3, x_goto, b_X6_run_60, b_X6_run_67, b_X6_run_71, b_X6_run_78, b_X6_run_82, b_X6_run_86, f_6_4, x_isub, x_imul, y_iald_35, b_X6_run_98, q_isL_I, q_isL_R, q_isL_S, true_and, and_true, and_self, List.length_nil, List.length_cons, Nat.zero_add, x_K, x_Kn, Int.reduceToNat, Nat.reduceAdd, Nat.reduceMul, Nat.reduceLeDiff, Nat.reduceLT, Nat.zero_le, Int.reduceAdd, Int.reduceSub, Int.reduceMul, Int.reduceNeg, q_add_e, q_sub_e, q_mul_e, q_neg_e, q_upd_s, q_upd_n, zr_shr0, zr_shr1, zr_shr2, zr_shr3, zr_shr4, zr_and, zr_dyn8, zr_or, zr_shl, q_cpy_n, y_cpy26, c_X6_outside]
            rw [mp_outside m1.1.1.1 m1.1.1.2 m1.1.2.2.2.2.2.2.1]
            simp (disch := omega) only [b_X6_run_0, x_loadI_1, x_iconst, y_if_eq_t, y_if_eq_f, b_X6_run_10, x_loadI_2, y_if_ne_t, y_if_ne_f, b_X6_run_19, x_loadR_0, x_loadS_0, f_6_0, x_iadd, b_X6_run_35, x_ret0, b_X6_run_38, x_storeI_3, x_loadI_3, y_ic_ge_t, y_ic_ge_f, b_X6_run_49, x_popI, x_popR, x_iinc_3, x_goto, b_X6_run_60, b_X6_run_67, b_X6_run_71, b_X6_run_78, b_X6_run_82, b_X6_run_86, f_6_4, x_isub, x_imul, y_iald_35, b_X6_run_98, q_isL_I, q_isL_R, q_isL_S, true_and, and_true, and_self, List.length_nil, List.length_cons, Nat.zero_add, x_K, x_Kn, Int.reduceToNat, Nat.reduceAdd, Nat.reduceMul, Nat.reduceLeDiff, Nat.reduceLT, Nat.zero_le, Int.reduceAdd, Int.reduceSub, Int.reduceMul, Int.reduceNeg, q_add_e, q_sub_e, q_mul_e, q_neg_e, q_upd_s, q_upd_n, zr_shr0, zr_shr1, zr_shr2, zr_shr3, zr_shr4, zr_and, zr_dyn8, zr_or, zr_shl, q_cpy_n, y_cpy26, c_X6_lays]
            exact lay _ [] hq
          · rw [if_neg k1, mW_2 (by omega)] at hq
            have t3 : (3 * (wt - 10)).toNat = 3 * (wt - 10).toNat := by omega
            simp (disch := omega) only [b_X6_run_0, x_loadI_1, x_iconst, y_if_eq_t, y_if_eq_f, b_X6_run_10, x_loadI_2, y_if_ne_t, y_if_ne_f, b_X6_run_19, x_loadR_0, x_loadS_0, f_6_0, x_iadd, b_X6_run_35, x_ret0, b_X6_run_38, x_storeI_3, x_loadI_3, y_ic_ge_t, y_ic_ge_f, b_X6_run_49, x_popI, x_popR, x_iinc_3, x_goto, b_X6_run_60, b_X6_run_67, b_X6_run_71, b_X6_run_78, b_X6_run_82, b_X6_run_86, f_6_4, x_isub, x_imul, y_iald_35, b_X6_run_98, q_isL_I, q_isL_R, q_isL_S, true_and, and_true, and_self, List.length_nil, List.length_cons, Nat.zero_add, x_K, x_Kn, Int.reduceToNat, Nat.reduceAdd, Nat.reduceMul, Nat.reduceLeDiff, Nat.reduceLT, Nat.zero_le, Int.reduceAdd, Int.reduceSub, Int.reduceMul, Int.reduceNeg, q_add_e, q_sub_e, q_mul_e, q_neg_e, q_upd_s, q_upd_n, zr_shr0, zr_shr1, zr_shr2, zr_shr3, zr_shr4, zr_and, zr_dyn8, zr_or, zr_shl, q_cpy_n, y_cpy26, t3, c_X6_lays]
            exact lay _ [] hq
        | succ j ih =>
          intro k hk M1 m1 w1 y1 e0 t1
          rw [b_X6_run_44]
          simp (disch := omega) only [b_X6_run_0, x_loadI_1, x_iconst, y_if_eq_t, y_if_eq_f, b_X6_run_10, x_loadI_2, y_if_ne_t, y_if_ne_f, b_X6_run_19, x_loadR_0, x_loadS_0, f_6_0, x_iadd, b_X6_run_35, x_ret0, b_X6_run_38, x_storeI_3, x_loadI_3, y_ic_ge_t, y_ic_ge_f, b_X6_run_49, x_popI, x_popR, x_iinc_3, x_goto, b_X6_run_60, b_X6_run_67, b_X6_run_71, b_X6_run_78, b_X6_run_82, b_X6_run_86, f_6_4, x_isub, x_imul, y_iald_35, b_X6_run_98, q_isL_I, q_isL_R, q_isL_S, true_and, and_true, and_self, List.length_nil, List.length_cons, Nat.zero_add, x_K, x_Kn, Int.reduceToNat, Nat.reduceAdd, Nat.reduceMul, Nat.reduceLeDiff, Nat.reduceLT, Nat.zero_le, Int.reduceAdd, Int.reduceSub, Int.reduceMul, Int.reduceNeg, q_add_e, q_sub_e, q_mul_e, q_neg_e, q_upd_s, q_upd_n, zr_shr0, zr_shr1, zr_shr2, zr_shr3, zr_shr4, zr_and, zr_dyn8, zr_or, zr_shl, q_cpy_n, y_cpy26, c_X6_yearOf]
          refine mp_yearT m1 (by omega) t1 (fun M2 m2 w2 y2 n2 t2 => ?_)
          simp (disch := omega) only [b_X6_run_0, x_loadI_1, x_iconst, y_if_eq_t, y_if_eq_f, b_X6_run_10, x_loadI_2, y_if_ne_t, y_if_ne_f, b_X6_run_19, x_loadR_0, x_loadS_0, f_6_0, x_iadd, b_X6_run_35, x_ret0, b_X6_run_38, x_storeI_3, x_loadI_3, y_ic_ge_t, y_ic_ge_f, b_X6_run_49, x_popI, x_popR, x_iinc_3, x_goto, b_X6_run_60, b_X6_run_67, b_X6_run_71, b_X6_run_78, b_X6_run_82, b_X6_run_86, f_6_4, x_isub, x_imul, y_iald_35, b_X6_run_98, q_isL_I, q_isL_R, q_isL_S, true_and, and_true, and_self, List.length_nil, List.length_cons, Nat.zero_add, x_K, x_Kn, Int.reduceToNat, Nat.reduceAdd, Nat.reduceMul, Nat.reduceLeDiff, Nat.reduceLT, Nat.zero_le, Int.reduceAdd, Int.reduceSub, Int.reduceMul, Int.reduceNeg, q_add_e, q_sub_e, q_mul_e, q_neg_e, q_upd_s, q_upd_n, zr_shr0, zr_shr1, zr_shr2, zr_shr3, zr_shr4, zr_and, zr_dyn8, zr_or, zr_shl, q_cpy_n, y_cpy26]
          exact ih (k + 1) (by omega) M2 m2 (by rw [w2, w1]; rfl) (by omega) (n2.trans e0) t2
      have keep : ∀ (nx : Nat) (ops : List Instr) (ls st : List q_V), (∀ M2 : q_M, q_ml V M2 → mW M2 = mW M → q_mt M M2 → q_T 1 (d + 8) qP_X6_run nx ops ls st g M2 Q) → q_S 1 (d + 7) 154 [qR 6 100] g M (q_K 1 (d + 8) qP_X6_run nx ops ls st Q) := fun nx ops ls st h => mp_keepT C.1 q_mq_rf h
      by_cases c3 : 0 ≤ wt ∧ wt ≤ 1
      · simp (disch := omega) only [b_X6_run_0, x_loadI_1, x_iconst, y_if_eq_t, y_if_eq_f, b_X6_run_10, x_loadI_2, y_if_ne_t, y_if_ne_f, b_X6_run_19, x_loadR_0, x_loadS_0, f_6_0, x_iadd, b_X6_run_35, x_ret0, b_X6_run_38, x_storeI_3, x_loadI_3, y_ic_ge_t, y_ic_ge_f, b_X6_run_49, x_popI, x_popR, x_iinc_3, x_goto, b_X6_run_60, b_X6_run_67, b_X6_run_71, b_X6_run_78, b_X6_run_82, b_X6_run_86, f_6_4, x_isub, x_imul, y_iald_35, b_X6_run_98, q_isL_I, q_isL_R, q_isL_S, true_and, and_true, and_self, List.length_nil, List.length_cons, Nat.zero_add, x_K, x_Kn, Int.reduceToNat, Nat.reduceAdd, Nat.reduceMul, Nat.reduceLeDiff, Nat.reduceLT, Nat.zero_le, Int.reduceAdd, Int.reduceSub, Int.reduceMul, Int.reduceNeg, q_add_e, q_sub_e, q_mul_e, q_neg_e, q_upd_s, q_upd_n, zr_shr0, zr_shr1, zr_shr2, zr_shr3, zr_shr4, zr_and, zr_dyn8, zr_or, zr_shl, q_cpy_n, y_cpy26, c_X6_in, mp_in, c1, and_self, if_true, c3, c_X6_keeps]
        refine keep _ _ _ _ (fun M2 m2 w2 t2 => ?_)
        have e5 : M2 100 5 = M 100 5 := by rw [← mW_91 (M := M2), w2, mW_91]
        have e0 : M2 100 0 = M 100 0 := by rw [← mW_90 (M := M2), w2, mW_90]
        simp (disch := omega) only [b_X6_run_0, x_loadI_1, x_iconst, y_if_eq_t, y_if_eq_f, b_X6_run_10, x_loadI_2, y_if_ne_t, y_if_ne_f, b_X6_run_19, x_loadR_0, x_loadS_0, f_6_0, x_iadd, b_X6_run_35, x_ret0, b_X6_run_38, x_storeI_3, x_loadI_3, y_ic_ge_t, y_ic_ge_f, b_X6_run_49, x_popI, x_popR, x_iinc_3, x_goto, b_X6_run_60, b_X6_run_67, b_X6_run_71, b_X6_run_78, b_X6_run_82, b_X6_run_86, f_6_4, x_isub, x_imul, y_iald_35, b_X6_run_98, q_isL_I, q_isL_R, q_isL_S, true_and, and_true, and_self, List.length_nil, List.length_cons, Nat.zero_add, x_K, x_Kn, Int.reduceToNat, Nat.reduceAdd, Nat.reduceMul, Nat.reduceLeDiff, Nat.reduceLT, Nat.zero_le, Int.reduceAdd, Int.reduceSub, Int.reduceMul, Int.reduceNeg, q_add_e, q_sub_e, q_mul_e, q_neg_e, q_upd_s, q_upd_n, zr_shr0, zr_shr1, zr_shr2, zr_shr3, zr_shr4, zr_and, zr_dyn8, zr_or, zr_shl, q_cpy_n, y_cpy26]
        exact loop N 0 (by omega) M2 m2 w2 (by omega) e0 t2
      · have c4 : 10 ≤ wt ∧ wt ≤ 9 + M 100 0 := Decidable.byContradiction (fun z => c2 ⟨c3, z⟩)
        simp (disch := omega) only [b_X6_run_0, x_loadI_1, x_iconst, y_if_eq_t, y_if_eq_f, b_X6_run_10, x_loadI_2, y_if_ne_t, y_if_ne_f, b_X6_run_19, x_loadR_0, x_loadS_0, f_6_0, x_iadd, b_X6_run_35, x_ret0, b_X6_run_38, x_storeI_3, x_loadI_3, y_ic_ge_t, y_ic_ge_f, b_X6_run_49, x_popI, x_popR, x_iinc_3, x_goto, b_X6_run_60, b_X6_run_67, b_X6_run_71, b_X6_run_78, b_X6_run_82, b_X6_run_86, f_6_4, x_isub, x_imul, y_iald_35, b_X6_run_98, q_isL_I, q_isL_R, q_isL_S, true_and, and_true, and_self, List.length_nil, List.length_cons, Nat.zero_add, x_K, x_Kn, Int.reduceToNat, Nat.reduceAdd, Nat.reduceMul, Nat.reduceLeDiff, Nat.reduceLT, Nat.zero_le, Int.reduceAdd, Int.reduceSub, Int.reduceMul, Int.reduceNeg, q_add_e, q_sub_e, q_mul_e, q_neg_e, q_upd_s, q_upd_n, zr_shr0, zr_shr1, zr_shr2, zr_shr3, zr_shr4, zr_and, zr_dyn8, zr_or, zr_shl, q_cpy_n, y_cpy26, c_X6_in, mp_in, c1, and_self, if_true, c3, if_false, c4, c_X6_keeps]
        refine keep _ _ _ _ (fun M2 m2 w2 t2 => ?_)
        have e5 : M2 100 5 = M 100 5 := by rw [← mW_91 (M := M2), w2, mW_91]
        have e0 : M2 100 0 = M 100 0 := by rw [← mW_90 (M := M2), w2, mW_90]
        simp (disch := omega) only [b_X6_run_0, x_loadI_1, x_iconst, y_if_eq_t, y_if_eq_f, b_X6_run_10, x_loadI_2, y_if_ne_t, y_if_ne_f, b_X6_run_19, x_loadR_0, x_loadS_0, f_6_0, x_iadd, b_X6_run_35, x_ret0, b_X6_run_38, x_storeI_3, x_loadI_3, y_ic_ge_t, y_ic_ge_f, b_X6_run_49, x_popI, x_popR, x_iinc_3, x_goto, b_X6_run_60, b_X6_run_67, b_X6_run_71, b_X6_run_78, b_X6_run_82, b_X6_run_86, f_6_4, x_isub, x_imul, y_iald_35, b_X6_run_98, q_isL_I, q_isL_R, q_isL_S, true_and, and_true, and_self, List.length_nil, List.length_cons, Nat.zero_add, x_K, x_Kn, Int.reduceToNat, Nat.reduceAdd, Nat.reduceMul, Nat.reduceLeDiff, Nat.reduceLT, Nat.zero_le, Int.reduceAdd, Int.reduceSub, Int.reduceMul, Int.reduceNeg, q_add_e, q_sub_e, q_mul_e, q_neg_e, q_upd_s, q_upd_n, zr_shr0, zr_shr1, zr_shr2, zr_shr3, zr_shr4, zr_and, zr_dyn8, zr_or, zr_shl, q_cpy_n, y_cpy26]
        exact loop N 0 (by omega) M2 m2 w2 (by omega) e0 t2
  · rw [if_pos (Or.inl c1)] at hq
    simp (disch := omega) only [b_X6_run_0, x_loadI_1, x_iconst, y_if_eq_t, y_if_eq_f, b_X6_run_10, x_loadI_2, y_if_ne_t, y_if_ne_f, b_X6_run_19, x_loadR_0, x_loadS_0, f_6_0, x_iadd, b_X6_run_35, x_ret0, b_X6_run_38, x_storeI_3, x_loadI_3, y_ic_ge_t, y_ic_ge_f, b_X6_run_49, x_popI, x_popR, x_iinc_3, x_goto, b_X6_run_60, b_X6_run_67, b_X6_run_71, b_X6_run_78, b_X6_run_82, b_X6_run_86, f_6_4, x_isub, x_imul, y_iald_35, b_X6_run_98, q_isL_I, q_isL_R, q_isL_S, true_and, and_true, and_self, List.length_nil, List.length_cons, Nat.zero_add, x_K, x_Kn, Int.reduceToNat, Nat.reduceAdd, Nat.reduceMul, Nat.reduceLeDiff, Nat.reduceLT, Nat.zero_le, Int.reduceAdd, Int.reduceSub, Int.reduceMul, Int.reduceNeg, q_add_e, q_sub_e, q_mul_e, q_neg_e, q_upd_s, q_upd_n, zr_shr0, zr_shr1, zr_shr2, zr_shr3, zr_shr4, zr_and, zr_dyn8, zr_or, zr_shl, q_cpy_n, y_cpy26, c_X6_in, mp_in, c1, if_false]
    exact hq M q_mq_rf
