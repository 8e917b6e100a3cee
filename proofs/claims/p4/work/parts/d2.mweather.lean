/-! THE MODEL: weather by lots, lowest terms, share -/
def G_w1 (V : Nat → (Nat → Int) → Int) (x : Int × q_M) : Int × q_M :=
  (x.1 * 48271 % 2147483647 * 48271 % 2147483647, (G_year V (if x.1 * 48271 % 2147483647 % 5 < x.2 9 0 then F_lay x.2 (x.1 * 48271 % 2147483647 % 5).toNat (x.1 * 48271 % 2147483647 * 48271 % 2147483647 % 100) else x.2)).2)
def G_wth (V : Nat → (Nat → Int) → Int) (S : q_M) (seed : Int) : Nat → Int × q_M
  | 0 => (seed + 1, S)
  | k + 1 => G_w1 V (G_wth V S seed k)
set_option maxHeartbeats 4000000 in
theorem mp_weather {V : Nat → (Nat → Int) → Int} {d dd : Nat} {g : q_G} {M M0 : q_M} {seed : Int} {P : q_P} {nx : Nat} {ops : List Instr} {ls st : List q_V} {Q : Option q_V → q_G → q_M → Prop} (C : q_mi V M) (h0 : q_mq M M0) (hs0 : 0 ≤ seed) (hs1 : seed ≤ 1000000) (hq : ∀ M3 : q_M, q_mq M M3 → M3 100 36 = F_cnt ((G_wth V (mW M) seed 8).2 4) 5 (M 100 0).toNat → q_T 1 dd P nx ops ls (qI (F_dig ((G_wth V (mW M) seed 8).2 4) (M 100 0).toNat) :: st) g M3 Q) : q_S 1 (d + 8) 188 [qR 6 100, qI seed] g M0 (q_K 1 dd P nx ops ls st Q) := by
  have n0 := C.1.1.1
  have y9 := C.2.1
  have hpush : ∀ (v : Int) (M3 : q_M), q_K 1 dd P nx ops ls st Q (some (qI v)) g M3 = q_T 1 dd P nx ops ls (qI v :: st) g M3 Q := fun _ _ => rfl
  generalize q_K 1 dd P nx ops ls st Q = QQ at hpush ⊢
  rw [s_X6_weather]
  have loop : ∀ j k : Nat, k + j = 8 → ∀ (M1 : q_M) (l3 l5 : q_V), q_isL l3 = false → q_isL l5 = false → 0 ≤ (G_wth V (mW M) seed k).1 → (G_wth V (mW M) seed k).1 ≤ 2147483647 → q_ml V M1 → mW M1 = (G_wth V (mW M) seed k).2 → M1 100 5 + j ≤ 1900 → M1 100 0 = M 100 0 → q_mt M M1 → q_T 1 (d + 8) qP_X6_weather 12 [] [qR 6 100, qI seed, qL (G_wth V (mW M) seed k).1, l3, qI k, l5] [] g M1 QQ := by
    intro j
    induction j with
    | zero =>
      intro k hk M1 l3 l5 hl3 hl5 hx0 hx1 m1 w1 y1 e0 t1
      have e : k = 8 := by omega
      subst e
      have hin : ∀ i, i < (M1 100 0).toNat → mIn M1 i = (G_wth V (mW M) seed 8).2 4 i := fun i hi => by rw [← w1]; exact mIn_cong i hi
      rw [b_X6_weather_12]
      simp (disch := omega) only [b_X6_weather_0, x_loadI_1, x_i2l, x_lconst, x_ladd, x_storeL_2, x_loadR_0, x_loadS_0, x_iconst, x_storeI_4, x_loadI_4, y_ic_ge_t, y_ic_ge_f, b_X6_weather_19, x_loadL_2, x_lmul, y_lrem, x_l2i, x_storeI_5, x_loadI_5, f_6_0, b_X6_weather_56, f_6_4, x_imul, y_iast_35, x_iadd, b_X6_weather_83, x_popI, x_popR, x_iinc_4, x_goto, b_X6_weather_94, p_6_36, x_ret0, q_isL_I, q_isL_R, q_isL_S, true_and, and_true, and_self, List.length_nil, List.length_cons, Nat.zero_add, x_K, x_Kn, Int.reduceToNat, Nat.reduceAdd, Nat.reduceMul, Nat.reduceLeDiff, Nat.reduceLT, Nat.zero_le, Int.reduceAdd, Int.reduceSub, Int.reduceMul, Int.reduceNeg, q_add_e, q_sub_e, q_mul_e, q_neg_e, q_upd_s, q_upd_n, zr_shr0, zr_shr1, zr_shr2, zr_shr3, zr_shr4, zr_and, zr_dyn8, zr_or, zr_shl, q_cpy_n, y_cpy26, hl3, c_X6_digitsNow]
      rw [mp_digits m1.1.1.1 m1.1.1.2 m1.1.2.2.2.2.2.2.1]
      simp (disch := omega) only [b_X6_weather_0, x_loadI_1, x_i2l, x_lconst, x_ladd, x_storeL_2, x_loadR_0, x_loadS_0, x_iconst, x_storeI_4, x_loadI_4, y_ic_ge_t, y_ic_ge_f, b_X6_weather_19, x_loadL_2, x_lmul, y_lrem, x_l2i, x_storeI_5, x_loadI_5, f_6_0, b_X6_weather_56, f_6_4, x_imul, y_iast_35, x_iadd, b_X6_weather_83, x_popI, x_popR, x_iinc_4, x_goto, b_X6_weather_94, p_6_36, x_ret0, q_isL_I, q_isL_R, q_isL_S, true_and, and_true, and_self, List.length_nil, List.length_cons, Nat.zero_add, x_K, x_Kn, Int.reduceToNat, Nat.reduceAdd, Nat.reduceMul, Nat.reduceLeDiff, Nat.reduceLT, Nat.zero_le, Int.reduceAdd, Int.reduceSub, Int.reduceMul, Int.reduceNeg, q_add_e, q_sub_e, q_mul_e, q_neg_e, q_upd_s, q_upd_n, zr_shr0, zr_shr1, zr_shr2, zr_shr3, zr_shr4, zr_and, zr_dyn8, zr_or, zr_shl, q_cpy_n, y_cpy26, hl3, c_X6_outside]
      rw [mp_outside m1.1.1.1 m1.1.1.2 m1.1.2.2.2.2.2.2.1]
      have t2 : q_mt M (q_upd M1 100 36 (F_cnt (mIn M1) 5 (M1 100 0).toNat)) := by
        obtain ⟨⟨k1, k2, k3⟩, h3⟩ := t1
        exact ⟨⟨fun i hi => (q_upd_n (by omega)).trans (k1 i hi), fun i hi => (q_upd_n (by omega)).trans (k2 i hi), (q_upd_n (by omega)).trans k3⟩, fun x j q1 q2 q3 q4 => (q_upd_n (by omega)).trans (h3 x j q1 q2 q3 q4)⟩
      simp (disch := omega) only [b_X6_weather_0, x_loadI_1, x_i2l, x_lconst, x_ladd, x_storeL_2, x_loadR_0, x_loadS_0, x_iconst, x_storeI_4, x_loadI_4, y_ic_ge_t, y_ic_ge_f, b_X6_weather_19, x_loadL_2, x_lmul, y_lrem, x_l2i, x_storeI_5, x_loadI_5, f_6_0, b_X6_weather_56, f_6_4, x_imul, y_iast_35, x_iadd, b_X6_weather_83, x_popI, x_popR, x_iinc_4, x_goto, b_X6_weather_94, p_6_36, x_ret0, q_isL_I, q_isL_R, q_isL_S, true_and, and_true, and_self, List.length_nil, List.length_cons, Nat.zero_add, x_K, x_Kn, Int.reduceToNat, Nat.reduceAdd, Nat.reduceMul, Nat.reduceLeDiff, Nat.reduceLT, Nat.zero_le, Int.reduceAdd, Int.reduceSub, Int.reduceMul, Int.reduceNeg, q_add_e, q_sub_e, q_mul_e, q_neg_e, q_upd_s, q_upd_n, zr_shr0, zr_shr1, zr_shr2, zr_shr3, zr_shr4, zr_and, zr_dyn8, zr_or, zr_shl, q_cpy_n, y_cpy26, c_X6_lays]
      refine mp_layT t2 (fun M2 h2 h3 => ?_)
      simp (disch := omega) only [b_X6_weather_0, x_loadI_1, x_i2l, x_lconst, x_ladd, x_storeL_2, x_loadR_0, x_loadS_0, x_iconst, x_storeI_4, x_loadI_4, y_ic_ge_t, y_ic_ge_f, b_X6_weather_19, x_loadL_2, x_lmul, y_lrem, x_l2i, x_storeI_5, x_loadI_5, f_6_0, b_X6_weather_56, f_6_4, x_imul, y_iast_35, x_iadd, b_X6_weather_83, x_popI, x_popR, x_iinc_4, x_goto, b_X6_weather_94, p_6_36, x_ret0, q_isL_I, q_isL_R, q_isL_S, true_and, and_true, and_self, List.length_nil, List.length_cons, Nat.zero_add, x_K, x_Kn, Int.reduceToNat, Nat.reduceAdd, Nat.reduceMul, Nat.reduceLeDiff, Nat.reduceLT, Nat.zero_le, Int.reduceAdd, Int.reduceSub, Int.reduceMul, Int.reduceNeg, q_add_e, q_sub_e, q_mul_e, q_neg_e, q_upd_s, q_upd_n, zr_shr0, zr_shr1, zr_shr2, zr_shr3, zr_shr4, zr_and, zr_dyn8, zr_or, zr_shl, q_cpy_n, y_cpy26]
      rw [hpush, F_dig_cong _ hin, e0]
      refine hq M2 h2 ?_
      rw [h3, q_upd_s, F_cnt_cong _ hin, e0]
    | succ j ih =>
      intro k hk M1 l3 l5 hl3 hl5 hx0 hx1 m1 w1 y1 e0 t1
      have ih2 := ih (k + 1) (by omega)
      rw [G_wth] at ih2
      have hS9 : (G_wth V (mW M) seed k).2 9 0 = M 100 0 := by rw [← w1]; exact e0
      generalize hX : G_wth V (mW M) seed k = X at ih2 hx0 hx1 w1 hS9
      obtain ⟨x, S⟩ := X
      simp only at hx0 hx1 w1 hS9 ⊢
      unfold G_w1 at ih2
      simp only at ih2
      rw [hS9] at ih2
      obtain ⟨N, hN⟩ : ∃ N : Nat, x * 48271 % 2147483647 % 5 = N := ⟨(x * 48271 % 2147483647 % 5).toNat, by omega⟩
      have hN5 : N < 5 := by omega
      obtain ⟨y, hy1⟩ : ∃ y : Int, x * 48271 % 2147483647 * 48271 % 2147483647 = y := ⟨_, rfl⟩
      have hy0 : 0 ≤ y ∧ y < 2147483647 := by omega
      have hyr : 0 ≤ y % 100 ∧ y % 100 ≤ 99 := by omega
      rw [hN, hy1, Int.toNat_natCast] at ih2
      rw [b_X6_weather_12]
      have py : ∀ (M2 : q_M) (l3 l5 : q_V), q_isL l3 = false → q_isL l5 = false → q_ml V M2 → mW M2 = (if (N : Int) < M 100 0 then F_lay S N (y % 100) else S) → M2 100 5 + (j + 1 : Nat) ≤ 1900 → M2 100 0 = M 100 0 → q_mt M M2 → q_T 1 (d + 8) qP_X6_weather 83 [] [qR 6 100, qI seed, qL y, l3, qI k, l5] [] g M2 QQ := by
        intro M2 l3 l5 hl3 hl5 m2 w2 y2 n2 t2
        rw [b_X6_weather_83]
        simp (disch := omega) only [b_X6_weather_0, x_loadI_1, x_i2l, x_lconst, x_ladd, x_storeL_2, x_loadR_0, x_loadS_0, x_iconst, x_storeI_4, x_loadI_4, y_ic_ge_t, y_ic_ge_f, b_X6_weather_19, x_loadL_2, x_lmul, y_lrem, x_l2i, x_storeI_5, x_loadI_5, f_6_0, b_X6_weather_56, f_6_4, x_imul, y_iast_35, x_iadd, b_X6_weather_83, x_popI, x_popR, x_iinc_4, x_goto, b_X6_weather_94, p_6_36, x_ret0, q_isL_I, q_isL_R, q_isL_S, true_and, and_true, and_self, List.length_nil, List.length_cons, Nat.zero_add, x_K, x_Kn, Int.reduceToNat, Nat.reduceAdd, Nat.reduceMul, Nat.reduceLeDiff, Nat.reduceLT, Nat.zero_le, Int.reduceAdd, Int.reduceSub, Int.reduceMul, Int.reduceNeg, q_add_e, q_sub_e, q_mul_e, q_neg_e, q_upd_s, q_upd_n, zr_shr0, zr_shr1, zr_shr2, zr_shr3, zr_shr4, zr_and, zr_dyn8, zr_or, zr_shl, q_cpy_n, y_cpy26, c_X6_yearOf]
        refine mp_yearT m2 (by omega) t2 (fun M3 m3 w3 y3 n3 t3 => ?_)
        simp (disch := omega) only [b_X6_weather_0, x_loadI_1, x_i2l, x_lconst, x_ladd, x_storeL_2, x_loadR_0, x_loadS_0, x_iconst, x_storeI_4, x_loadI_4, y_ic_ge_t, y_ic_ge_f, b_X6_weather_19, x_loadL_2, x_lmul, y_lrem, x_l2i, x_storeI_5, x_loadI_5, f_6_0, b_X6_weather_56, f_6_4, x_imul, y_iast_35, x_iadd, b_X6_weather_83, x_popI, x_popR, x_iinc_4, x_goto, b_X6_weather_94, p_6_36, x_ret0, q_isL_I, q_isL_R, q_isL_S, true_and, and_true, and_self, List.length_nil, List.length_cons, Nat.zero_add, x_K, x_Kn, Int.reduceToNat, Nat.reduceAdd, Nat.reduceMul, Nat.reduceLeDiff, Nat.reduceLT, Nat.zero_le, Int.reduceAdd, Int.reduceSub, Int.reduceMul, Int.reduceNeg, q_add_e, q_sub_e, q_mul_e, q_neg_e, q_upd_s, q_upd_n, zr_shr0, zr_shr1, zr_shr2, zr_shr3, zr_shr4, zr_and, zr_dyn8, zr_or, zr_shl, q_cpy_n, y_cpy26, hl3, hl5]
        exact ih2 M3 l3 l5 hl3 hl5 hy0.1 (by omega) m3 (by rw [w3, w2]) (by omega) (n3.trans n2) t3
      by_cases c1 : (N : Int) < M 100 0
      · simp (disch := omega) only [b_X6_weather_0, x_loadI_1, x_i2l, x_lconst, x_ladd, x_storeL_2, x_loadR_0, x_loadS_0, x_iconst, x_storeI_4, x_loadI_4, y_ic_ge_t, y_ic_ge_f, b_X6_weather_19, x_loadL_2, x_lmul, y_lrem, x_l2i, x_storeI_5, x_loadI_5, f_6_0, b_X6_weather_56, f_6_4, x_imul, y_iast_35, x_iadd, x_popI, x_popR, x_iinc_4, x_goto, b_X6_weather_94, p_6_36, x_ret0, q_isL_I, q_isL_R, q_isL_S, true_and, and_true, and_self, List.length_nil, List.length_cons, Nat.zero_add, x_K, x_Kn, Int.reduceToNat, Nat.reduceAdd, Nat.reduceMul, Nat.reduceLeDiff, Nat.reduceLT, Nat.zero_le, Int.reduceAdd, Int.reduceSub, Int.reduceMul, Int.reduceNeg, q_add_e, q_sub_e, q_mul_e, q_neg_e, q_upd_s, q_upd_n, zr_shr0, zr_shr1, zr_shr2, zr_shr3, zr_shr4, zr_and, zr_dyn8, zr_or, zr_shl, q_cpy_n, y_cpy26, q_lmul_e, q_lrem_e, q_l2i_e, hy1, hN, hl3, hl5, tn_30, tn_32]
        refine py _ _ _ rfl rfl (q_ml_up (q_ml_up m1 (q_ok2 hyr) (by omega) (by omega) (by omega)) (q_ok4 (by omega)) (by omega) (by omega) (by omega)) ?_ ?_ ?_ (q_mt_up (q_mt_up t1 (by omega)) (by omega))
        · rw [if_pos c1, mW_up4 (by rw [q_upd_n (by omega), e0]; omega), mW_up2 (by rw [e0]; omega), w1]
          rfl
        · rw [q_upd_n (by omega), q_upd_n (by omega)]
          omega
        · rw [q_upd_n (by omega), q_upd_n (by omega)]
          exact e0
      · simp (disch := omega) only [b_X6_weather_0, x_loadI_1, x_i2l, x_lconst, x_ladd, x_storeL_2, x_loadR_0, x_loadS_0, x_iconst, x_storeI_4, x_loadI_4, y_ic_ge_t, y_ic_ge_f, b_X6_weather_19, x_loadL_2, x_lmul, y_lrem, x_l2i, x_storeI_5, x_loadI_5, f_6_0, b_X6_weather_56, f_6_4, x_imul, y_iast_35, x_iadd, x_popI, x_popR, x_iinc_4, x_goto, b_X6_weather_94, p_6_36, x_ret0, q_isL_I, q_isL_R, q_isL_S, true_and, and_true, and_self, List.length_nil, List.length_cons, Nat.zero_add, x_K, x_Kn, Int.reduceToNat, Nat.reduceAdd, Nat.reduceMul, Nat.reduceLeDiff, Nat.reduceLT, Nat.zero_le, Int.reduceAdd, Int.reduceSub, Int.reduceMul, Int.reduceNeg, q_add_e, q_sub_e, q_mul_e, q_neg_e, q_upd_s, q_upd_n, zr_shr0, zr_shr1, zr_shr2, zr_shr3, zr_shr4, zr_and, zr_dyn8, zr_or, zr_shl, q_cpy_n, y_cpy26, q_lmul_e, q_lrem_e, q_l2i_e, hy1, hN, hl3, hl5]
        exact py _ _ _ rfl rfl m1 (by rw [if_neg c1]; exact w1) (by omega) e0 t1
  simp (disch := omega) only [b_X6_weather_0, x_loadI_1, x_i2l, x_lconst, x_ladd, x_storeL_2, x_loadR_0, x_loadS_0, x_iconst, x_storeI_4, x_loadI_4, y_ic_ge_t, y_ic_ge_f, b_X6_weather_19, x_loadL_2, x_lmul, y_lrem, x_l2i, x_storeI_5, x_loadI_5, f_6_0, b_X6_weather_56, f_6_4, x_imul, y_iast_35, x_iadd, x_popI, x_popR, x_iinc_4, x_goto, b_X6_weather_94, p_6_36, x_ret0, q_isL_I, q_isL_R, q_isL_S, true_and, and_true, and_self, List.length_nil, List.length_cons, Nat.zero_add, x_K, x_Kn, Int.reduceToNat, Nat.reduceAdd, Nat.reduceMul, Nat.reduceLeDiff, Nat.reduceLT, Nat.zero_le, Int.reduceAdd, Int.reduceSub, Int.reduceMul, Int.reduceNeg, q_add_e, q_sub_e, q_mul_e, q_neg_e, q_upd_s, q_upd_n, zr_shr0, zr_shr1, zr_shr2, zr_shr3, zr_shr4, zr_and, zr_dyn8, zr_or, zr_shl, q_cpy_n, y_cpy26, q_i2l_e, q_ladd_e, c_X6_keeps]
  have keep : ∀ (nx : Nat) (ops : List Instr) (ls st : List q_V), (∀ M2 : q_M, q_ml V M2 → mW M2 = mW M → q_mt M M2 → q_T 1 (d + 8) qP_X6_weather nx ops ls st g M2 QQ) → q_S 1 (d + 7) 154 [qR 6 100] g M0 (q_K 1 (d + 8) qP_X6_weather nx ops ls st QQ) := fun nx ops ls st h => mp_keepT C.1 h0 h
  refine keep _ _ _ _ (fun M2 m2 w2 t2 => ?_)
  have e5 : M2 100 5 = M 100 5 := by rw [← mW_91 (M := M2), w2, mW_91]
  have e0 : M2 100 0 = M 100 0 := by rw [← mW_90 (M := M2), w2, mW_90]
  simp (disch := omega) only [b_X6_weather_0, x_loadI_1, x_i2l, x_lconst, x_ladd, x_storeL_2, x_loadR_0, x_loadS_0, x_iconst, x_storeI_4, x_loadI_4, y_ic_ge_t, y_ic_ge_f, b_X6_weather_19, x_loadL_2, x_lmul, y_lrem, x_l2i, x_storeI_5, x_loadI_5, f_6_0, b_X6_weather_56, f_6_4, x_imul, y_iast_35, x_iadd, x_popI, x_popR, x_iinc_4, x_goto, b_X6_weather_94, p_6_36, x_ret0, q_isL_I, q_isL_R, q_isL_S, true_and, and_true, and_self, List.length_nil, List.length_cons, Nat.zero_add, x_K, x_Kn, Int.reduceToNat, Nat.reduceAdd, Nat.reduceMul, Nat.reduceLeDiff, Nat.reduceLT, Nat.zero_le, Int.reduceAdd, Int.reduceSub, Int.reduceMul, Int.reduceNeg, q_add_e, q_sub_e, q_mul_e, q_neg_e, q_upd_s, q_upd_n, zr_shr0, zr_shr1, zr_shr2, zr_shr3, zr_shr4, zr_and, zr_dyn8, zr_or, zr_shl, q_cpy_n, y_cpy26]
  exact loop 8 0 rfl M2 _ _ rfl rfl (by show 0 ≤ seed + 1; omega) (by show seed + 1 ≤ 2147483647; omega) m2 w2 (by omega) e0 t2
def B_drawn (V : Nat → (Nat → Int) → Int) (S : q_M) (seed wt : Int) : Int := if ¬((0 ≤ seed ∧ seed ≤ 99999) ∧ (0 ≤ wt ∧ wt ≤ 1)) then -2 else if wt = 0 then F_dig ((G_wth V S seed 8).2 4) (S 9 0).toNat else F_cnt ((G_wth V S seed 8).2 4) 5 (S 9 0).toNat
set_option maxHeartbeats 4000000 in
theorem mp_drawn {V : Nat → (Nat → Int) → Int} {d : Nat} {g : q_G} {M : q_M} {seed wt : Int} {Q : Option q_V → q_G → q_M → Prop} (C : q_mi V M) (hq : ∀ M2 : q_M, q_mq M M2 → Q (some (qI (B_drawn V (mW M) seed wt))) g M2) : q_S 1 (d + 9) 189 [qR 6 100, qI seed, qI wt] g M Q := by
  rw [s_X6_drawn]
  unfold B_drawn at hq
  rw [mW_90] at hq
  by_cases c1 : 0 ≤ seed ∧ seed ≤ 99999
  · by_cases c2 : 0 ≤ wt ∧ wt ≤ 1
    · rw [if_neg (fun z => z ⟨c1, c2⟩)] at hq
      simp (disch := omega) only [b_X6_drawn_0, x_loadI_1, x_iconst, y_if_eq_t, y_if_eq_f, b_X6_drawn_11, x_loadI_2, y_if_ne_t, y_if_ne_f, b_X6_drawn_20, x_ret0, b_X6_drawn_23, x_loadR_0, x_loadS_0, x_storeI_3, b_X6_drawn_33, x_loadI_3, x_goto, b_X6_drawn_37, f_6_36, b_X6_drawn_41, q_isL_I, q_isL_R, q_isL_S, true_and, and_true, and_self, List.length_nil, List.length_cons, Nat.zero_add, x_K, x_Kn, Int.reduceToNat, Nat.reduceAdd, Nat.reduceMul, Nat.reduceLeDiff, Nat.reduceLT, Nat.zero_le, Int.reduceAdd, Int.reduceSub, Int.reduceMul, Int.reduceNeg, q_add_e, q_sub_e, q_mul_e, q_neg_e, q_upd_s, q_upd_n, zr_shr0, zr_shr1, zr_shr2, zr_shr3, zr_shr4, zr_and, zr_dyn8, zr_or, zr_shl, q_cpy_n, y_cpy26, c_X6_in, mp_in, c1, c2, and_self, if_true, c_X6_weather]
      refine mp_weather C q_mq_rf (by omega) (by omega) (fun M3 h3 e3 => ?_)
      rcases (show wt = 0 ∨ wt = 1 by omega) with e | e
      · rw [if_pos e] at hq
        simp (disch := omega) only [b_X6_drawn_0, x_loadI_1, x_iconst, y_if_eq_t, y_if_eq_f, b_X6_drawn_11, x_loadI_2, y_if_ne_t, y_if_ne_f, b_X6_drawn_20, x_ret0, b_X6_drawn_23, x_loadR_0, x_loadS_0, x_storeI_3, b_X6_drawn_33, x_loadI_3, x_goto, b_X6_drawn_37, f_6_36, b_X6_drawn_41, q_isL_I, q_isL_R, q_isL_S, true_and, and_true, and_self, List.length_nil, List.length_cons, Nat.zero_add, x_K, x_Kn, Int.reduceToNat, Nat.reduceAdd, Nat.reduceMul, Nat.reduceLeDiff, Nat.reduceLT, Nat.zero_le, Int.reduceAdd, Int.reduceSub, Int.reduceMul, Int.reduceNeg, q_add_e, q_sub_e, q_mul_e, q_neg_e, q_upd_s, q_upd_n, zr_shr0, zr_shr1, zr_shr2, zr_shr3, zr_shr4, zr_and, zr_dyn8, zr_or, zr_shl, q_cpy_n, y_cpy26]
        exact hq M3 h3
      · rw [if_neg (by omega)] at hq
        simp (disch := omega) only [b_X6_drawn_0, x_loadI_1, x_iconst, y_if_eq_t, y_if_eq_f, b_X6_drawn_11, x_loadI_2, y_if_ne_t, y_if_ne_f, b_X6_drawn_20, x_ret0, b_X6_drawn_23, x_loadR_0, x_loadS_0, x_storeI_3, b_X6_drawn_33, x_loadI_3, x_goto, b_X6_drawn_37, f_6_36, b_X6_drawn_41, q_isL_I, q_isL_R, q_isL_S, true_and, and_true, and_self, List.length_nil, List.length_cons, Nat.zero_add, x_K, x_Kn, Int.reduceToNat, Nat.reduceAdd, Nat.reduceMul, Nat.reduceLeDiff, Nat.reduceLT, Nat.zero_le, Int.reduceAdd, Int.reduceSub, Int.reduceMul, Int.reduceNeg, q_add_e, q_sub_e, q_mul_e, q_neg_e, q_upd_s, q_upd_n, zr_shr0, zr_shr1, zr_shr2, zr_shr3, zr_shr4, zr_and, zr_dyn8, zr_or, zr_shl, q_cpy_n, y_cpy26, e3]
        exact hq M3 h3
    · rw [if_pos (fun z => c2 z.2)] at hq
      simp (disch := omega) only [b_X6_drawn_0, x_loadI_1, x_iconst, y_if_eq_t, y_if_eq_f, b_X6_drawn_11, x_loadI_2, y_if_ne_t, y_if_ne_f, b_X6_drawn_20, x_ret0, b_X6_drawn_23, x_loadR_0, x_loadS_0, x_storeI_3, b_X6_drawn_33, x_loadI_3, x_goto, b_X6_drawn_37, f_6_36, b_X6_drawn_41, q_isL_I, q_isL_R, q_isL_S, true_and, and_true, and_self, List.length_nil, List.length_cons, Nat.zero_add, x_K, x_Kn, Int.reduceToNat, Nat.reduceAdd, Nat.reduceMul, Nat.reduceLeDiff, Nat.reduceLT, Nat.zero_le, Int.reduceAdd, Int.reduceSub, Int.reduceMul, Int.reduceNeg, q_add_e, q_sub_e, q_mul_e, q_neg_e, q_upd_s, q_upd_n, zr_shr0, zr_shr1, zr_shr2, zr_shr3, zr_shr4, zr_and, zr_dyn8, zr_or, zr_shl, q_cpy_n, y_cpy26, c_X6_in, mp_in, c1, c2, and_self, if_true, if_false]
      exact hq M q_mq_rf
  · rw [if_pos (fun z => c1 z.1)] at hq
    simp (disch := omega) only [b_X6_drawn_0, x_loadI_1, x_iconst, y_if_eq_t, y_if_eq_f, b_X6_drawn_11, x_loadI_2, y_if_ne_t, y_if_ne_f, b_X6_drawn_20, x_ret0, b_X6_drawn_23, x_loadR_0, x_loadS_0, x_storeI_3, b_X6_drawn_33, x_loadI_3, x_goto, b_X6_drawn_37, f_6_36, b_X6_drawn_41, q_isL_I, q_isL_R, q_isL_S, true_and, and_true, and_self, List.length_nil, List.length_cons, Nat.zero_add, x_K, x_Kn, Int.reduceToNat, Nat.reduceAdd, Nat.reduceMul, Nat.reduceLeDiff, Nat.reduceLT, Nat.zero_le, Int.reduceAdd, Int.reduceSub, Int.reduceMul, Int.reduceNeg, q_add_e, q_sub_e, q_mul_e, q_neg_e, q_upd_s, q_upd_n, zr_shr0, zr_shr1, zr_shr2, zr_shr3, zr_shr4, zr_and, zr_dyn8, zr_or, zr_shl, q_cpy_n, y_cpy26, c_X6_in, mp_in, c1, if_false]
    exact hq M q_mq_rf
def B_low (a b part : Int) : Int := if a = 0 then part else (if part = 0 then a else b) / (Nat.gcd a.toNat b.toNat : Nat)
set_option maxHeartbeats 4000000 in
theorem mp_low {d : Nat} {g : q_G} {M : q_M} {a b part : Int} {Q : Option q_V → q_G → q_M → Prop} (ha0 : 0 ≤ a) (ha : a ≤ 100000) (hb0 : 0 ≤ b) (hb : b ≤ 100000) (hp : 0 ≤ part ∧ part ≤ 1) (hq : Q (some (qL (B_low a b part))) g M) : q_S 1 d 177 [qL a, qL b, qI part] g M Q := by
  rw [s_X6_lowest]
  unfold B_low at hq
  by_cases c0 : a = 0
  · rw [if_pos c0] at hq
    subst c0
    have e : q_lcmp 0 0 = 0 := q_lcmp_eq rfl
    simp (disch := omega) only [b_X6_lowest_0, x_loadL_0, x_lconst, x_lcmp, y_if_ne_t, y_if_ne_f, b_X6_lowest_6, x_loadI_4, x_i2l, x_lret, b_X6_lowest_10, x_storeL_5, x_loadL_2, x_storeL_7, x_loadL_7, y_if_eq_t, y_if_eq_f, b_X6_lowest_23, x_loadL_5, y_lrem, x_storeL_9, x_loadL_9, x_goto, b_X6_lowest_41, b_X6_lowest_46, b_X6_lowest_50, b_X6_lowest_51, y_ldiv, q_isL_I, q_isL_R, q_isL_S, true_and, and_true, and_self, List.length_nil, List.length_cons, Nat.zero_add, x_K, x_Kn, Int.reduceToNat, Nat.reduceAdd, Nat.reduceMul, Nat.reduceLeDiff, Nat.reduceLT, Nat.zero_le, Int.reduceAdd, Int.reduceSub, Int.reduceMul, Int.reduceNeg, q_add_e, q_sub_e, q_mul_e, q_neg_e, q_upd_s, q_upd_n, zr_shr0, zr_shr1, zr_shr2, zr_shr3, zr_shr4, zr_and, zr_dyn8, zr_or, zr_shl, q_cpy_n, y_cpy26, e, q_i2l_e]
    exact hq
  · rw [if_neg c0] at hq
    have loop : ∀ m : Nat, ∀ x y : Nat, y ≤ m → x ≤ 100000 → y ≤ 100000 → Nat.gcd x y = Nat.gcd a.toNat b.toNat → ∀ (l6 l8 l9 l10 : q_V), q_isL l6 = false → q_isL l8 = false → q_T 1 d qP_X6_lowest 16 [] [qL a, qS 0, qL b, qS 0, qI part, qL x, l6, qL y, l8, l9, l10] [] g M Q := by
      intro m
      induction m with
      | zero =>
        intro x y hy hx hyb hg l6 l8 l9 l10 hl6 hl8
        have ey : y = 0 := by omega
        subst ey
        rw [Nat.gcd_zero_right] at hg
        rw [← hg] at hq
        have hx1 : 0 < x := by
          rw [hg]
          exact Nat.gcd_pos_of_pos_left _ (by omega)
        have e : q_lcmp ((0 : Nat) : Int) 0 = 0 := q_lcmp_eq rfl
        rw [b_X6_lowest_16]
        by_cases cp : part = 0
        · rw [if_pos cp] at hq
          simp (disch := omega) only [b_X6_lowest_0, x_loadL_0, x_lconst, x_lcmp, y_if_ne_t, y_if_ne_f, b_X6_lowest_6, x_loadI_4, x_i2l, x_lret, b_X6_lowest_10, x_storeL_5, x_loadL_2, x_storeL_7, x_loadL_7, y_if_eq_t, y_if_eq_f, b_X6_lowest_23, x_loadL_5, y_lrem, x_storeL_9, x_loadL_9, x_goto, b_X6_lowest_41, b_X6_lowest_46, b_X6_lowest_50, b_X6_lowest_51, y_ldiv, q_isL_I, q_isL_R, q_isL_S, true_and, and_true, and_self, List.length_nil, List.length_cons, Nat.zero_add, x_K, x_Kn, Int.reduceToNat, Nat.reduceAdd, Nat.reduceMul, Nat.reduceLeDiff, Nat.reduceLT, Nat.zero_le, Int.reduceAdd, Int.reduceSub, Int.reduceMul, Int.reduceNeg, q_add_e, q_sub_e, q_mul_e, q_neg_e, q_upd_s, q_upd_n, zr_shr0, zr_shr1, zr_shr2, zr_shr3, zr_shr4, zr_and, zr_dyn8, zr_or, zr_shl, q_cpy_n, y_cpy26, e, q_ldiv_e]
          exact hq
        · rw [if_neg cp] at hq
          simp (disch := omega) only [b_X6_lowest_0, x_loadL_0, x_lconst, x_lcmp, y_if_ne_t, y_if_ne_f, b_X6_lowest_6, x_loadI_4, x_i2l, x_lret, b_X6_lowest_10, x_storeL_5, x_loadL_2, x_storeL_7, x_loadL_7, y_if_eq_t, y_if_eq_f, b_X6_lowest_23, x_loadL_5, y_lrem, x_storeL_9, x_loadL_9, x_goto, b_X6_lowest_41, b_X6_lowest_46, b_X6_lowest_50, b_X6_lowest_51, y_ldiv, q_isL_I, q_isL_R, q_isL_S, true_and, and_true, and_self, List.length_nil, List.length_cons, Nat.zero_add, x_K, x_Kn, Int.reduceToNat, Nat.reduceAdd, Nat.reduceMul, Nat.reduceLeDiff, Nat.reduceLT, Nat.zero_le, Int.reduceAdd, Int.reduceSub, Int.reduceMul, Int.reduceNeg, q_add_e, q_sub_e, q_mul_e, q_neg_e, q_upd_s, q_upd_n, zr_shr0, zr_shr1, zr_shr2, zr_shr3, zr_shr4, zr_and, zr_dyn8, zr_or, zr_shl, q_cpy_n, y_cpy26, e, q_ldiv_e]
          exact hq
      | succ m ih =>
        intro x y hy hx hyb hg l6 l8 l9 l10 hl6 hl8
        by_cases ey : y = 0
        · subst ey
          rw [Nat.gcd_zero_right] at hg
          rw [← hg] at hq
          have hx1 : 0 < x := by
            rw [hg]
            exact Nat.gcd_pos_of_pos_left _ (by omega)
          have e : q_lcmp ((0 : Nat) : Int) 0 = 0 := q_lcmp_eq rfl
          rw [b_X6_lowest_16]
          by_cases cp : part = 0
          · rw [if_pos cp] at hq
            simp (disch := omega) only [b_X6_lowest_0, x_loadL_0, x_lconst, x_lcmp, y_if_ne_t, y_if_ne_f, b_X6_lowest_6, x_loadI_4, x_i2l, x_lret, b_X6_lowest_10, x_storeL_5, x_loadL_2, x_storeL_7, x_loadL_7, y_if_eq_t, y_if_eq_f, b_X6_lowest_23, x_loadL_5, y_lrem, x_storeL_9, x_loadL_9, x_goto, b_X6_lowest_41, b_X6_lowest_46, b_X6_lowest_50, b_X6_lowest_51, y_ldiv, q_isL_I, q_isL_R, q_isL_S, true_and, and_true, and_self, List.length_nil, List.length_cons, Nat.zero_add, x_K, x_Kn, Int.reduceToNat, Nat.reduceAdd, Nat.reduceMul, Nat.reduceLeDiff, Nat.reduceLT, Nat.zero_le, Int.reduceAdd, Int.reduceSub, Int.reduceMul, Int.reduceNeg, q_add_e, q_sub_e, q_mul_e, q_neg_e, q_upd_s, q_upd_n, zr_shr0, zr_shr1, zr_shr2, zr_shr3, zr_shr4, zr_and, zr_dyn8, zr_or, zr_shl, q_cpy_n, y_cpy26, e, q_ldiv_e]
            exact hq
          · rw [if_neg cp] at hq
            simp (disch := omega) only [b_X6_lowest_0, x_loadL_0, x_lconst, x_lcmp, y_if_ne_t, y_if_ne_f, b_X6_lowest_6, x_loadI_4, x_i2l, x_lret, b_X6_lowest_10, x_storeL_5, x_loadL_2, x_storeL_7, x_loadL_7, y_if_eq_t, y_if_eq_f, b_X6_lowest_23, x_loadL_5, y_lrem, x_storeL_9, x_loadL_9, x_goto, b_X6_lowest_41, b_X6_lowest_46, b_X6_lowest_50, b_X6_lowest_51, y_ldiv, q_isL_I, q_isL_R, q_isL_S, true_and, and_true, and_self, List.length_nil, List.length_cons, Nat.zero_add, x_K, x_Kn, Int.reduceToNat, Nat.reduceAdd, Nat.reduceMul, Nat.reduceLeDiff, Nat.reduceLT, Nat.zero_le, Int.reduceAdd, Int.reduceSub, Int.reduceMul, Int.reduceNeg, q_add_e, q_sub_e, q_mul_e, q_neg_e, q_upd_s, q_upd_n, zr_shr0, zr_shr1, zr_shr2, zr_shr3, zr_shr4, zr_and, zr_dyn8, zr_or, zr_shl, q_cpy_n, y_cpy26, e, q_ldiv_e]
            exact hq
        · have e : q_lcmp (y : Int) 0 = 1 := q_lcmp_gt (by omega)
          have er : q_lrem (x : Int) (y : Int) = ((x % y : Nat) : Int) := by
            rw [q_lrem_e (by omega) (by omega) (by omega) (by omega)]
            exact (Int.natCast_emod x y).symm
          have hlt : x % y < y := Nat.mod_lt _ (by omega)
          rw [b_X6_lowest_16]
          simp (disch := omega) only [b_X6_lowest_0, x_loadL_0, x_lconst, x_lcmp, y_if_ne_t, y_if_ne_f, b_X6_lowest_6, x_loadI_4, x_i2l, x_lret, b_X6_lowest_10, x_storeL_5, x_loadL_2, x_storeL_7, x_loadL_7, y_if_eq_t, y_if_eq_f, b_X6_lowest_23, x_loadL_5, y_lrem, x_storeL_9, x_loadL_9, x_goto, b_X6_lowest_41, b_X6_lowest_46, b_X6_lowest_50, b_X6_lowest_51, y_ldiv, q_isL_I, q_isL_R, q_isL_S, true_and, and_true, and_self, List.length_nil, List.length_cons, Nat.zero_add, x_K, x_Kn, Int.reduceToNat, Nat.reduceAdd, Nat.reduceMul, Nat.reduceLeDiff, Nat.reduceLT, Nat.zero_le, Int.reduceAdd, Int.reduceSub, Int.reduceMul, Int.reduceNeg, q_add_e, q_sub_e, q_mul_e, q_neg_e, q_upd_s, q_upd_n, zr_shr0, zr_shr1, zr_shr2, zr_shr3, zr_shr4, zr_and, zr_dyn8, zr_or, zr_shl, q_cpy_n, y_cpy26, e, er, hl6, hl8]
          refine ih y (x % y) (by omega) hyb (by omega) ?_ _ _ _ _ rfl rfl
          rw [Nat.gcd_comm, ← Nat.gcd_rec, Nat.gcd_comm]
          exact hg
    have e : q_lcmp a 0 = 1 := q_lcmp_gt (by omega)
    have l := loop b.toNat a.toNat b.toNat (Nat.le_refl _) (by omega) (by omega) rfl
    rw [show ((a.toNat : Nat) : Int) = a by omega, show ((b.toNat : Nat) : Int) = b by omega] at l
    simp (disch := omega) only [b_X6_lowest_0, x_loadL_0, x_lconst, x_lcmp, y_if_ne_t, y_if_ne_f, b_X6_lowest_6, x_loadI_4, x_i2l, x_lret, b_X6_lowest_10, x_storeL_5, x_loadL_2, x_storeL_7, x_loadL_7, y_if_eq_t, y_if_eq_f, b_X6_lowest_23, x_loadL_5, y_lrem, x_storeL_9, x_loadL_9, x_goto, b_X6_lowest_41, b_X6_lowest_46, b_X6_lowest_50, b_X6_lowest_51, y_ldiv, q_isL_I, q_isL_R, q_isL_S, true_and, and_true, and_self, List.length_nil, List.length_cons, Nat.zero_add, x_K, x_Kn, Int.reduceToNat, Nat.reduceAdd, Nat.reduceMul, Nat.reduceLeDiff, Nat.reduceLT, Nat.zero_le, Int.reduceAdd, Int.reduceSub, Int.reduceMul, Int.reduceNeg, q_add_e, q_sub_e, q_mul_e, q_neg_e, q_upd_s, q_upd_n, zr_shr0, zr_shr1, zr_shr2, zr_shr3, zr_shr4, zr_and, zr_dyn8, zr_or, zr_shl, q_cpy_n, y_cpy26, e]
    exact l _ _ _ _ rfl rfl
