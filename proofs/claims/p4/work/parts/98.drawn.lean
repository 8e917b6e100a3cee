/-! THE CLASS'S ENTRIES: weather by lots -/
def F_w1 (V : Nat → (Nat → Int) → Int) (x : Int × q_M) : Int × q_M :=
  (x.1 * 48271 % 2147483647 * 48271 % 2147483647, (F_year V (if x.1 * 48271 % 2147483647 % 5 < x.2 9 0 then F_lay x.2 (x.1 * 48271 % 2147483647 % 5).toNat (x.1 * 48271 % 2147483647 * 48271 % 2147483647 % 100) else x.2)).2)
def F_wth (V : Nat → (Nat → Int) → Int) (S : q_M) (seed : Int) : Nat → Int × q_M
  | 0 => (seed + 1, S)
  | k + 1 => F_w1 V (F_wth V S seed k)
theorem F_dig_cong {f f' : Nat → Int} : ∀ n : Nat, (∀ k, k < n → f k = f' k) → F_dig f n = F_dig f' n
  | 0, _ => rfl
  | n + 1, h => by rw [F_dig, F_dig, F_dig_cong n (fun k hk => h k (by omega)), h n (by omega)]
set_option maxHeartbeats 4000000 in
theorem sp_weather {V : Nat → (Nat → Int) → Int} {d dd : Nat} {g : q_G} {M M0 : q_M} {ta : Nat} {seed : Int} {P : q_P} {nx : Nat} {ops : List Instr} {ls st : List q_V} {Q : Option q_V → q_G → q_M → Prop} (C : q_ci V M ta) (h0 : q_tq M M0) (hs0 : 0 ≤ seed) (hs1 : seed ≤ 1000000) (hq : ∀ M3 : q_M, q_tq M M3 → q_wl V M3 38 ta → cW M3 38 = (F_wth V (cW M 11) seed 8).2 → M3 39 5 = M 12 5 → q_T 1 dd P nx ops ls st g M3 Q) : q_S 1 (d + 5) 107 [qR 5 0, qI seed] g M0 (q_K 1 dd P nx ops ls st Q) := by
  have h12 := q_ci_n C
  have h9 := q_ci_y C
  have hta := C.1
  unfold q_tas at hta
  have hpush : ∀ M3 : q_M, q_K 1 dd P nx ops ls st Q none g M3 = q_T 1 dd P nx ops ls st g M3 Q := fun _ => rfl
  generalize q_K 1 dd P nx ops ls st Q = QQ at hpush ⊢
  rw [s_X5_passWeather]
  have loop : ∀ j k : Nat, k + j = 8 → ∀ (M1 : q_M) (l3 l5 : q_V), q_isL l3 = false → q_isL l5 = false → 0 ≤ (F_wth V (cW M 11) seed k).1 → (F_wth V (cW M 11) seed k).1 ≤ 2147483647 → q_wl V M1 38 ta → cW M1 38 = (F_wth V (cW M 11) seed k).2 → q_z5 M1 38 → M1 38 9 + j ≤ 2000 → M1 (38 + 1) 5 = M 12 5 → q_tq M M1 → q_T 1 (d + 5) qP_X5_passWeather 19 [] [qR 5 0, qI seed, qL (F_wth V (cW M 11) seed k).1, l3, qI k, l5] [] g M1 QQ := by
    intro j
    induction j with
    | zero =>
      intro k hk M1 l3 l5 hl3 hl5 hx0 hx1 hw hc hz hy hn hf
      have e : k = 8 := by omega
      subst e
      rw [b_X5_passWeather_19]
      simp (disch := omega) only [b_X5_passWeather_0, x_loadR_0, x_loadS_0, f_5_4, f_5_3, x_loadI_1, x_i2l, x_lconst, x_ladd, x_storeL_2, x_iconst, x_storeI_4, x_loadI_4, y_ic_ge_t, y_ic_ge_f, b_X5_passWeather_26, x_loadL_2, x_lmul, y_lrem, x_l2i, x_storeI_5, x_loadI_5, y_if_eq_t, y_if_eq_f, b_X5_passWeather_63, b_X5_passWeather_78, x_popI, x_popR, x_iinc_4, x_goto, b_X5_passWeather_92, x_vret, q_isL_I, q_isL_R, q_isL_S, true_and, and_true, and_self, List.length_nil, List.length_cons, Nat.zero_add, x_K, x_Kn, Int.reduceToNat, Nat.reduceAdd, Nat.reduceMul, Nat.reduceLeDiff, Nat.reduceLT, Nat.zero_le, Int.reduceAdd, Int.reduceSub, Int.reduceMul, Int.reduceNeg, q_add_e, q_sub_e, q_mul_e, q_neg_e, q_upd_s, q_upd_n, zr_shr0, zr_shr1, zr_shr2, zr_shr3, zr_shr4, zr_and, zr_dyn8, zr_or, zr_shl, q_cpy_n, y_cpy26]
      rw [hpush]
      exact hq M1 hf hw hc hn
    | succ j ih =>
      intro k hk M1 l3 l5 hl3 hl5 hx0 hx1 hw hc hz hy hn hf
      have ih2 := ih (k + 1) (by omega)
      rw [F_wth] at ih2
      have hS9 : (F_wth V (cW M 11) seed k).2 9 0 = M 12 5 := by rw [← hc]; exact hn
      have e12 : M1 12 5 = M 12 5 := hf 12 5 (by omega) (by omega) (by omega) (by omega)
      generalize hX : F_wth V (cW M 11) seed k = X at ih2 hx0 hx1 hc hS9
      obtain ⟨x, S⟩ := X
      simp only at hx0 hx1 hc hS9 ⊢
      unfold F_w1 at ih2
      simp only at ih2
      rw [hS9] at ih2
      obtain ⟨N, hN⟩ : ∃ N : Nat, x * 48271 % 2147483647 % 5 = N := ⟨(x * 48271 % 2147483647 % 5).toNat, by omega⟩
      have hN5 : N < 5 := by omega
      obtain ⟨y, hy1⟩ : ∃ y : Int, x * 48271 % 2147483647 * 48271 % 2147483647 = y := ⟨_, rfl⟩
      have hy0 : 0 ≤ y ∧ y < 2147483647 := by omega
      have hyr : 0 ≤ y % 100 ∧ y % 100 ≤ 99 := by omega
      rw [hN, hy1, Int.toNat_natCast] at ih2
      rw [b_X5_passWeather_19]
      have py : ∀ (M2 : q_M) (l3 l5 : q_V), q_isL l3 = false → q_isL l5 = false → q_wl V M2 38 ta → cW M2 38 = (if (N : Int) < M 12 5 then F_lay S N (y % 100) else S) → q_z5 M2 38 → M2 38 9 + (j + 1 : Nat) ≤ 2000 → M2 (38 + 1) 5 = M 12 5 → q_tq M M2 → q_T 1 (d + 5) qP_X5_passWeather 78 [] [qR 5 0, qI seed, qL y, l3, qI k, l5] [] g M2 QQ := by
        intro M2 l3 l5 hl3 hl5 w2 c2 z2 y2 n2 f2
        rw [b_X5_passWeather_78]
        simp (disch := omega) only [b_X5_passWeather_0, x_loadR_0, x_loadS_0, f_5_4, f_5_3, x_loadI_1, x_i2l, x_lconst, x_ladd, x_storeL_2, x_iconst, x_storeI_4, x_loadI_4, y_ic_ge_t, y_ic_ge_f, b_X5_passWeather_26, x_loadL_2, x_lmul, y_lrem, x_l2i, x_storeI_5, x_loadI_5, y_if_eq_t, y_if_eq_f, b_X5_passWeather_63, b_X5_passWeather_78, x_popI, x_popR, x_iinc_4, x_goto, b_X5_passWeather_92, x_vret, q_isL_I, q_isL_R, q_isL_S, true_and, and_true, and_self, List.length_nil, List.length_cons, Nat.zero_add, x_K, x_Kn, Int.reduceToNat, Nat.reduceAdd, Nat.reduceMul, Nat.reduceLeDiff, Nat.reduceLT, Nat.zero_le, Int.reduceAdd, Int.reduceSub, Int.reduceMul, Int.reduceNeg, q_add_e, q_sub_e, q_mul_e, q_neg_e, q_upd_s, q_upd_n, zr_shr0, zr_shr1, zr_shr2, zr_shr3, zr_shr4, zr_and, zr_dyn8, zr_or, zr_shl, q_cpy_n, y_cpy26, c_X4_passYear]
        refine sp_passYear w2 z2.1 (by omega) (fun M3 h1 h2 h3 => ?_)
        have hy3 := F_year_y h2
        simp (disch := omega) only [b_X5_passWeather_0, x_loadR_0, x_loadS_0, f_5_4, f_5_3, x_loadI_1, x_i2l, x_lconst, x_ladd, x_storeL_2, x_iconst, x_storeI_4, x_loadI_4, y_ic_ge_t, y_ic_ge_f, b_X5_passWeather_26, x_loadL_2, x_lmul, y_lrem, x_l2i, x_storeI_5, x_loadI_5, y_if_eq_t, y_if_eq_f, b_X5_passWeather_63, b_X5_passWeather_78, x_popI, x_popR, x_iinc_4, x_goto, b_X5_passWeather_92, x_vret, q_isL_I, q_isL_R, q_isL_S, true_and, and_true, and_self, List.length_nil, List.length_cons, Nat.zero_add, x_K, x_Kn, Int.reduceToNat, Nat.reduceAdd, Nat.reduceMul, Nat.reduceLeDiff, Nat.reduceLT, Nat.zero_le, Int.reduceAdd, Int.reduceSub, Int.reduceMul, Int.reduceNeg, q_add_e, q_sub_e, q_mul_e, q_neg_e, q_upd_s, q_upd_n, zr_shr0, zr_shr1, zr_shr2, zr_shr3, zr_shr4, zr_and, zr_dyn8, zr_or, zr_shl, q_cpy_n, y_cpy26, hl3, hl5]
        refine ih2 M3 l3 l5 hl3 hl5 hy0.1 (by omega) h1 (by rw [h2, c2]) (q_z5_eq (fun a q1 q2 => h3 a 5 (by omega) (by omega) (by omega) (by omega)) z2) (by omega) ((h3 _ 5 (by omega) (by omega) (by omega) (by omega)).trans n2) (q_tq_tr f2 (q_tq_th C.1 (q_th_yn h3)))
      by_cases c1 : (N : Int) < M 12 5
      · have c2 : 0 ≤ (N : Int) ∧ (N : Int) < M 12 5 := ⟨by omega, c1⟩
        have lay : ∀ (nx : Nat) (ops : List Instr) (ls st : List q_V), (q_T 1 (d + 5) qP_X5_passWeather nx ops ls st g (q_upd (q_upd M1 (38 + 24) N (y % 100)) (38 + 3) N 5) QQ) → q_S 1 (d + 4) 51 [qR 4 38, qI N, qI (y % 100)] g M1 (q_K 1 (d + 5) qP_X5_passWeather nx ops ls st QQ) := fun nx ops ls st h => sp_lay (by omega) h
        simp (disch := omega) only [b_X5_passWeather_0, x_loadR_0, x_loadS_0, f_5_4, f_5_3, x_loadI_1, x_i2l, x_lconst, x_ladd, x_storeL_2, x_iconst, x_storeI_4, x_loadI_4, y_ic_ge_t, y_ic_ge_f, b_X5_passWeather_26, x_loadL_2, x_lmul, y_lrem, x_l2i, x_storeI_5, x_loadI_5, y_if_eq_t, y_if_eq_f, b_X5_passWeather_63, x_popI, x_popR, x_iinc_4, x_goto, b_X5_passWeather_92, x_vret, q_isL_I, q_isL_R, q_isL_S, true_and, and_true, and_self, List.length_nil, List.length_cons, Nat.zero_add, x_K, x_Kn, Int.reduceToNat, Nat.reduceAdd, Nat.reduceMul, Nat.reduceLeDiff, Nat.reduceLT, Nat.zero_le, Int.reduceAdd, Int.reduceSub, Int.reduceMul, Int.reduceNeg, q_add_e, q_sub_e, q_mul_e, q_neg_e, q_upd_s, q_upd_n, zr_shr0, zr_shr1, zr_shr2, zr_shr3, zr_shr4, zr_and, zr_dyn8, zr_or, zr_shl, q_cpy_n, y_cpy26, q_lmul_e, q_lrem_e, q_l2i_e, hy1, hN, hl3, hl5, c_X5_isStone, sp_isStone, e12, c2, and_self, if_true, c_X4_lay]
        refine lay _ _ _ _ ?_
        simp (disch := omega) only [b_X5_passWeather_0, x_loadR_0, x_loadS_0, f_5_4, f_5_3, x_loadI_1, x_i2l, x_lconst, x_ladd, x_storeL_2, x_iconst, x_storeI_4, x_loadI_4, y_ic_ge_t, y_ic_ge_f, b_X5_passWeather_26, x_loadL_2, x_lmul, y_lrem, x_l2i, x_storeI_5, x_loadI_5, y_if_eq_t, y_if_eq_f, b_X5_passWeather_63, x_popI, x_popR, x_iinc_4, x_goto, b_X5_passWeather_92, x_vret, q_isL_I, q_isL_R, q_isL_S, true_and, and_true, and_self, List.length_nil, List.length_cons, Nat.zero_add, x_K, x_Kn, Int.reduceToNat, Nat.reduceAdd, Nat.reduceMul, Nat.reduceLeDiff, Nat.reduceLT, Nat.zero_le, Int.reduceAdd, Int.reduceSub, Int.reduceMul, Int.reduceNeg, q_add_e, q_sub_e, q_mul_e, q_neg_e, q_upd_s, q_upd_n, zr_shr0, zr_shr1, zr_shr2, zr_shr3, zr_shr4, zr_and, zr_dyn8, zr_or, zr_shl, q_cpy_n, y_cpy26]
        refine py _ _ _ rfl rfl (q_wl_up (q_wl_up hw (by omega)) (by omega)) ?_ (q_z5_eq (fun a q1 q2 => by rw [q_upd_n (by omega), q_upd_n (by omega)]) hz) ?_ ?_ (q_tq_up (q_tq_up hf (by omega) (by omega) (by omega)) (by omega) (by omega) (by omega))
        · rw [if_pos c1]
          have h := cW_lay (M := M1) (w := 38) (p := N) (wh := y % 100) (by rw [hn]; omega)
          rw [hc] at h
          exact h
        · rw [q_upd_n (by omega), q_upd_n (by omega)]
          omega
        · rw [q_upd_n (by omega), q_upd_n (by omega)]
          exact hn
      · have c2 : ¬(0 ≤ (N : Int) ∧ (N : Int) < M 12 5) := fun z => c1 z.2
        simp (disch := omega) only [b_X5_passWeather_0, x_loadR_0, x_loadS_0, f_5_4, f_5_3, x_loadI_1, x_i2l, x_lconst, x_ladd, x_storeL_2, x_iconst, x_storeI_4, x_loadI_4, y_ic_ge_t, y_ic_ge_f, b_X5_passWeather_26, x_loadL_2, x_lmul, y_lrem, x_l2i, x_storeI_5, x_loadI_5, y_if_eq_t, y_if_eq_f, b_X5_passWeather_63, x_popI, x_popR, x_iinc_4, x_goto, b_X5_passWeather_92, x_vret, q_isL_I, q_isL_R, q_isL_S, true_and, and_true, and_self, List.length_nil, List.length_cons, Nat.zero_add, x_K, x_Kn, Int.reduceToNat, Nat.reduceAdd, Nat.reduceMul, Nat.reduceLeDiff, Nat.reduceLT, Nat.zero_le, Int.reduceAdd, Int.reduceSub, Int.reduceMul, Int.reduceNeg, q_add_e, q_sub_e, q_mul_e, q_neg_e, q_upd_s, q_upd_n, zr_shr0, zr_shr1, zr_shr2, zr_shr3, zr_shr4, zr_and, zr_dyn8, zr_or, zr_shl, q_cpy_n, y_cpy26, q_lmul_e, q_lrem_e, q_l2i_e, hy1, hN, hl3, hl5, c_X5_isStone, sp_isStone, e12, c2, if_false]
        exact py _ _ _ rfl rfl hw (by rw [if_neg c1]; exact hc) hz (by omega) hn hf
  have copy : ∀ (nx : Nat) (ops : List Instr) (ls st : List q_V), (∀ M2 : q_M, q_tk V M M2 ta → q_T 1 (d + 5) qP_X5_passWeather nx ops ls st g M2 QQ) → q_S 1 (d + 4) 49 [qR 4 38, qR 4 11] g M0 (q_K 1 (d + 5) qP_X5_passWeather nx ops ls st QQ) := fun nx ops ls st h => sp_think C h0 h
  simp (disch := omega) only [b_X5_passWeather_0, x_loadR_0, x_loadS_0, f_5_4, f_5_3, x_loadI_1, x_i2l, x_lconst, x_ladd, x_storeL_2, x_iconst, x_storeI_4, x_loadI_4, y_ic_ge_t, y_ic_ge_f, b_X5_passWeather_26, x_loadL_2, x_lmul, y_lrem, x_l2i, x_storeI_5, x_loadI_5, y_if_eq_t, y_if_eq_f, b_X5_passWeather_63, x_popI, x_popR, x_iinc_4, x_goto, b_X5_passWeather_92, x_vret, q_isL_I, q_isL_R, q_isL_S, true_and, and_true, and_self, List.length_nil, List.length_cons, Nat.zero_add, x_K, x_Kn, Int.reduceToNat, Nat.reduceAdd, Nat.reduceMul, Nat.reduceLeDiff, Nat.reduceLT, Nat.zero_le, Int.reduceAdd, Int.reduceSub, Int.reduceMul, Int.reduceNeg, q_add_e, q_sub_e, q_mul_e, q_neg_e, q_upd_s, q_upd_n, zr_shr0, zr_shr1, zr_shr2, zr_shr3, zr_shr4, zr_and, zr_dyn8, zr_or, zr_shl, q_cpy_n, y_cpy26, c_X4_copyFrom]
  refine copy _ _ _ _ (fun M2 h2 => ?_)
  obtain ⟨t1, t2, t3, t4, t5, t6⟩ := h2
  simp (disch := omega) only [b_X5_passWeather_0, x_loadR_0, x_loadS_0, f_5_4, f_5_3, x_loadI_1, x_i2l, x_lconst, x_ladd, x_storeL_2, x_iconst, x_storeI_4, x_loadI_4, y_ic_ge_t, y_ic_ge_f, b_X5_passWeather_26, x_loadL_2, x_lmul, y_lrem, x_l2i, x_storeI_5, x_loadI_5, y_if_eq_t, y_if_eq_f, b_X5_passWeather_63, x_popI, x_popR, x_iinc_4, x_goto, b_X5_passWeather_92, x_vret, q_isL_I, q_isL_R, q_isL_S, true_and, and_true, and_self, List.length_nil, List.length_cons, Nat.zero_add, x_K, x_Kn, Int.reduceToNat, Nat.reduceAdd, Nat.reduceMul, Nat.reduceLeDiff, Nat.reduceLT, Nat.zero_le, Int.reduceAdd, Int.reduceSub, Int.reduceMul, Int.reduceNeg, q_add_e, q_sub_e, q_mul_e, q_neg_e, q_upd_s, q_upd_n, zr_shr0, zr_shr1, zr_shr2, zr_shr3, zr_shr4, zr_and, zr_dyn8, zr_or, zr_shl, q_cpy_n, y_cpy26, q_i2l_e, q_ladd_e]
  exact loop 8 0 rfl M2 _ _ rfl rfl (by show 0 ≤ seed + 1; omega) (by show seed + 1 ≤ 2147483647; omega) t1 t2 t3 (by omega) t5 t6
def A_drawn (V : Nat → (Nat → Int) → Int) (S : q_M) (seed wt : Int) : Int := if seed < 0 ∨ 100000 ≤ seed ∨ wt < 0 ∨ 1 < wt then -2 else if wt = 0 then F_dig ((F_wth V S seed 8).2 4) (S 9 0).toNat else F_cnt ((F_wth V S seed 8).2 4) 5 (S 9 0).toNat
theorem q_wth_in {V : Nat → (Nat → Int) → Int} {M M3 : q_M} {seed : Int} (hc : cW M3 38 = (F_wth V (cW M 11) seed 8).2) (hn : M3 39 5 = M 12 5) : ∀ k, k < (M3 39 5).toNat → M3 (39 + 2) k = (F_wth V (cW M 11) seed 8).2 4 k := fun k hk => by
  rw [← hc]
  exact (cW_4 hk).symm
set_option maxHeartbeats 4000000 in
theorem sp_drawn {V : Nat → (Nat → Int) → Int} {d : Nat} {g : q_G} {M : q_M} {ta : Nat} {seed wt : Int} {Q : Option q_V → q_G → q_M → Prop} (C : q_ci V M ta) (hq : ∀ M2 : q_M, q_tq M M2 → Q (some (qI (A_drawn V (cW M 11) seed wt))) g M2) : q_S 1 (d + 6) 89 [qR 5 0, qI seed, qI wt] g M Q := by
  have h12 := q_ci_n C
  rw [s_X5_drawn]
  unfold A_drawn at hq
  by_cases c1 : seed < 0 ∨ 100000 ≤ seed ∨ wt < 0 ∨ 1 < wt
  · rw [if_pos c1] at hq
    rcases (show seed < 0 ∨ 100000 ≤ seed ∨ (0 ≤ seed ∧ seed < 100000 ∧ wt < 0) ∨ (0 ≤ seed ∧ seed < 100000 ∧ 1 < wt) by omega) with e | e | e | e
    · simp (disch := omega) only [b_X5_drawn_0, x_loadI_1, y_if_lt_t, y_if_lt_f, b_X5_drawn_4, x_iconst, y_ic_ge_t, y_ic_ge_f, b_X5_drawn_10, x_loadI_2, b_X5_drawn_14, y_ic_le_t, y_ic_le_f, b_X5_drawn_19, x_ret0, b_X5_drawn_22, x_loadR_0, x_loadS_0, y_if_ne_t, y_if_ne_f, b_X5_drawn_31, f_5_4, f_4_0, x_goto, b_X5_drawn_44, b_X5_drawn_54, q_isL_I, q_isL_R, q_isL_S, true_and, and_true, and_self, List.length_nil, List.length_cons, Nat.zero_add, x_K, x_Kn, Int.reduceToNat, Nat.reduceAdd, Nat.reduceMul, Nat.reduceLeDiff, Nat.reduceLT, Nat.zero_le, Int.reduceAdd, Int.reduceSub, Int.reduceMul, Int.reduceNeg, q_add_e, q_sub_e, q_mul_e, q_neg_e, q_upd_s, q_upd_n, zr_shr0, zr_shr1, zr_shr2, zr_shr3, zr_shr4, zr_and, zr_dyn8, zr_or, zr_shl, q_cpy_n, y_cpy26]
      exact hq M q_tq_rf
    · simp (disch := omega) only [b_X5_drawn_0, x_loadI_1, y_if_lt_t, y_if_lt_f, b_X5_drawn_4, x_iconst, y_ic_ge_t, y_ic_ge_f, b_X5_drawn_10, x_loadI_2, b_X5_drawn_14, y_ic_le_t, y_ic_le_f, b_X5_drawn_19, x_ret0, b_X5_drawn_22, x_loadR_0, x_loadS_0, y_if_ne_t, y_if_ne_f, b_X5_drawn_31, f_5_4, f_4_0, x_goto, b_X5_drawn_44, b_X5_drawn_54, q_isL_I, q_isL_R, q_isL_S, true_and, and_true, and_self, List.length_nil, List.length_cons, Nat.zero_add, x_K, x_Kn, Int.reduceToNat, Nat.reduceAdd, Nat.reduceMul, Nat.reduceLeDiff, Nat.reduceLT, Nat.zero_le, Int.reduceAdd, Int.reduceSub, Int.reduceMul, Int.reduceNeg, q_add_e, q_sub_e, q_mul_e, q_neg_e, q_upd_s, q_upd_n, zr_shr0, zr_shr1, zr_shr2, zr_shr3, zr_shr4, zr_and, zr_dyn8, zr_or, zr_shl, q_cpy_n, y_cpy26]
      exact hq M q_tq_rf
    · simp (disch := omega) only [b_X5_drawn_0, x_loadI_1, y_if_lt_t, y_if_lt_f, b_X5_drawn_4, x_iconst, y_ic_ge_t, y_ic_ge_f, b_X5_drawn_10, x_loadI_2, b_X5_drawn_14, y_ic_le_t, y_ic_le_f, b_X5_drawn_19, x_ret0, b_X5_drawn_22, x_loadR_0, x_loadS_0, y_if_ne_t, y_if_ne_f, b_X5_drawn_31, f_5_4, f_4_0, x_goto, b_X5_drawn_44, b_X5_drawn_54, q_isL_I, q_isL_R, q_isL_S, true_and, and_true, and_self, List.length_nil, List.length_cons, Nat.zero_add, x_K, x_Kn, Int.reduceToNat, Nat.reduceAdd, Nat.reduceMul, Nat.reduceLeDiff, Nat.reduceLT, Nat.zero_le, Int.reduceAdd, Int.reduceSub, Int.reduceMul, Int.reduceNeg, q_add_e, q_sub_e, q_mul_e, q_neg_e, q_upd_s, q_upd_n, zr_shr0, zr_shr1, zr_shr2, zr_shr3, zr_shr4, zr_and, zr_dyn8, zr_or, zr_shl, q_cpy_n, y_cpy26]
      exact hq M q_tq_rf
    · simp (disch := omega) only [b_X5_drawn_0, x_loadI_1, y_if_lt_t, y_if_lt_f, b_X5_drawn_4, x_iconst, y_ic_ge_t, y_ic_ge_f, b_X5_drawn_10, x_loadI_2, b_X5_drawn_14, y_ic_le_t, y_ic_le_f, b_X5_drawn_19, x_ret0, b_X5_drawn_22, x_loadR_0, x_loadS_0, y_if_ne_t, y_if_ne_f, b_X5_drawn_31, f_5_4, f_4_0, x_goto, b_X5_drawn_44, b_X5_drawn_54, q_isL_I, q_isL_R, q_isL_S, true_and, and_true, and_self, List.length_nil, List.length_cons, Nat.zero_add, x_K, x_Kn, Int.reduceToNat, Nat.reduceAdd, Nat.reduceMul, Nat.reduceLeDiff, Nat.reduceLT, Nat.zero_le, Int.reduceAdd, Int.reduceSub, Int.reduceMul, Int.reduceNeg, q_add_e, q_sub_e, q_mul_e, q_neg_e, q_upd_s, q_upd_n, zr_shr0, zr_shr1, zr_shr2, zr_shr3, zr_shr4, zr_and, zr_dyn8, zr_or, zr_shl, q_cpy_n, y_cpy26]
      exact hq M q_tq_rf
  · rw [if_neg c1, show cW M 11 9 0 = M 12 5 from rfl] at hq
    simp (disch := omega) only [b_X5_drawn_0, x_loadI_1, y_if_lt_t, y_if_lt_f, b_X5_drawn_4, x_iconst, y_ic_ge_t, y_ic_ge_f, b_X5_drawn_10, x_loadI_2, b_X5_drawn_14, y_ic_le_t, y_ic_le_f, b_X5_drawn_19, x_ret0, b_X5_drawn_22, x_loadR_0, x_loadS_0, y_if_ne_t, y_if_ne_f, b_X5_drawn_31, f_5_4, f_4_0, x_goto, b_X5_drawn_44, b_X5_drawn_54, q_isL_I, q_isL_R, q_isL_S, true_and, and_true, and_self, List.length_nil, List.length_cons, Nat.zero_add, x_K, x_Kn, Int.reduceToNat, Nat.reduceAdd, Nat.reduceMul, Nat.reduceLeDiff, Nat.reduceLT, Nat.zero_le, Int.reduceAdd, Int.reduceSub, Int.reduceMul, Int.reduceNeg, q_add_e, q_sub_e, q_mul_e, q_neg_e, q_upd_s, q_upd_n, zr_shr0, zr_shr1, zr_shr2, zr_shr3, zr_shr4, zr_and, zr_dyn8, zr_or, zr_shl, q_cpy_n, y_cpy26, c_X5_passWeather]
    refine sp_weather C q_tq_rf (by omega) (by omega) (fun M3 h1 h2 h3 h4 => ?_)
    have hin := q_wth_in h3 h4
    have b2 : ∀ i, 0 ≤ M3 (39 + 2) i ∧ M3 (39 + 2) i ≤ 5 := h2.1.2.2.2.2.2.2.1
    have hq3 := hq M3 h1
    by_cases c2 : wt = 0
    · rw [if_pos c2, ← h4, ← F_dig_cong _ hin] at hq3
      simp (disch := omega) only [b_X5_drawn_0, x_loadI_1, y_if_lt_t, y_if_lt_f, b_X5_drawn_4, x_iconst, y_ic_ge_t, y_ic_ge_f, b_X5_drawn_10, x_loadI_2, b_X5_drawn_14, y_ic_le_t, y_ic_le_f, b_X5_drawn_19, x_ret0, b_X5_drawn_22, x_loadR_0, x_loadS_0, y_if_ne_t, y_if_ne_f, b_X5_drawn_31, f_5_4, f_4_0, x_goto, b_X5_drawn_44, b_X5_drawn_54, q_isL_I, q_isL_R, q_isL_S, true_and, and_true, and_self, List.length_nil, List.length_cons, Nat.zero_add, x_K, x_Kn, Int.reduceToNat, Nat.reduceAdd, Nat.reduceMul, Nat.reduceLeDiff, Nat.reduceLT, Nat.zero_le, Int.reduceAdd, Int.reduceSub, Int.reduceMul, Int.reduceNeg, q_add_e, q_sub_e, q_mul_e, q_neg_e, q_upd_s, q_upd_n, zr_shr0, zr_shr1, zr_shr2, zr_shr3, zr_shr4, zr_and, zr_dyn8, zr_or, zr_shl, q_cpy_n, y_cpy26, c_X0_digits, sp_digits]
      exact hq3
    · rw [if_neg c2, ← h4, ← F_cnt_cong _ hin] at hq3
      simp (disch := omega) only [b_X5_drawn_0, x_loadI_1, y_if_lt_t, y_if_lt_f, b_X5_drawn_4, x_iconst, y_ic_ge_t, y_ic_ge_f, b_X5_drawn_10, x_loadI_2, b_X5_drawn_14, y_ic_le_t, y_ic_le_f, b_X5_drawn_19, x_ret0, b_X5_drawn_22, x_loadR_0, x_loadS_0, y_if_ne_t, y_if_ne_f, b_X5_drawn_31, f_5_4, f_4_0, x_goto, b_X5_drawn_44, b_X5_drawn_54, q_isL_I, q_isL_R, q_isL_S, true_and, and_true, and_self, List.length_nil, List.length_cons, Nat.zero_add, x_K, x_Kn, Int.reduceToNat, Nat.reduceAdd, Nat.reduceMul, Nat.reduceLeDiff, Nat.reduceLT, Nat.zero_le, Int.reduceAdd, Int.reduceSub, Int.reduceMul, Int.reduceNeg, q_add_e, q_sub_e, q_mul_e, q_neg_e, q_upd_s, q_upd_n, zr_shr0, zr_shr1, zr_shr2, zr_shr3, zr_shr4, zr_and, zr_dyn8, zr_or, zr_shl, q_cpy_n, y_cpy26, c_X0_inNone, sp_inNone]
      exact hq3
def F_odd (V : Nat → (Nat → Int) → Int) (S : q_M) (seed most : Int) : Nat → Int
  | 0 => 0
  | k + 1 => F_odd V S seed most k + (if F_cnt ((F_wth V S (seed + k) 8).2 4) 5 (S 9 0).toNat ≤ most then 1 else 0)
theorem F_odd_le {V : Nat → (Nat → Int) → Int} {S : q_M} {seed most : Int} : ∀ k : Nat, 0 ≤ F_odd V S seed most k ∧ F_odd V S seed most k ≤ k
  | 0 => by rw [F_odd]; omega
  | k + 1 => by
    have h := F_odd_le (V := V) (S := S) (seed := seed) (most := most) k
    rw [F_odd]
    split <;> omega
def A_odds (V : Nat → (Nat → Int) → Int) (S : q_M) (seed seeds most part : Int) : Int := if (seed < 0 ∨ 100000 ≤ seed ∨ seeds < 1 ∨ 40 < seeds) ∨ (most < 0 ∨ 5 < most ∨ part < 0 ∨ 1 < part) then -4611686018427387904 else F_low (F_odd V S seed most seeds.toNat) seeds part
set_option maxHeartbeats 4000000 in
theorem sp_odds {V : Nat → (Nat → Int) → Int} {d : Nat} {g : q_G} {M : q_M} {ta : Nat} {seed seeds most part : Int} {Q : Option q_V → q_G → q_M → Prop} (C : q_ci V M ta) (hq : ∀ M2 : q_M, q_tq M M2 → Q (some (qL (A_odds V (cW M 11) seed seeds most part))) g M2) : q_S 1 (d + 6) 90 [qR 5 0, qI seed, qI seeds, qI most, qI part] g M Q := by
  have h12 := q_ci_n C
  rw [s_X5_odds]
  unfold A_odds at hq
  by_cases c1 : seed < 0 ∨ 100000 ≤ seed ∨ seeds < 1 ∨ 40 < seeds
  · rw [if_pos (Or.inl c1)] at hq
    rcases (show seed < 0 ∨ 100000 ≤ seed ∨ (0 ≤ seed ∧ seed < 100000 ∧ seeds < 1) ∨ (0 ≤ seed ∧ seed < 100000 ∧ 40 < seeds) by omega) with e | e | e | e
    · simp (disch := omega) only [b_X5_odds_0, x_loadI_1, y_if_lt_t, y_if_lt_f, b_X5_odds_4, x_iconst, y_ic_ge_t, y_ic_ge_f, b_X5_odds_10, x_loadI_2, y_ic_lt_t, y_ic_lt_f, b_X5_odds_15, y_ic_le_t, y_ic_le_f, b_X5_odds_21, x_lconst, x_lret, b_X5_odds_25, x_loadI_3, b_X5_odds_29, y_ic_gt_t, y_ic_gt_f, b_X5_odds_34, x_loadI_4, b_X5_odds_39, b_X5_odds_45, b_X5_odds_49, x_storeI_5, x_storeI_6, x_loadI_6, b_X5_odds_61, x_loadR_0, x_loadS_0, x_iadd, f_5_4, f_4_0, b_X5_odds_83, x_iinc_5, b_X5_odds_86, x_iinc_6, x_goto, b_X5_odds_92, x_loadI_5, q_isL_I, q_isL_R, q_isL_S, true_and, and_true, and_self, List.length_nil, List.length_cons, Nat.zero_add, x_K, x_Kn, Int.reduceToNat, Nat.reduceAdd, Nat.reduceMul, Nat.reduceLeDiff, Nat.reduceLT, Nat.zero_le, Int.reduceAdd, Int.reduceSub, Int.reduceMul, Int.reduceNeg, q_add_e, q_sub_e, q_mul_e, q_neg_e, q_upd_s, q_upd_n, zr_shr0, zr_shr1, zr_shr2, zr_shr3, zr_shr4, zr_and, zr_dyn8, zr_or, zr_shl, q_cpy_n, y_cpy26]
      exact hq M q_tq_rf
    · simp (disch := omega) only [b_X5_odds_0, x_loadI_1, y_if_lt_t, y_if_lt_f, b_X5_odds_4, x_iconst, y_ic_ge_t, y_ic_ge_f, b_X5_odds_10, x_loadI_2, y_ic_lt_t, y_ic_lt_f, b_X5_odds_15, y_ic_le_t, y_ic_le_f, b_X5_odds_21, x_lconst, x_lret, b_X5_odds_25, x_loadI_3, b_X5_odds_29, y_ic_gt_t, y_ic_gt_f, b_X5_odds_34, x_loadI_4, b_X5_odds_39, b_X5_odds_45, b_X5_odds_49, x_storeI_5, x_storeI_6, x_loadI_6, b_X5_odds_61, x_loadR_0, x_loadS_0, x_iadd, f_5_4, f_4_0, b_X5_odds_83, x_iinc_5, b_X5_odds_86, x_iinc_6, x_goto, b_X5_odds_92, x_loadI_5, q_isL_I, q_isL_R, q_isL_S, true_and, and_true, and_self, List.length_nil, List.length_cons, Nat.zero_add, x_K, x_Kn, Int.reduceToNat, Nat.reduceAdd, Nat.reduceMul, Nat.reduceLeDiff, Nat.reduceLT, Nat.zero_le, Int.reduceAdd, Int.reduceSub, Int.reduceMul, Int.reduceNeg, q_add_e, q_sub_e, q_mul_e, q_neg_e, q_upd_s, q_upd_n, zr_shr0, zr_shr1, zr_shr2, zr_shr3, zr_shr4, zr_and, zr_dyn8, zr_or, zr_shl, q_cpy_n, y_cpy26]
      exact hq M q_tq_rf
    · simp (disch := omega) only [b_X5_odds_0, x_loadI_1, y_if_lt_t, y_if_lt_f, b_X5_odds_4, x_iconst, y_ic_ge_t, y_ic_ge_f, b_X5_odds_10, x_loadI_2, y_ic_lt_t, y_ic_lt_f, b_X5_odds_15, y_ic_le_t, y_ic_le_f, b_X5_odds_21, x_lconst, x_lret, b_X5_odds_25, x_loadI_3, b_X5_odds_29, y_ic_gt_t, y_ic_gt_f, b_X5_odds_34, x_loadI_4, b_X5_odds_39, b_X5_odds_45, b_X5_odds_49, x_storeI_5, x_storeI_6, x_loadI_6, b_X5_odds_61, x_loadR_0, x_loadS_0, x_iadd, f_5_4, f_4_0, b_X5_odds_83, x_iinc_5, b_X5_odds_86, x_iinc_6, x_goto, b_X5_odds_92, x_loadI_5, q_isL_I, q_isL_R, q_isL_S, true_and, and_true, and_self, List.length_nil, List.length_cons, Nat.zero_add, x_K, x_Kn, Int.reduceToNat, Nat.reduceAdd, Nat.reduceMul, Nat.reduceLeDiff, Nat.reduceLT, Nat.zero_le, Int.reduceAdd, Int.reduceSub, Int.reduceMul, Int.reduceNeg, q_add_e, q_sub_e, q_mul_e, q_neg_e, q_upd_s, q_upd_n, zr_shr0, zr_shr1, zr_shr2, zr_shr3, zr_shr4, zr_and, zr_dyn8, zr_or, zr_shl, q_cpy_n, y_cpy26]
      exact hq M q_tq_rf
    · simp (disch := omega) only [b_X5_odds_0, x_loadI_1, y_if_lt_t, y_if_lt_f, b_X5_odds_4, x_iconst, y_ic_ge_t, y_ic_ge_f, b_X5_odds_10, x_loadI_2, y_ic_lt_t, y_ic_lt_f, b_X5_odds_15, y_ic_le_t, y_ic_le_f, b_X5_odds_21, x_lconst, x_lret, b_X5_odds_25, x_loadI_3, b_X5_odds_29, y_ic_gt_t, y_ic_gt_f, b_X5_odds_34, x_loadI_4, b_X5_odds_39, b_X5_odds_45, b_X5_odds_49, x_storeI_5, x_storeI_6, x_loadI_6, b_X5_odds_61, x_loadR_0, x_loadS_0, x_iadd, f_5_4, f_4_0, b_X5_odds_83, x_iinc_5, b_X5_odds_86, x_iinc_6, x_goto, b_X5_odds_92, x_loadI_5, q_isL_I, q_isL_R, q_isL_S, true_and, and_true, and_self, List.length_nil, List.length_cons, Nat.zero_add, x_K, x_Kn, Int.reduceToNat, Nat.reduceAdd, Nat.reduceMul, Nat.reduceLeDiff, Nat.reduceLT, Nat.zero_le, Int.reduceAdd, Int.reduceSub, Int.reduceMul, Int.reduceNeg, q_add_e, q_sub_e, q_mul_e, q_neg_e, q_upd_s, q_upd_n, zr_shr0, zr_shr1, zr_shr2, zr_shr3, zr_shr4, zr_and, zr_dyn8, zr_or, zr_shl, q_cpy_n, y_cpy26]
      exact hq M q_tq_rf
  · by_cases c2 : most < 0 ∨ 5 < most ∨ part < 0 ∨ 1 < part
    · rw [if_pos (Or.inr c2)] at hq
      rcases (show most < 0 ∨ 5 < most ∨ (0 ≤ most ∧ most ≤ 5 ∧ part < 0) ∨ (0 ≤ most ∧ most ≤ 5 ∧ 1 < part) by omega) with e | e | e | e
      · simp (disch := omega) only [b_X5_odds_0, x_loadI_1, y_if_lt_t, y_if_lt_f, b_X5_odds_4, x_iconst, y_ic_ge_t, y_ic_ge_f, b_X5_odds_10, x_loadI_2, y_ic_lt_t, y_ic_lt_f, b_X5_odds_15, y_ic_le_t, y_ic_le_f, b_X5_odds_21, x_lconst, x_lret, b_X5_odds_25, x_loadI_3, b_X5_odds_29, y_ic_gt_t, y_ic_gt_f, b_X5_odds_34, x_loadI_4, b_X5_odds_39, b_X5_odds_45, b_X5_odds_49, x_storeI_5, x_storeI_6, x_loadI_6, b_X5_odds_61, x_loadR_0, x_loadS_0, x_iadd, f_5_4, f_4_0, b_X5_odds_83, x_iinc_5, b_X5_odds_86, x_iinc_6, x_goto, b_X5_odds_92, x_loadI_5, q_isL_I, q_isL_R, q_isL_S, true_and, and_true, and_self, List.length_nil, List.length_cons, Nat.zero_add, x_K, x_Kn, Int.reduceToNat, Nat.reduceAdd, Nat.reduceMul, Nat.reduceLeDiff, Nat.reduceLT, Nat.zero_le, Int.reduceAdd, Int.reduceSub, Int.reduceMul, Int.reduceNeg, q_add_e, q_sub_e, q_mul_e, q_neg_e, q_upd_s, q_upd_n, zr_shr0, zr_shr1, zr_shr2, zr_shr3, zr_shr4, zr_and, zr_dyn8, zr_or, zr_shl, q_cpy_n, y_cpy26]
        exact hq M q_tq_rf
      · simp (disch := omega) only [b_X5_odds_0, x_loadI_1, y_if_lt_t, y_if_lt_f, b_X5_odds_4, x_iconst, y_ic_ge_t, y_ic_ge_f, b_X5_odds_10, x_loadI_2, y_ic_lt_t, y_ic_lt_f, b_X5_odds_15, y_ic_le_t, y_ic_le_f, b_X5_odds_21, x_lconst, x_lret, b_X5_odds_25, x_loadI_3, b_X5_odds_29, y_ic_gt_t, y_ic_gt_f, b_X5_odds_34, x_loadI_4, b_X5_odds_39, b_X5_odds_45, b_X5_odds_49, x_storeI_5, x_storeI_6, x_loadI_6, b_X5_odds_61, x_loadR_0, x_loadS_0, x_iadd, f_5_4, f_4_0, b_X5_odds_83, x_iinc_5, b_X5_odds_86, x_iinc_6, x_goto, b_X5_odds_92, x_loadI_5, q_isL_I, q_isL_R, q_isL_S, true_and, and_true, and_self, List.length_nil, List.length_cons, Nat.zero_add, x_K, x_Kn, Int.reduceToNat, Nat.reduceAdd, Nat.reduceMul, Nat.reduceLeDiff, Nat.reduceLT, Nat.zero_le, Int.reduceAdd, Int.reduceSub, Int.reduceMul, Int.reduceNeg, q_add_e, q_sub_e, q_mul_e, q_neg_e, q_upd_s, q_upd_n, zr_shr0, zr_shr1, zr_shr2, zr_shr3, zr_shr4, zr_and, zr_dyn8, zr_or, zr_shl, q_cpy_n, y_cpy26]
        exact hq M q_tq_rf
      · simp (disch := omega) only [b_X5_odds_0, x_loadI_1, y_if_lt_t, y_if_lt_f, b_X5_odds_4, x_iconst, y_ic_ge_t, y_ic_ge_f, b_X5_odds_10, x_loadI_2, y_ic_lt_t, y_ic_lt_f, b_X5_odds_15, y_ic_le_t, y_ic_le_f, b_X5_odds_21, x_lconst, x_lret, b_X5_odds_25, x_loadI_3, b_X5_odds_29, y_ic_gt_t, y_ic_gt_f, b_X5_odds_34, x_loadI_4, b_X5_odds_39, b_X5_odds_45, b_X5_odds_49, x_storeI_5, x_storeI_6, x_loadI_6, b_X5_odds_61, x_loadR_0, x_loadS_0, x_iadd, f_5_4, f_4_0, b_X5_odds_83, x_iinc_5, b_X5_odds_86, x_iinc_6, x_goto, b_X5_odds_92, x_loadI_5, q_isL_I, q_isL_R, q_isL_S, true_and, and_true, and_self, List.length_nil, List.length_cons, Nat.zero_add, x_K, x_Kn, Int.reduceToNat, Nat.reduceAdd, Nat.reduceMul, Nat.reduceLeDiff, Nat.reduceLT, Nat.zero_le, Int.reduceAdd, Int.reduceSub, Int.reduceMul, Int.reduceNeg, q_add_e, q_sub_e, q_mul_e, q_neg_e, q_upd_s, q_upd_n, zr_shr0, zr_shr1, zr_shr2, zr_shr3, zr_shr4, zr_and, zr_dyn8, zr_or, zr_shl, q_cpy_n, y_cpy26]
        exact hq M q_tq_rf
      · simp (disch := omega) only [b_X5_odds_0, x_loadI_1, y_if_lt_t, y_if_lt_f, b_X5_odds_4, x_iconst, y_ic_ge_t, y_ic_ge_f, b_X5_odds_10, x_loadI_2, y_ic_lt_t, y_ic_lt_f, b_X5_odds_15, y_ic_le_t, y_ic_le_f, b_X5_odds_21, x_lconst, x_lret, b_X5_odds_25, x_loadI_3, b_X5_odds_29, y_ic_gt_t, y_ic_gt_f, b_X5_odds_34, x_loadI_4, b_X5_odds_39, b_X5_odds_45, b_X5_odds_49, x_storeI_5, x_storeI_6, x_loadI_6, b_X5_odds_61, x_loadR_0, x_loadS_0, x_iadd, f_5_4, f_4_0, b_X5_odds_83, x_iinc_5, b_X5_odds_86, x_iinc_6, x_goto, b_X5_odds_92, x_loadI_5, q_isL_I, q_isL_R, q_isL_S, true_and, and_true, and_self, List.length_nil, List.length_cons, Nat.zero_add, x_K, x_Kn, Int.reduceToNat, Nat.reduceAdd, Nat.reduceMul, Nat.reduceLeDiff, Nat.reduceLT, Nat.zero_le, Int.reduceAdd, Int.reduceSub, Int.reduceMul, Int.reduceNeg, q_add_e, q_sub_e, q_mul_e, q_neg_e, q_upd_s, q_upd_n, zr_shr0, zr_shr1, zr_shr2, zr_shr3, zr_shr4, zr_and, zr_dyn8, zr_or, zr_shl, q_cpy_n, y_cpy26]
        exact hq M q_tq_rf
    · rw [if_neg (fun z => z.elim c1 c2)] at hq
      have hS9 : cW M 11 9 0 = M 12 5 := rfl
      have loop : ∀ j k : Nat, (k : Int) + j = seeds → ∀ M1 : q_M, q_tq M M1 → q_T 1 (d + 6) qP_X5_odds 55 [] [qR 5 0, qI seed, qI seeds, qI most, qI part, qI (F_odd V (cW M 11) seed most k), qI k] [] g M1 Q := by
        intro j
        induction j with
        | zero =>
          intro k hk M1 hf
          have hb := F_odd_le (V := V) (S := cW M 11) (seed := seed) (most := most) k
          have e : seeds.toNat = k := by omega
          rw [e] at hq
          have low : ∀ (nx : Nat) (ops : List Instr) (ls st : List q_V), q_T 1 (d + 6) qP_X5_odds nx ops ls (qL (F_low (F_odd V (cW M 11) seed most k) seeds part) :: st) g M1 Q → q_S 1 (d + 5) 108 [qI (F_odd V (cW M 11) seed most k), qI seeds, qI part] g M1 (q_K 1 (d + 6) qP_X5_odds nx ops ls st Q) := fun nx ops ls st h => sp_low (by omega) (by omega) (by omega) (by omega) h
          rw [b_X5_odds_55]
          simp (disch := omega) only [b_X5_odds_0, x_loadI_1, y_if_lt_t, y_if_lt_f, b_X5_odds_4, x_iconst, y_ic_ge_t, y_ic_ge_f, b_X5_odds_10, x_loadI_2, y_ic_lt_t, y_ic_lt_f, b_X5_odds_15, y_ic_le_t, y_ic_le_f, b_X5_odds_21, x_lconst, x_lret, b_X5_odds_25, x_loadI_3, b_X5_odds_29, y_ic_gt_t, y_ic_gt_f, b_X5_odds_34, x_loadI_4, b_X5_odds_39, b_X5_odds_45, b_X5_odds_49, x_storeI_5, x_storeI_6, x_loadI_6, b_X5_odds_61, x_loadR_0, x_loadS_0, x_iadd, f_5_4, f_4_0, b_X5_odds_83, x_iinc_5, b_X5_odds_86, x_iinc_6, x_goto, b_X5_odds_92, x_loadI_5, q_isL_I, q_isL_R, q_isL_S, true_and, and_true, and_self, List.length_nil, List.length_cons, Nat.zero_add, x_K, x_Kn, Int.reduceToNat, Nat.reduceAdd, Nat.reduceMul, Nat.reduceLeDiff, Nat.reduceLT, Nat.zero_le, Int.reduceAdd, Int.reduceSub, Int.reduceMul, Int.reduceNeg, q_add_e, q_sub_e, q_mul_e, q_neg_e, q_upd_s, q_upd_n, zr_shr0, zr_shr1, zr_shr2, zr_shr3, zr_shr4, zr_and, zr_dyn8, zr_or, zr_shl, q_cpy_n, y_cpy26, c_X5_inLowestTerms]
          refine low _ _ _ _ ?_
          simp (disch := omega) only [b_X5_odds_0, x_loadI_1, y_if_lt_t, y_if_lt_f, b_X5_odds_4, x_iconst, y_ic_ge_t, y_ic_ge_f, b_X5_odds_10, x_loadI_2, y_ic_lt_t, y_ic_lt_f, b_X5_odds_15, y_ic_le_t, y_ic_le_f, b_X5_odds_21, x_lconst, x_lret, b_X5_odds_25, x_loadI_3, b_X5_odds_29, y_ic_gt_t, y_ic_gt_f, b_X5_odds_34, x_loadI_4, b_X5_odds_39, b_X5_odds_45, b_X5_odds_49, x_storeI_5, x_storeI_6, x_loadI_6, b_X5_odds_61, x_loadR_0, x_loadS_0, x_iadd, f_5_4, f_4_0, b_X5_odds_83, x_iinc_5, b_X5_odds_86, x_iinc_6, x_goto, b_X5_odds_92, x_loadI_5, q_isL_I, q_isL_R, q_isL_S, true_and, and_true, and_self, List.length_nil, List.length_cons, Nat.zero_add, x_K, x_Kn, Int.reduceToNat, Nat.reduceAdd, Nat.reduceMul, Nat.reduceLeDiff, Nat.reduceLT, Nat.zero_le, Int.reduceAdd, Int.reduceSub, Int.reduceMul, Int.reduceNeg, q_add_e, q_sub_e, q_mul_e, q_neg_e, q_upd_s, q_upd_n, zr_shr0, zr_shr1, zr_shr2, zr_shr3, zr_shr4, zr_and, zr_dyn8, zr_or, zr_shl, q_cpy_n, y_cpy26]
          exact hq M1 hf
        | succ j ih =>
          intro k hk M1 hf
          have hb := F_odd_le (V := V) (S := cW M 11) (seed := seed) (most := most) k
          have ih2 := ih (k + 1) (by omega)
          rw [F_odd, hS9] at ih2
          rw [b_X5_odds_55]
          simp (disch := omega) only [b_X5_odds_0, x_loadI_1, y_if_lt_t, y_if_lt_f, b_X5_odds_4, x_iconst, y_ic_ge_t, y_ic_ge_f, b_X5_odds_10, x_loadI_2, y_ic_lt_t, y_ic_lt_f, b_X5_odds_15, y_ic_le_t, y_ic_le_f, b_X5_odds_21, x_lconst, x_lret, b_X5_odds_25, x_loadI_3, b_X5_odds_29, y_ic_gt_t, y_ic_gt_f, b_X5_odds_34, x_loadI_4, b_X5_odds_39, b_X5_odds_45, b_X5_odds_49, x_storeI_5, x_storeI_6, x_loadI_6, b_X5_odds_61, x_loadR_0, x_loadS_0, x_iadd, f_5_4, f_4_0, b_X5_odds_83, x_iinc_5, b_X5_odds_86, x_iinc_6, x_goto, b_X5_odds_92, x_loadI_5, q_isL_I, q_isL_R, q_isL_S, true_and, and_true, and_self, List.length_nil, List.length_cons, Nat.zero_add, x_K, x_Kn, Int.reduceToNat, Nat.reduceAdd, Nat.reduceMul, Nat.reduceLeDiff, Nat.reduceLT, Nat.zero_le, Int.reduceAdd, Int.reduceSub, Int.reduceMul, Int.reduceNeg, q_add_e, q_sub_e, q_mul_e, q_neg_e, q_upd_s, q_upd_n, zr_shr0, zr_shr1, zr_shr2, zr_shr3, zr_shr4, zr_and, zr_dyn8, zr_or, zr_shl, q_cpy_n, y_cpy26, c_X5_passWeather]
          refine sp_weather C hf (by omega) (by omega) (fun M3 h1 h2 h3 h4 => ?_)
          have hin := q_wth_in h3 h4
          have b2 : ∀ i, 0 ≤ M3 (39 + 2) i ∧ M3 (39 + 2) i ≤ 5 := h2.1.2.2.2.2.2.2.1
          rw [← h4, ← F_cnt_cong _ hin] at ih2
          by_cases c3 : F_cnt (M3 (39 + 2)) 5 (M3 39 5).toNat ≤ most
          · rw [if_pos c3] at ih2
            simp (disch := omega) only [b_X5_odds_0, x_loadI_1, y_if_lt_t, y_if_lt_f, b_X5_odds_4, x_iconst, y_ic_ge_t, y_ic_ge_f, b_X5_odds_10, x_loadI_2, y_ic_lt_t, y_ic_lt_f, b_X5_odds_15, y_ic_le_t, y_ic_le_f, b_X5_odds_21, x_lconst, x_lret, b_X5_odds_25, x_loadI_3, b_X5_odds_29, y_ic_gt_t, y_ic_gt_f, b_X5_odds_34, x_loadI_4, b_X5_odds_39, b_X5_odds_45, b_X5_odds_49, x_storeI_5, x_storeI_6, x_loadI_6, b_X5_odds_61, x_loadR_0, x_loadS_0, x_iadd, f_5_4, f_4_0, b_X5_odds_83, x_iinc_5, b_X5_odds_86, x_iinc_6, x_goto, b_X5_odds_92, x_loadI_5, q_isL_I, q_isL_R, q_isL_S, true_and, and_true, and_self, List.length_nil, List.length_cons, Nat.zero_add, x_K, x_Kn, Int.reduceToNat, Nat.reduceAdd, Nat.reduceMul, Nat.reduceLeDiff, Nat.reduceLT, Nat.zero_le, Int.reduceAdd, Int.reduceSub, Int.reduceMul, Int.reduceNeg, q_add_e, q_sub_e, q_mul_e, q_neg_e, q_upd_s, q_upd_n, zr_shr0, zr_shr1, zr_shr2, zr_shr3, zr_shr4, zr_and, zr_dyn8, zr_or, zr_shl, q_cpy_n, y_cpy26, c_X0_inNone, sp_inNone]
            exact ih2 M3 h1
          · rw [if_neg c3, Int.add_zero] at ih2
            have c4 : most < F_cnt (M3 41) 5 (M3 39 5).toNat := Int.not_le.mp c3
            simp (disch := omega) only [b_X5_odds_0, x_loadI_1, y_if_lt_t, y_if_lt_f, b_X5_odds_4, x_iconst, y_ic_ge_t, y_ic_ge_f, b_X5_odds_10, x_loadI_2, y_ic_lt_t, y_ic_lt_f, b_X5_odds_15, y_ic_le_t, y_ic_le_f, b_X5_odds_21, x_lconst, x_lret, b_X5_odds_25, x_loadI_3, b_X5_odds_29, y_ic_gt_t, y_ic_gt_f, b_X5_odds_34, x_loadI_4, b_X5_odds_39, b_X5_odds_45, b_X5_odds_49, x_storeI_5, x_storeI_6, x_loadI_6, b_X5_odds_61, x_loadR_0, x_loadS_0, x_iadd, f_5_4, f_4_0, b_X5_odds_83, x_iinc_5, b_X5_odds_86, x_iinc_6, x_goto, b_X5_odds_92, x_loadI_5, q_isL_I, q_isL_R, q_isL_S, true_and, and_true, and_self, List.length_nil, List.length_cons, Nat.zero_add, x_K, x_Kn, Int.reduceToNat, Nat.reduceAdd, Nat.reduceMul, Nat.reduceLeDiff, Nat.reduceLT, Nat.zero_le, Int.reduceAdd, Int.reduceSub, Int.reduceMul, Int.reduceNeg, q_add_e, q_sub_e, q_mul_e, q_neg_e, q_upd_s, q_upd_n, zr_shr0, zr_shr1, zr_shr2, zr_shr3, zr_shr4, zr_and, zr_dyn8, zr_or, zr_shl, q_cpy_n, y_cpy26, c_X0_inNone, sp_inNone]
            exact ih2 M3 h1
      simp (disch := omega) only [b_X5_odds_0, x_loadI_1, y_if_lt_t, y_if_lt_f, b_X5_odds_4, x_iconst, y_ic_ge_t, y_ic_ge_f, b_X5_odds_10, x_loadI_2, y_ic_lt_t, y_ic_lt_f, b_X5_odds_15, y_ic_le_t, y_ic_le_f, b_X5_odds_21, x_lconst, x_lret, b_X5_odds_25, x_loadI_3, b_X5_odds_29, y_ic_gt_t, y_ic_gt_f, b_X5_odds_34, x_loadI_4, b_X5_odds_39, b_X5_odds_45, b_X5_odds_49, x_storeI_5, x_storeI_6, x_loadI_6, b_X5_odds_61, x_loadR_0, x_loadS_0, x_iadd, f_5_4, f_4_0, b_X5_odds_83, x_iinc_5, b_X5_odds_86, x_iinc_6, x_goto, b_X5_odds_92, x_loadI_5, q_isL_I, q_isL_R, q_isL_S, true_and, and_true, and_self, List.length_nil, List.length_cons, Nat.zero_add, x_K, x_Kn, Int.reduceToNat, Nat.reduceAdd, Nat.reduceMul, Nat.reduceLeDiff, Nat.reduceLT, Nat.zero_le, Int.reduceAdd, Int.reduceSub, Int.reduceMul, Int.reduceNeg, q_add_e, q_sub_e, q_mul_e, q_neg_e, q_upd_s, q_upd_n, zr_shr0, zr_shr1, zr_shr2, zr_shr3, zr_shr4, zr_and, zr_dyn8, zr_or, zr_shl, q_cpy_n, y_cpy26]
      exact loop seeds.toNat 0 (by omega) M q_tq_rf
