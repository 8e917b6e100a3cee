/-! THE CLASS'S ENTRIES: court, answered of the thought -/
set_option maxHeartbeats 4000000 in
theorem sp_court {V : Nat → (Nat → Int) → Int} {d : Nat} {g : q_G} {M : q_M} {ta : Nat} {wt : Int} {Q : Option q_V → q_G → q_M → Prop} (ht : ta = 8 ∨ 125 ≤ ta) (hw : q_wl V M 11 ta) (hr : q_rg5 M 38) (hz : ∀ p, p < 5 → M (38 + 1 + 3 + (1 + p)) 5 = 0) (hz2 : ∀ p, p < 5 → M (38 + 1 + 10 + (1 + p)) 5 = 0) (hwt : 0 ≤ wt ∧ wt ≤ 2) (hq : ∀ M2 M3 : q_M, q_th ta M M2 → cW M2 38 = cW M 11 → (∀ p b, p < (M2 (38 + 1) 5).toNat → b < 5 → q_tld V 38 (cW M 11) M2 p b) → M3 = q_cM M2 39 (F_turn (q_Lk M2 39) (q_Wn M2 39) (M2 (39 + 1)) (M2 39 5).toNat 1000 (F_fr (M2 (39 + 2), M2 (39 + 17)))) → Q (some (qI (q_crA M3 39 wt))) g M3) : q_S 1 (d + 5) 78 [qR 5 0, qI wt] g M Q := by
  have hla := hw.2.2.2.1
  have hta := hw.2.2.2.2.1
  have copy : ∀ (nx : Nat) (ops : List Instr) (ls st : List q_V), (∀ M2 : q_M, q_cpd 38 11 M M2 → q_T 1 (d + 5) qP_X5_court nx ops ls st g M2 Q) → q_S 1 (d + 4) 49 [qR 4 38, qR 4 11] g M (q_K 1 (d + 5) qP_X5_court nx ops ls st Q) := fun nx ops ls st h => sp_copyFrom (by omega) hla hta h
  rw [s_X5_court]
  simp (disch := omega) only [b_X5_court_0, x_loadI_1, y_if_lt_t, y_if_lt_f, b_X5_court_4, x_iconst, y_ic_le_t, y_ic_le_f, b_X5_court_9, x_ret0, b_X5_court_12, x_loadR_0, x_loadS_0, f_5_4, f_5_3, f_4_0, tw_7_0, tw_7_1, tw_7_o, b_X5_court_68, b_X5_court_79, b_X5_court_90, q_isL_I, q_isL_R, q_isL_S, true_and, and_true, and_self, List.length_nil, List.length_cons, Nat.zero_add, x_K, x_Kn, Int.reduceToNat, Nat.reduceAdd, Nat.reduceMul, Nat.reduceLeDiff, Nat.reduceLT, Nat.zero_le, Int.reduceAdd, Int.reduceSub, Int.reduceMul, Int.reduceNeg, q_add_e, q_sub_e, q_mul_e, q_neg_e, q_upd_s, q_upd_n, zr_shr0, zr_shr1, zr_shr2, zr_shr3, zr_shr4, zr_and, zr_dyn8, zr_or, zr_shl, q_cpy_n, y_cpy26, c_X4_copyFrom]
  refine copy _ _ _ _ (fun M1 h1 => ?_)
  obtain ⟨t1, t2, t3⟩ := q_think ht hw hr h1
  have z1 : ∀ p, p < 5 → M1 (38 + 1 + 3 + (1 + p)) 5 = 0 := fun p hp => (h1.2.2.2.2 _ 5 (by omega)).trans (hz p hp)
  have z2 : ∀ p, p < 5 → M1 (38 + 1 + 10 + (1 + p)) 5 = 0 := fun p hp => (h1.2.2.2.2 _ 5 (by omega)).trans (hz2 p hp)
  simp (disch := omega) only [b_X5_court_0, x_loadI_1, y_if_lt_t, y_if_lt_f, b_X5_court_4, x_iconst, y_ic_le_t, y_ic_le_f, b_X5_court_9, x_ret0, b_X5_court_12, x_loadR_0, x_loadS_0, f_5_4, f_5_3, f_4_0, tw_7_0, tw_7_1, tw_7_o, b_X5_court_68, b_X5_court_79, b_X5_court_90, q_isL_I, q_isL_R, q_isL_S, true_and, and_true, and_self, List.length_nil, List.length_cons, Nat.zero_add, x_K, x_Kn, Int.reduceToNat, Nat.reduceAdd, Nat.reduceMul, Nat.reduceLeDiff, Nat.reduceLT, Nat.zero_le, Int.reduceAdd, Int.reduceSub, Int.reduceMul, Int.reduceNeg, q_add_e, q_sub_e, q_mul_e, q_neg_e, q_upd_s, q_upd_n, zr_shr0, zr_shr1, zr_shr2, zr_shr3, zr_shr4, zr_and, zr_dyn8, zr_or, zr_shl, q_cpy_n, y_cpy26, c_X4_tellAll]
  refine sp_tellAll t1 (fun M2 h2 h3 => ?_)
  have w2 := q_tel_wl h2 t1
  have c2 := q_tel_cW h2 t1.2.2.2.2.2
  have e5 : M2 (38 + 1) 5 = M1 (38 + 1) 5 := h2 _ 5 (by omega) (by omega) (by omega)
  have n0 : 0 ≤ M2 39 5 := w2.1.1.1
  have n5 : M2 39 5 ≤ 5 := w2.1.1.2
  have hin : ∀ i, 0 ≤ M2 (39 + 2) i ∧ M2 (39 + 2) i ≤ 5 := w2.1.2.2.2.2.2.2.1
  have bL := q_tld_L h2 t1.1.1.2 t1.2.2.2.2.2 z1 h3
  have bW := q_tld_W t1 h2 z2 h3
  have f2 : q_th ta M M2 := q_th_tr (q_th_cpd h1) (fun a i q1 q2 => h2 a i (by omega) q2 (fun _ => by omega))
  have a := hq M2 _ f2 (c2.trans t2) (fun p b q1 q2 => by rw [← t2]; exact h3 p b (by rw [← e5]; exact q1) q2) rfl
  have hfb := F_turn_b (L := q_Lk M2 39) (W := q_Wn M2 39) (R := M2 (39 + 1)) (n := (M2 39 5).toNat) 1000 _ (F_fr_b (x := (M2 (39 + 2), M2 (39 + 17))) hin)
  simp (disch := omega) only [b_X5_court_0, x_loadI_1, y_if_lt_t, y_if_lt_f, b_X5_court_4, x_iconst, y_ic_le_t, y_ic_le_f, b_X5_court_9, x_ret0, b_X5_court_12, x_loadR_0, x_loadS_0, f_5_4, f_5_3, f_4_0, tw_7_0, tw_7_1, tw_7_o, b_X5_court_68, b_X5_court_79, b_X5_court_90, q_isL_I, q_isL_R, q_isL_S, true_and, and_true, and_self, List.length_nil, List.length_cons, Nat.zero_add, x_K, x_Kn, Int.reduceToNat, Nat.reduceAdd, Nat.reduceMul, Nat.reduceLeDiff, Nat.reduceLT, Nat.zero_le, Int.reduceAdd, Int.reduceSub, Int.reduceMul, Int.reduceNeg, q_add_e, q_sub_e, q_mul_e, q_neg_e, q_upd_s, q_upd_n, zr_shr0, zr_shr1, zr_shr2, zr_shr3, zr_shr4, zr_and, zr_dyn8, zr_or, zr_shl, q_cpy_n, y_cpy26, c_X0_askInTurn]
  refine sp_turnS (c := 39) n0 n5 (fun p hp => (h2 _ 5 (by omega) (by omega) (by omega)).trans (z1 p hp)) ?_
  generalize F_turn (q_Lk M2 39) (q_Wn M2 39) (M2 (39 + 1)) (M2 39 5).toNat 1000 (F_fr (M2 (39 + 2), M2 (39 + 17))) = X at a hfb ⊢
  have m5 : q_cM M2 39 X 39 5 = M2 39 5 := q_cM_n (by omega) (by omega)
  have min5 : ∀ i, 0 ≤ q_cM M2 39 X (39 + 2) i ∧ q_cM M2 39 X (39 + 2) i ≤ 5 := fun i => by rw [q_cM_f]; exact hfb i
  have mL : ∀ p b, p < (q_cM M2 39 X 39 5).toNat → b < 6 → -1000 ≤ q_cM M2 39 X (39 + 3 + (1 + p)) b ∧ q_cM M2 39 X (39 + 3 + (1 + p)) b ≤ 1000 := fun p b q1 q2 => by
    rw [m5] at q1
    rw [q_cM_n (by omega) (by omega)]
    exact bL p b q1 q2
  have mW : ∀ p b, p < (q_cM M2 39 X 39 5).toNat → b < 6 → -1000 ≤ q_cM M2 39 X (39 + 10 + (1 + p)) b ∧ q_cM M2 39 X (39 + 10 + (1 + p)) b ≤ 1000 := fun p b q1 q2 => by
    rw [m5] at q1
    rw [q_cM_n (by omega) (by omega)]
    exact bW p b q1 q2
  unfold q_crA at a
  rcases (show wt = 0 ∨ wt = 1 ∨ wt = 2 by omega) with k | k | k
  · subst k
    rw [if_pos rfl] at a
    simp (disch := omega) only [b_X5_court_0, x_loadI_1, y_if_lt_t, y_if_lt_f, b_X5_court_4, x_iconst, y_ic_le_t, y_ic_le_f, b_X5_court_9, x_ret0, b_X5_court_12, x_loadR_0, x_loadS_0, f_5_4, f_5_3, f_4_0, tw_7_0, tw_7_1, tw_7_o, b_X5_court_68, b_X5_court_79, b_X5_court_90, q_isL_I, q_isL_R, q_isL_S, true_and, and_true, and_self, List.length_nil, List.length_cons, Nat.zero_add, x_K, x_Kn, Int.reduceToNat, Nat.reduceAdd, Nat.reduceMul, Nat.reduceLeDiff, Nat.reduceLT, Nat.zero_le, Int.reduceAdd, Int.reduceSub, Int.reduceMul, Int.reduceNeg, q_add_e, q_sub_e, q_mul_e, q_neg_e, q_upd_s, q_upd_n, zr_shr0, zr_shr1, zr_shr2, zr_shr3, zr_shr4, zr_and, zr_dyn8, zr_or, zr_shl, q_cpy_n, y_cpy26, c_X0_digits]
    rw [sp_digits (by rw [m5]; exact n0) (by rw [m5]; exact n5) min5]
    simp (disch := omega) only [b_X5_court_0, x_loadI_1, y_if_lt_t, y_if_lt_f, b_X5_court_4, x_iconst, y_ic_le_t, y_ic_le_f, b_X5_court_9, x_ret0, b_X5_court_12, x_loadR_0, x_loadS_0, f_5_4, f_5_3, f_4_0, tw_7_0, tw_7_1, tw_7_o, b_X5_court_68, b_X5_court_79, b_X5_court_90, q_isL_I, q_isL_R, q_isL_S, true_and, and_true, and_self, List.length_nil, List.length_cons, Nat.zero_add, x_K, x_Kn, Int.reduceToNat, Nat.reduceAdd, Nat.reduceMul, Nat.reduceLeDiff, Nat.reduceLT, Nat.zero_le, Int.reduceAdd, Int.reduceSub, Int.reduceMul, Int.reduceNeg, q_add_e, q_sub_e, q_mul_e, q_neg_e, q_upd_s, q_upd_n, zr_shr0, zr_shr1, zr_shr2, zr_shr3, zr_shr4, zr_and, zr_dyn8, zr_or, zr_shl, q_cpy_n, y_cpy26]
    exact a
  · subst k
    rw [if_neg (by decide), if_pos rfl] at a
    simp (disch := omega) only [b_X5_court_0, x_loadI_1, y_if_lt_t, y_if_lt_f, b_X5_court_4, x_iconst, y_ic_le_t, y_ic_le_f, b_X5_court_9, x_ret0, b_X5_court_12, x_loadR_0, x_loadS_0, f_5_4, f_5_3, f_4_0, tw_7_0, tw_7_1, tw_7_o, b_X5_court_68, b_X5_court_79, b_X5_court_90, q_isL_I, q_isL_R, q_isL_S, true_and, and_true, and_self, List.length_nil, List.length_cons, Nat.zero_add, x_K, x_Kn, Int.reduceToNat, Nat.reduceAdd, Nat.reduceMul, Nat.reduceLeDiff, Nat.reduceLT, Nat.zero_le, Int.reduceAdd, Int.reduceSub, Int.reduceMul, Int.reduceNeg, q_add_e, q_sub_e, q_mul_e, q_neg_e, q_upd_s, q_upd_n, zr_shr0, zr_shr1, zr_shr2, zr_shr3, zr_shr4, zr_and, zr_dyn8, zr_or, zr_shl, q_cpy_n, y_cpy26, c_X0_liked]
    rw [sp_liked2 (by rw [m5]; exact n0) (by rw [m5]; exact n5) min5 mL]
    simp (disch := omega) only [b_X5_court_0, x_loadI_1, y_if_lt_t, y_if_lt_f, b_X5_court_4, x_iconst, y_ic_le_t, y_ic_le_f, b_X5_court_9, x_ret0, b_X5_court_12, x_loadR_0, x_loadS_0, f_5_4, f_5_3, f_4_0, tw_7_0, tw_7_1, tw_7_o, b_X5_court_68, b_X5_court_79, b_X5_court_90, q_isL_I, q_isL_R, q_isL_S, true_and, and_true, and_self, List.length_nil, List.length_cons, Nat.zero_add, x_K, x_Kn, Int.reduceToNat, Nat.reduceAdd, Nat.reduceMul, Nat.reduceLeDiff, Nat.reduceLT, Nat.zero_le, Int.reduceAdd, Int.reduceSub, Int.reduceMul, Int.reduceNeg, q_add_e, q_sub_e, q_mul_e, q_neg_e, q_upd_s, q_upd_n, zr_shr0, zr_shr1, zr_shr2, zr_shr3, zr_shr4, zr_and, zr_dyn8, zr_or, zr_shl, q_cpy_n, y_cpy26]
    exact a
  · subst k
    rw [if_neg (by decide), if_neg (by decide)] at a
    simp (disch := omega) only [b_X5_court_0, x_loadI_1, y_if_lt_t, y_if_lt_f, b_X5_court_4, x_iconst, y_ic_le_t, y_ic_le_f, b_X5_court_9, x_ret0, b_X5_court_12, x_loadR_0, x_loadS_0, f_5_4, f_5_3, f_4_0, tw_7_0, tw_7_1, tw_7_o, b_X5_court_68, b_X5_court_79, b_X5_court_90, q_isL_I, q_isL_R, q_isL_S, true_and, and_true, and_self, List.length_nil, List.length_cons, Nat.zero_add, x_K, x_Kn, Int.reduceToNat, Nat.reduceAdd, Nat.reduceMul, Nat.reduceLeDiff, Nat.reduceLT, Nat.zero_le, Int.reduceAdd, Int.reduceSub, Int.reduceMul, Int.reduceNeg, q_add_e, q_sub_e, q_mul_e, q_neg_e, q_upd_s, q_upd_n, zr_shr0, zr_shr1, zr_shr2, zr_shr3, zr_shr4, zr_and, zr_dyn8, zr_or, zr_shl, q_cpy_n, y_cpy26, c_X0_wanted]
    rw [sp_wanted2 (by rw [m5]; exact n0) (by rw [m5]; exact n5) min5 mW]
    simp (disch := omega) only [b_X5_court_0, x_loadI_1, y_if_lt_t, y_if_lt_f, b_X5_court_4, x_iconst, y_ic_le_t, y_ic_le_f, b_X5_court_9, x_ret0, b_X5_court_12, x_loadR_0, x_loadS_0, f_5_4, f_5_3, f_4_0, tw_7_0, tw_7_1, tw_7_o, b_X5_court_68, b_X5_court_79, b_X5_court_90, q_isL_I, q_isL_R, q_isL_S, true_and, and_true, and_self, List.length_nil, List.length_cons, Nat.zero_add, x_K, x_Kn, Int.reduceToNat, Nat.reduceAdd, Nat.reduceMul, Nat.reduceLeDiff, Nat.reduceLT, Nat.zero_le, Int.reduceAdd, Int.reduceSub, Int.reduceMul, Int.reduceNeg, q_add_e, q_sub_e, q_mul_e, q_neg_e, q_upd_s, q_upd_n, zr_shr0, zr_shr1, zr_shr2, zr_shr3, zr_shr4, zr_and, zr_dyn8, zr_or, zr_shl, q_cpy_n, y_cpy26]
    exact a
