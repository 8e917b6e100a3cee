/-! THE CLASS'S ENTRIES: court -/
theorem q_cM_self {M : q_M} {c : Nat} : q_cM M c (M (c + 2), M (c + 17)) = M := by
  funext a i
  unfold q_cM
  by_cases h : a = c + 2
  · rw [if_pos h, h]
  · rw [if_neg h]
    by_cases h2 : a = c + 17
    · rw [if_pos h2, h2]
    · rw [if_neg h2]
def q_crA (M : q_M) (c : Nat) (wt : Int) : Int := if wt = 0 then F_dig (M (c + 2)) (M c 5).toNat else if wt = 1 then F_sum (fun p => M (c + 3 + (1 + p))) (M (c + 2)) (M c 5).toNat else F_sum (fun p => M (c + 10 + (1 + p))) (M (c + 2)) (M c 5).toNat
theorem sp_courtF {d : Nat} {g : q_G} {M : q_M} {wt : Int} {Q : Option q_V → q_G → q_M → Prop} (h : wt < 0 ∨ 2 < wt) (hq : Q (some (qI (-100000))) g M) : q_S 1 d 78 [qR 5 0, qI wt] g M Q := by
  rw [s_X5_court]
  rcases h with h | h
  · simp (disch := omega) only [b_X5_court_0, x_loadI_1, y_if_lt_t, y_if_lt_f, b_X5_court_4, x_iconst, y_ic_le_t, y_ic_le_f, b_X5_court_9, x_ret0, b_X5_court_12, x_loadR_0, x_loadS_0, f_5_4, f_5_3, f_4_0, tw_7_0, tw_7_1, tw_7_o, b_X5_court_68, b_X5_court_79, b_X5_court_90, q_isL_I, q_isL_R, q_isL_S, true_and, and_true, and_self, List.length_nil, List.length_cons, Nat.zero_add, x_K, x_Kn, Int.reduceToNat, Nat.reduceAdd, Nat.reduceMul, Nat.reduceLeDiff, Nat.reduceLT, Nat.zero_le, Int.reduceAdd, Int.reduceSub, Int.reduceMul, Int.reduceNeg, q_add_e, q_sub_e, q_mul_e, q_neg_e, q_upd_s, q_upd_n, zr_shr0, zr_shr1, zr_shr2, zr_shr3, zr_shr4, zr_and, zr_dyn8, zr_or, zr_shl, q_cpy_n, y_cpy26]
    exact hq
  · simp (disch := omega) only [b_X5_court_0, x_loadI_1, y_if_lt_t, y_if_lt_f, b_X5_court_4, x_iconst, y_ic_le_t, y_ic_le_f, b_X5_court_9, x_ret0, b_X5_court_12, x_loadR_0, x_loadS_0, f_5_4, f_5_3, f_4_0, tw_7_0, tw_7_1, tw_7_o, b_X5_court_68, b_X5_court_79, b_X5_court_90, q_isL_I, q_isL_R, q_isL_S, true_and, and_true, and_self, List.length_nil, List.length_cons, Nat.zero_add, x_K, x_Kn, Int.reduceToNat, Nat.reduceAdd, Nat.reduceMul, Nat.reduceLeDiff, Nat.reduceLT, Nat.zero_le, Int.reduceAdd, Int.reduceSub, Int.reduceMul, Int.reduceNeg, q_add_e, q_sub_e, q_mul_e, q_neg_e, q_upd_s, q_upd_n, zr_shr0, zr_shr1, zr_shr2, zr_shr3, zr_shr4, zr_and, zr_dyn8, zr_or, zr_shl, q_cpy_n, y_cpy26]
    exact hq
theorem sp_turnS {d : Nat} {g : q_G} {M : q_M} {c : Nat} {Q : Option q_V → q_G → q_M → Prop} (h0 : 0 ≤ M c 5) (h5 : M c 5 ≤ 5) (hL5 : ∀ p, p < 5 → M (c + 3 + (1 + p)) 5 = 0) (hq : Q none g (q_cM M c (F_turn (q_Lk M c) (q_Wn M c) (M (c + 1)) (M c 5).toNat 1000 (F_fr (M (c + 2), M (c + 17)))))) : q_S 1 (d + 4) 15 [qR 0 c] g M Q := by
  have h := sp_askInTurn (d := d) (g := g) (x := (M (c + 2), M (c + 17))) (Q := Q) h0 h5 hL5 hq
  rw [q_cM_self] at h
  exact h
