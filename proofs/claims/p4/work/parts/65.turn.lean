/-! THE CLASS'S CHOICE: all ask in turn -/
def F_dst (L : Nat → Nat → Int) (x : (Nat → Int) × (Nat → Int)) (p : Nat) : Nat := (F_best (L p) (fun k => decide (q_and (q_shr (x.2 p) k) 1 = 0)) 5).1
def F_rd (L W : Nat → Nat → Int) (R : Nat → Int) (n : Nat) (x : (Nat → Int) × (Nat → Int)) : Nat → Bool × ((Nat → Int) × (Nat → Int))
  | 0 => (false, x)
  | p + 1 =>
    if (F_rd L W R n x p).2.1 p = 5 ∧ F_dst L (F_rd L W R n x p).2 p ≠ 5 then (true, F_ask W R n p (F_dst L (F_rd L W R n x p).2 p) (F_rd L W R n x p).2)
    else F_rd L W R n x p
def F_turn (L W : Nat → Nat → Int) (R : Nat → Int) (n : Nat) : Nat → (Nat → Int) × (Nat → Int) → (Nat → Int) × (Nat → Int)
  | 0, x => x
  | k + 1, x => if (F_rd L W R n x n).1 = true then F_turn L W R n k (F_rd L W R n x n).2 else (F_rd L W R n x n).2
def F_fr (x : (Nat → Int) × (Nat → Int)) : (Nat → Int) × (Nat → Int) := (F_u (F_u (F_u (F_u (F_u x.1 0 5) 1 5) 2 5) 3 5) 4 5, F_u (F_u (F_u (F_u (F_u x.2 0 0) 1 0) 2 0) 3 0) 4 0)
theorem F_dst_le {L : Nat → Nat → Int} {x : (Nat → Int) × (Nat → Int)} {p : Nat} : F_dst L x p < 5 ∨ F_dst L x p = 5 := F_best_1 _ _ 5
set_option maxHeartbeats 4000000 in
theorem sp_round {d : Nat} {g : q_G} {M : q_M} {c : Nat} {i : Int} {x : (Nat → Int) × (Nat → Int)} {l l3 : q_V} {Q : Option q_V → q_G → q_M → Prop} (h0 : 0 ≤ M c 5) (h5 : M c 5 ≤ 5) (hL5 : ∀ p, p < 5 → M (c + 3 + (1 + p)) 5 = 0) (hl : q_isL l = false) (hl3 : q_isL l3 = false) (hq : ∀ l4 : q_V, q_isL l4 = false → q_T 1 (d + 4) qP_X0_askInTurn 99 [] [qR 0 c, qI (if (F_rd (q_Lk M c) (q_Wn M c) (M (c + 1)) (M c 5).toNat x (M c 5).toNat).1 = true then 1 else 0), qI i, qI (M c 5), l4] [] g (q_cM M c (F_rd (q_Lk M c) (q_Wn M c) (M (c + 1)) (M c 5).toNat x (M c 5).toNat).2) Q) : q_T 1 (d + 4) qP_X0_askInTurn 39 [] [qR 0 c, qI 1, qI i, l3, l] [] g (q_cM M c x) Q := by
  have loop : ∀ j p : Nat, p + j = (M c 5).toNat → ∀ l4 : q_V, q_isL l4 = false → q_T 1 (d + 4) qP_X0_askInTurn 43 [] [qR 0 c, qI (if (F_rd (q_Lk M c) (q_Wn M c) (M (c + 1)) (M c 5).toNat x p).1 = true then 1 else 0), qI i, qI p, l4] [] g (q_cM M c (F_rd (q_Lk M c) (q_Wn M c) (M (c + 1)) (M c 5).toNat x p).2) Q := by
    intro j
    induction j with
    | zero =>
      intro p hp l4 hl4
      have hpn : p = (M c 5).toNat := by omega
      have e : ((p : Nat) : Int) = M c 5 := by omega
      have hq2 := hq l4 hl4
      rw [← hpn] at hq2
      rw [b_X0_askInTurn_43]
      simp (disch := omega) only [b_X0_askInTurn_0, x_loadR_0, x_loadS_0, x_iconst, x_storeI_1, b_X0_askInTurn_6, x_loadI_1, y_ic_ge_t, y_ic_ge_f, b_X0_askInTurn_11, f_0_4, y_iast_26, x_iinc_1, x_goto, b_X0_askInTurn_24, x_storeI_2, y_if_eq_t, y_if_eq_f, b_X0_askInTurn_32, x_loadI_2, b_X0_askInTurn_39, x_storeI_3, x_loadI_3, f_0_5, b_X0_askInTurn_51, f_0_1, y_iald_26, y_ic_ne_t, y_ic_ne_f, b_X0_askInTurn_61, b_X0_askInTurn_75, b_X0_askInTurn_76, x_storeI_4, x_loadI_4, y_ic_eq_t, y_ic_eq_f, b_X0_askInTurn_84, b_X0_askInTurn_93, x_iinc_3, x_iinc_2, b_X0_askInTurn_105, x_vret, q_isL_I, q_isL_R, q_isL_S, true_and, and_true, and_self, List.length_nil, List.length_cons, Nat.zero_add, x_K, x_Kn, Int.reduceToNat, Nat.reduceAdd, Nat.reduceMul, Nat.reduceLeDiff, Nat.reduceLT, Nat.zero_le, Int.reduceAdd, Int.reduceSub, Int.reduceMul, Int.reduceNeg, q_add_e, q_sub_e, q_mul_e, q_neg_e, q_upd_s, q_upd_n, zr_shr0, zr_shr1, zr_shr2, zr_shr3, zr_shr4, zr_and, zr_dyn8, zr_or, zr_shl, q_cpy_n, y_cpy26, q_cM_n, e]
      rw [← hpn]
      exact hq2
    | succ j ih =>
      intro p hp l4 hl4
      have ih2 := ih (p + 1) (by omega)
      rw [F_rd] at ih2
      generalize F_rd (q_Lk M c) (q_Wn M c) (M (c + 1)) (M c 5).toNat x p = R at ih2 ⊢
      have e5 : q_cM M c R.2 c 5 = M c 5 := q_cM_n (by omega) (by omega)
      have e2 : q_cM M c R.2 (c + 2) p = R.2.1 p := q_cM_f
      have e17 : q_cM M c R.2 (c + 17) p = R.2.2 p := q_cM_s
      have hrow : q_cM M c R.2 (c + 3 + (1 + p)) = q_Lk M c p := q_cM_r (by omega) (by omega)
      have hz : q_cM M c R.2 (c + 3 + (1 + ((p : Nat) : Int).toNat)) 5 = 0 := by
        rw [Int.toNat_natCast, hrow]
        exact hL5 p (by omega)
      have hD : (F_best (q_Lk M c p) (fun k => decide (q_and (q_shr (R.2.2 p) k) 1 = 0)) 5).1 = F_dst (q_Lk M c) R.2 p := rfl
      have hdl := F_dst_le (L := q_Lk M c) (x := R.2) (p := p)
      have ask : ∀ b : Nat, b < 5 → ∀ (nx : Nat) (ops : List Instr) (ls st : List q_V), q_T 1 (d + 4) qP_X0_askInTurn nx ops ls st g (q_cM M c (F_ask (q_Wn M c) (M (c + 1)) (M c 5).toNat p b R.2)) Q → q_S 1 (d + 3) 16 [qR 0 c, qI p, qI b] g (q_cM M c R.2) (q_K 1 (d + 4) qP_X0_askInTurn nx ops ls st Q) := fun b hb nx ops ls st h => sp_ask h0 h5 (by omega) hb h
      rw [b_X0_askInTurn_43]
      by_cases c1 : R.2.1 p = 5
      · generalize hDD : F_dst (q_Lk M c) R.2 p = D at hD hdl ih2
        rcases hdl with c2 | c2
        · rw [if_pos (show R.2.1 p = 5 ∧ D ≠ 5 from ⟨c1, by omega⟩)] at ih2
          simp (disch := omega) only [b_X0_askInTurn_0, x_loadR_0, x_loadS_0, x_iconst, x_storeI_1, b_X0_askInTurn_6, x_loadI_1, y_ic_ge_t, y_ic_ge_f, b_X0_askInTurn_11, f_0_4, y_iast_26, x_iinc_1, x_goto, b_X0_askInTurn_24, x_storeI_2, y_if_eq_t, y_if_eq_f, b_X0_askInTurn_32, x_loadI_2, b_X0_askInTurn_39, x_storeI_3, x_loadI_3, f_0_5, b_X0_askInTurn_51, f_0_1, y_iald_26, y_ic_ne_t, y_ic_ne_f, b_X0_askInTurn_61, b_X0_askInTurn_75, b_X0_askInTurn_76, x_storeI_4, x_loadI_4, y_ic_eq_t, y_ic_eq_f, b_X0_askInTurn_84, b_X0_askInTurn_93, x_iinc_3, x_iinc_2, b_X0_askInTurn_105, x_vret, q_isL_I, q_isL_R, q_isL_S, true_and, and_true, and_self, List.length_nil, List.length_cons, Nat.zero_add, x_K, x_Kn, Int.reduceToNat, Nat.reduceAdd, Nat.reduceMul, Nat.reduceLeDiff, Nat.reduceLT, Nat.zero_le, Int.reduceAdd, Int.reduceSub, Int.reduceMul, Int.reduceNeg, q_add_e, q_sub_e, q_mul_e, q_neg_e, q_upd_s, q_upd_n, zr_shr0, zr_shr1, zr_shr2, zr_shr3, zr_shr4, zr_and, zr_dyn8, zr_or, zr_shl, q_cpy_n, y_cpy26, e5, e2, e17, c1, hl4, c_X0_dearest, sp_dearest, hrow, hD, Int.toNat_natCast, c_X0_ask]
          refine ask D c2 _ _ _ _ ?_
          simp (disch := omega) only [b_X0_askInTurn_0, x_loadR_0, x_loadS_0, x_iconst, x_storeI_1, b_X0_askInTurn_6, x_loadI_1, y_ic_ge_t, y_ic_ge_f, b_X0_askInTurn_11, f_0_4, y_iast_26, x_iinc_1, x_goto, b_X0_askInTurn_24, x_storeI_2, y_if_eq_t, y_if_eq_f, b_X0_askInTurn_32, x_loadI_2, b_X0_askInTurn_39, x_storeI_3, x_loadI_3, f_0_5, b_X0_askInTurn_51, f_0_1, y_iald_26, y_ic_ne_t, y_ic_ne_f, b_X0_askInTurn_61, b_X0_askInTurn_75, b_X0_askInTurn_76, x_storeI_4, x_loadI_4, y_ic_eq_t, y_ic_eq_f, b_X0_askInTurn_84, b_X0_askInTurn_93, x_iinc_3, x_iinc_2, b_X0_askInTurn_105, x_vret, q_isL_I, q_isL_R, q_isL_S, true_and, and_true, and_self, List.length_nil, List.length_cons, Nat.zero_add, x_K, x_Kn, Int.reduceToNat, Nat.reduceAdd, Nat.reduceMul, Nat.reduceLeDiff, Nat.reduceLT, Nat.zero_le, Int.reduceAdd, Int.reduceSub, Int.reduceMul, Int.reduceNeg, q_add_e, q_sub_e, q_mul_e, q_neg_e, q_upd_s, q_upd_n, zr_shr0, zr_shr1, zr_shr2, zr_shr3, zr_shr4, zr_and, zr_dyn8, zr_or, zr_shl, q_cpy_n, y_cpy26]
          exact ih2 _ rfl
        · rw [if_neg (show ¬(R.2.1 p = 5 ∧ D ≠ 5) from fun z => z.2 c2)] at ih2
          subst c2
          simp (disch := omega) only [b_X0_askInTurn_0, x_loadR_0, x_loadS_0, x_iconst, x_storeI_1, b_X0_askInTurn_6, x_loadI_1, y_ic_ge_t, y_ic_ge_f, b_X0_askInTurn_11, f_0_4, y_iast_26, x_iinc_1, x_goto, b_X0_askInTurn_24, x_storeI_2, y_if_eq_t, y_if_eq_f, b_X0_askInTurn_32, x_loadI_2, b_X0_askInTurn_39, x_storeI_3, x_loadI_3, f_0_5, b_X0_askInTurn_51, f_0_1, y_iald_26, y_ic_ne_t, y_ic_ne_f, b_X0_askInTurn_61, b_X0_askInTurn_75, b_X0_askInTurn_76, x_storeI_4, x_loadI_4, y_ic_eq_t, y_ic_eq_f, b_X0_askInTurn_84, b_X0_askInTurn_93, x_iinc_3, x_iinc_2, b_X0_askInTurn_105, x_vret, q_isL_I, q_isL_R, q_isL_S, true_and, and_true, and_self, List.length_nil, List.length_cons, Nat.zero_add, x_K, x_Kn, Int.reduceToNat, Nat.reduceAdd, Nat.reduceMul, Nat.reduceLeDiff, Nat.reduceLT, Nat.zero_le, Int.reduceAdd, Int.reduceSub, Int.reduceMul, Int.reduceNeg, q_add_e, q_sub_e, q_mul_e, q_neg_e, q_upd_s, q_upd_n, zr_shr0, zr_shr1, zr_shr2, zr_shr3, zr_shr4, zr_and, zr_dyn8, zr_or, zr_shl, q_cpy_n, y_cpy26, e5, e2, e17, c1, hl4, c_X0_dearest, sp_dearest, hrow, hD, Int.toNat_natCast]
          exact ih2 _ rfl
      · rw [if_neg (show ¬(R.2.1 p = 5 ∧ F_dst (q_Lk M c) R.2 p ≠ 5) from fun z => c1 z.1)] at ih2
        simp (disch := omega) only [b_X0_askInTurn_0, x_loadR_0, x_loadS_0, x_iconst, x_storeI_1, b_X0_askInTurn_6, x_loadI_1, y_ic_ge_t, y_ic_ge_f, b_X0_askInTurn_11, f_0_4, y_iast_26, x_iinc_1, x_goto, b_X0_askInTurn_24, x_storeI_2, y_if_eq_t, y_if_eq_f, b_X0_askInTurn_32, x_loadI_2, b_X0_askInTurn_39, x_storeI_3, x_loadI_3, f_0_5, b_X0_askInTurn_51, f_0_1, y_iald_26, y_ic_ne_t, y_ic_ne_f, b_X0_askInTurn_61, b_X0_askInTurn_75, b_X0_askInTurn_76, x_storeI_4, x_loadI_4, y_ic_eq_t, y_ic_eq_f, b_X0_askInTurn_84, b_X0_askInTurn_93, x_iinc_3, x_iinc_2, b_X0_askInTurn_105, x_vret, q_isL_I, q_isL_R, q_isL_S, true_and, and_true, and_self, List.length_nil, List.length_cons, Nat.zero_add, x_K, x_Kn, Int.reduceToNat, Nat.reduceAdd, Nat.reduceMul, Nat.reduceLeDiff, Nat.reduceLT, Nat.zero_le, Int.reduceAdd, Int.reduceSub, Int.reduceMul, Int.reduceNeg, q_add_e, q_sub_e, q_mul_e, q_neg_e, q_upd_s, q_upd_n, zr_shr0, zr_shr1, zr_shr2, zr_shr3, zr_shr4, zr_and, zr_dyn8, zr_or, zr_shl, q_cpy_n, y_cpy26, e5, e2, c1, hl4, Int.toNat_natCast]
        exact ih2 _ rfl
  have h := loop (M c 5).toNat 0 (by omega) l hl
  rw [F_rd] at h
  simp (disch := omega) only [b_X0_askInTurn_0, x_loadR_0, x_loadS_0, x_iconst, x_storeI_1, b_X0_askInTurn_6, x_loadI_1, y_ic_ge_t, y_ic_ge_f, b_X0_askInTurn_11, f_0_4, y_iast_26, x_iinc_1, x_goto, b_X0_askInTurn_24, x_storeI_2, y_if_eq_t, y_if_eq_f, b_X0_askInTurn_32, x_loadI_2, b_X0_askInTurn_39, x_storeI_3, x_loadI_3, f_0_5, b_X0_askInTurn_51, f_0_1, y_iald_26, y_ic_ne_t, y_ic_ne_f, b_X0_askInTurn_61, b_X0_askInTurn_75, b_X0_askInTurn_76, x_storeI_4, x_loadI_4, y_ic_eq_t, y_ic_eq_f, b_X0_askInTurn_84, b_X0_askInTurn_93, x_iinc_3, x_iinc_2, b_X0_askInTurn_105, x_vret, q_isL_I, q_isL_R, q_isL_S, true_and, and_true, and_self, List.length_nil, List.length_cons, Nat.zero_add, x_K, x_Kn, Int.reduceToNat, Nat.reduceAdd, Nat.reduceMul, Nat.reduceLeDiff, Nat.reduceLT, Nat.zero_le, Int.reduceAdd, Int.reduceSub, Int.reduceMul, Int.reduceNeg, q_add_e, q_sub_e, q_mul_e, q_neg_e, q_upd_s, q_upd_n, zr_shr0, zr_shr1, zr_shr2, zr_shr3, zr_shr4, zr_and, zr_dyn8, zr_or, zr_shl, q_cpy_n, y_cpy26, hl3]
  exact h
