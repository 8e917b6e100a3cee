/-! THE CLASS'S WORLD AND CHOICE: the rest -/
theorem q_mvM_b {M : q_M} {w b k x : Nat} {wh lo hi : Int} (h : ∀ j, lo ≤ M x j ∧ M x j ≤ hi) (hv : x = w + 24 ∨ x = w + 19 → lo ≤ wh ∧ wh ≤ hi) : ∀ j, lo ≤ q_mvM M w b wh k x j ∧ q_mvM M w b wh k x j ≤ hi := by
  intro j
  unfold q_mvM
  by_cases c : x = w + 24 ∧ j < k ∧ M (w + 3) j = b
  · rw [if_pos c]
    exact hv (Or.inl c.1)
  · rw [if_neg c]
    exact q_upd_b h (fun e => hv (Or.inr e)) j
theorem q_wl_mvM {V : Nat → (Nat → Int) → Int} {M : q_M} {w ta b k : Nat} {wh : Int} (hw : q_wl V M w ta) (h0 : 0 ≤ wh) (h1 : wh ≤ 99) : q_wl V (q_mvM M w b wh k) w ta := by
  obtain ⟨⟨r0, r1, r2, r3, r4, r5, r6, r7, r8, r9, ra, rb, rc⟩, h2, h3, h4, h6, h7⟩ := hw
  have e : ∀ a i, a ≠ w + 24 → a ≠ w + 19 → q_mvM M w b wh k a i = M a i := fun a i q1 q2 => (q_mvM_n q1).trans (q_upd_n (Or.inl q2))
  exact ⟨⟨by rw [e _ _ (by omega) (by omega)]; exact r0, by rw [e _ _ (by omega) (by omega)]; exact r1, q_mvM_b r2 (by omega), q_mvM_b r3 (by omega), q_mvM_b r4 (by omega), q_mvM_b r5 (by omega), q_mvM_b r6 (by omega), q_mvM_b r7 (by omega), q_mvM_b r8 (by omega), q_mvM_b r9 (by omega), q_mvM_b ra (by omega), by rw [e _ _ (by omega) (by omega)]; exact rb, by rw [e _ _ (by omega) (by omega)]; exact rc⟩, h2, fun M' hM => h3 M' (fun x j hx => (hM x j hx).trans (e x j (by omega) (by omega))), (e _ _ (by omega) (by omega)).trans h4, h6, h7⟩
theorem cW_mvM {M : q_M} {w b : Nat} {wh : Int} (hb : b < 5) : cW (q_mvM M w b wh (M (w + 1) 5).toNat) w = F_move (cW M w) b wh := by
  have e : ∀ a i, a ≠ w + 24 → a ≠ w + 19 → q_mvM M w b wh (M (w + 1) 5).toNat a i = M a i := fun a i q1 q2 => (q_mvM_n q1).trans (q_upd_n (Or.inl q2))
  have hF : F_n (cW M w) = (M (w + 1) 5).toNat := rfl
  funext f i
  unfold F_move
  rw [hF]
  by_cases c2 : f = 2
  · subst c2
    by_cases ci : i < (M (w + 1) 5).toNat
    · rw [cW_4 ci]
      rw [cW_2 (by rw [e _ _ (by omega) (by omega)]; exact ci)]
      by_cases c3 : M (w + 3) i = b
      · rw [if_pos ⟨rfl, ci, c3⟩]
        exact if_pos ⟨rfl, ci, c3⟩
      · rw [if_neg (fun z => c3 z.2.2), q_upd_n (by omega), cW_2 ci]
        exact (if_neg (fun z => c3 z.2.2)).trans (q_upd_n (by omega))
    · rw [if_neg (fun z => ci z.2.1), q_upd_n (by omega)]
      show (if i < (q_mvM M w b wh (M (w + 1) 5).toNat (w + 1) 5).toNat then _ else 0) = (if i < (M (w + 1) 5).toNat then _ else 0)
      rw [e _ _ (by omega) (by omega), if_neg ci, if_neg ci]
  · rw [if_neg (fun z => c2 z.1)]
    by_cases c5 : f = 5 ∧ i = b
    · obtain ⟨rfl, rfl⟩ := c5
      rw [q_upd_s, cW_5 hb, q_mvM_n (by omega), q_upd_s]
    · rw [q_upd_n (by omega)]
      unfold cW
      split <;> first
        | simp (disch := omega) only [q_mvM_n, q_upd_n]
        | exact absurd rfl c2
/-- the next way, by digits, of the first p; and whether there is one -/
def F_next (f : Nat → Int) : Nat → Bool × (Nat → Int)
  | 0 => (false, f)
  | p + 1 => if f p = 5 then (true, F_u f p 0) else if f p = 4 then F_next (F_u f p 5) p else (true, F_u f p (f p + 1))
set_option maxHeartbeats 4000000 in
theorem sp_nextWay {d : Nat} {g : q_G} {M : q_M} {c : Nat} {f : Nat → Int} {Q : Option q_V → q_G → q_M → Prop} (h0 : 0 ≤ M c 5) (h5 : M c 5 ≤ 5) (hf : ∀ i, 0 ≤ f i ∧ f i ≤ 5) (hq : Q (some (qI (if (F_next f (M c 5).toNat).1 = true then 1 else 0))) g (q_sM M (c + 2) (F_next f (M c 5).toNat).2)) : q_S 1 d 19 [qR 0 c] g (q_sM M (c + 2) f) Q := by
  have loop : ∀ p : Nat, p ≤ 5 → ∀ f : Nat → Int, (∀ i, 0 ≤ f i ∧ f i ≤ 5) → Q (some (qI (if (F_next f p).1 = true then 1 else 0))) g (q_sM M (c + 2) (F_next f p).2) → q_T 1 d qP_X0_nextWay 7 [] [qR 0 c, qI ((p : Int) - 1)] [] g (q_sM M (c + 2) f) Q := by
    intro p
    induction p with
    | zero =>
      intro hp f hf hq
      rw [b_X0_nextWay_7]
      simp (disch := omega) only [b_X0_nextWay_0, x_loadR_0, x_loadS_0, f_0_5, x_iconst, x_isub, x_storeI_1, x_loadI_1, y_if_lt_t, y_if_lt_f, b_X0_nextWay_11, f_0_1, y_iald_26, y_ic_ne_t, y_ic_ne_f, b_X0_nextWay_26, x_goto, b_X0_nextWay_30, x_iadd, b_X0_nextWay_38, y_iast_26, y_ic_eq_t, y_ic_eq_f, b_X0_nextWay_49, x_ret1_0, x_ret1_1, b_X0_nextWay_51, x_iinc_1, b_X0_nextWay_57, q_isL_I, q_isL_R, q_isL_S, true_and, and_true, and_self, List.length_nil, List.length_cons, Nat.zero_add, x_K, x_Kn, Int.reduceToNat, Nat.reduceAdd, Nat.reduceMul, Nat.reduceLeDiff, Nat.reduceLT, Nat.zero_le, Int.reduceAdd, Int.reduceSub, Int.reduceMul, Int.reduceNeg, q_add_e, q_sub_e, q_mul_e, q_neg_e, q_upd_s, q_upd_n, zr_shr0, zr_shr1, zr_shr2, zr_shr3, zr_shr4, zr_and, zr_dyn8, zr_or, zr_shl, q_cpy_n, y_cpy26]
      exact hq
    | succ p ih =>
      intro hp f hf hq
      have hfp := hf p
      have ep : ((p + 1 : Nat) : Int) - 1 = p := by omega
      have ep2 : (p : Int) + -1 = (p : Int) - 1 := by omega
      rw [F_next] at hq
      rw [ep, b_X0_nextWay_7]
      by_cases c5 : f p = 5
      · rw [if_pos c5] at hq
        simp (disch := omega) only [b_X0_nextWay_0, x_loadR_0, x_loadS_0, f_0_5, x_iconst, x_isub, x_storeI_1, x_loadI_1, y_if_lt_t, y_if_lt_f, b_X0_nextWay_11, f_0_1, y_iald_26, y_ic_ne_t, y_ic_ne_f, b_X0_nextWay_26, x_goto, b_X0_nextWay_30, x_iadd, b_X0_nextWay_38, y_iast_26, y_ic_eq_t, y_ic_eq_f, b_X0_nextWay_49, x_ret1_0, x_ret1_1, b_X0_nextWay_51, x_iinc_1, b_X0_nextWay_57, q_isL_I, q_isL_R, q_isL_S, true_and, and_true, and_self, List.length_nil, List.length_cons, Nat.zero_add, x_K, x_Kn, Int.reduceToNat, Nat.reduceAdd, Nat.reduceMul, Nat.reduceLeDiff, Nat.reduceLT, Nat.zero_le, Int.reduceAdd, Int.reduceSub, Int.reduceMul, Int.reduceNeg, q_add_e, q_sub_e, q_mul_e, q_neg_e, q_upd_s, q_upd_n, zr_shr0, zr_shr1, zr_shr2, zr_shr3, zr_shr4, zr_and, zr_dyn8, zr_or, zr_shl, q_cpy_n, y_cpy26, Int.toNat_natCast, q_sM_s, q_sM_u, c5]
        simp (disch := omega) only [b_X0_nextWay_0, x_loadR_0, x_loadS_0, f_0_5, x_iconst, x_isub, x_storeI_1, x_loadI_1, y_if_lt_t, y_if_lt_f, b_X0_nextWay_11, f_0_1, y_iald_26, y_ic_ne_t, y_ic_ne_f, b_X0_nextWay_26, x_goto, b_X0_nextWay_30, x_iadd, b_X0_nextWay_38, y_iast_26, y_ic_eq_t, y_ic_eq_f, b_X0_nextWay_49, x_ret1_0, x_ret1_1, b_X0_nextWay_51, x_iinc_1, b_X0_nextWay_57, q_isL_I, q_isL_R, q_isL_S, true_and, and_true, and_self, List.length_nil, List.length_cons, Nat.zero_add, x_K, x_Kn, Int.reduceToNat, Nat.reduceAdd, Nat.reduceMul, Nat.reduceLeDiff, Nat.reduceLT, Nat.zero_le, Int.reduceAdd, Int.reduceSub, Int.reduceMul, Int.reduceNeg, q_add_e, q_sub_e, q_mul_e, q_neg_e, q_upd_s, q_upd_n, zr_shr0, zr_shr1, zr_shr2, zr_shr3, zr_shr4, zr_and, zr_dyn8, zr_or, zr_shl, q_cpy_n, y_cpy26, Int.toNat_natCast, q_sM_s, q_sM_u, F_u, if_true]
        exact hq
      · rw [if_neg c5] at hq
        by_cases c4 : f p = 4
        · rw [if_pos c4] at hq
          simp (disch := omega) only [b_X0_nextWay_0, x_loadR_0, x_loadS_0, f_0_5, x_iconst, x_isub, x_storeI_1, x_loadI_1, y_if_lt_t, y_if_lt_f, b_X0_nextWay_11, f_0_1, y_iald_26, y_ic_ne_t, y_ic_ne_f, b_X0_nextWay_26, x_goto, b_X0_nextWay_30, x_iadd, b_X0_nextWay_38, y_iast_26, y_ic_eq_t, y_ic_eq_f, b_X0_nextWay_49, x_ret1_0, x_ret1_1, b_X0_nextWay_51, x_iinc_1, b_X0_nextWay_57, q_isL_I, q_isL_R, q_isL_S, true_and, and_true, and_self, List.length_nil, List.length_cons, Nat.zero_add, x_K, x_Kn, Int.reduceToNat, Nat.reduceAdd, Nat.reduceMul, Nat.reduceLeDiff, Nat.reduceLT, Nat.zero_le, Int.reduceAdd, Int.reduceSub, Int.reduceMul, Int.reduceNeg, q_add_e, q_sub_e, q_mul_e, q_neg_e, q_upd_s, q_upd_n, zr_shr0, zr_shr1, zr_shr2, zr_shr3, zr_shr4, zr_and, zr_dyn8, zr_or, zr_shl, q_cpy_n, y_cpy26, Int.toNat_natCast, q_sM_s, q_sM_u, c4, ep2]
          have hself : F_u f p 5 p = 5 := if_pos rfl
          simp (disch := omega) only [b_X0_nextWay_0, x_loadR_0, x_loadS_0, f_0_5, x_iconst, x_isub, x_storeI_1, x_loadI_1, y_if_lt_t, y_if_lt_f, b_X0_nextWay_11, f_0_1, y_iald_26, y_ic_ne_t, y_ic_ne_f, b_X0_nextWay_26, x_goto, b_X0_nextWay_30, x_iadd, b_X0_nextWay_38, y_iast_26, y_ic_eq_t, y_ic_eq_f, b_X0_nextWay_49, x_ret1_0, x_ret1_1, b_X0_nextWay_51, x_iinc_1, b_X0_nextWay_57, q_isL_I, q_isL_R, q_isL_S, true_and, and_true, and_self, List.length_nil, List.length_cons, Nat.zero_add, x_K, x_Kn, Int.reduceToNat, Nat.reduceAdd, Nat.reduceMul, Nat.reduceLeDiff, Nat.reduceLT, Nat.zero_le, Int.reduceAdd, Int.reduceSub, Int.reduceMul, Int.reduceNeg, q_add_e, q_sub_e, q_mul_e, q_neg_e, q_upd_s, q_upd_n, zr_shr0, zr_shr1, zr_shr2, zr_shr3, zr_shr4, zr_and, zr_dyn8, zr_or, zr_shl, q_cpy_n, y_cpy26, Int.toNat_natCast, q_sM_s, q_sM_u, hself, ep2]
          refine ih (by omega) _ (fun i => ?_) hq
          unfold F_u
          split
          · omega
          · exact hf i
        · rw [if_neg c4] at hq
          have hself : F_u f p (f p + 1) p = f p + 1 := if_pos rfl
          simp (disch := omega) only [b_X0_nextWay_0, x_loadR_0, x_loadS_0, f_0_5, x_iconst, x_isub, x_storeI_1, x_loadI_1, y_if_lt_t, y_if_lt_f, b_X0_nextWay_11, f_0_1, y_iald_26, y_ic_ne_t, y_ic_ne_f, b_X0_nextWay_26, x_goto, b_X0_nextWay_30, x_iadd, b_X0_nextWay_38, y_iast_26, y_ic_eq_t, y_ic_eq_f, b_X0_nextWay_49, x_ret1_0, x_ret1_1, b_X0_nextWay_51, x_iinc_1, b_X0_nextWay_57, q_isL_I, q_isL_R, q_isL_S, true_and, and_true, and_self, List.length_nil, List.length_cons, Nat.zero_add, x_K, x_Kn, Int.reduceToNat, Nat.reduceAdd, Nat.reduceMul, Nat.reduceLeDiff, Nat.reduceLT, Nat.zero_le, Int.reduceAdd, Int.reduceSub, Int.reduceMul, Int.reduceNeg, q_add_e, q_sub_e, q_mul_e, q_neg_e, q_upd_s, q_upd_n, zr_shr0, zr_shr1, zr_shr2, zr_shr3, zr_shr4, zr_and, zr_dyn8, zr_or, zr_shl, q_cpy_n, y_cpy26, Int.toNat_natCast, q_sM_s, q_sM_u, hself]
          exact hq
  have e5 : q_sM M (c + 2) f c 5 = M c 5 := q_sM_n (by omega)
  have h := loop (M c 5).toNat (by omega) f hf hq
  rw [show (((M c 5).toNat : Nat) : Int) = M c 5 by omega] at h
  rw [s_X0_nextWay]
  simp (disch := omega) only [b_X0_nextWay_0, x_loadR_0, x_loadS_0, f_0_5, x_iconst, x_isub, x_storeI_1, x_loadI_1, y_if_lt_t, y_if_lt_f, b_X0_nextWay_11, f_0_1, y_iald_26, y_ic_ne_t, y_ic_ne_f, b_X0_nextWay_26, x_goto, b_X0_nextWay_30, x_iadd, b_X0_nextWay_38, y_iast_26, y_ic_eq_t, y_ic_eq_f, b_X0_nextWay_49, x_ret1_0, x_ret1_1, b_X0_nextWay_51, x_iinc_1, b_X0_nextWay_57, q_isL_I, q_isL_R, q_isL_S, true_and, and_true, and_self, List.length_nil, List.length_cons, Nat.zero_add, x_K, x_Kn, Int.reduceToNat, Nat.reduceAdd, Nat.reduceMul, Nat.reduceLeDiff, Nat.reduceLT, Nat.zero_le, Int.reduceAdd, Int.reduceSub, Int.reduceMul, Int.reduceNeg, q_add_e, q_sub_e, q_mul_e, q_neg_e, q_upd_s, q_upd_n, zr_shr0, zr_shr1, zr_shr2, zr_shr3, zr_shr4, zr_and, zr_dyn8, zr_or, zr_shl, q_cpy_n, y_cpy26, e5]
  exact h
