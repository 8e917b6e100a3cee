/-! BOTH SIDES: all ways of the model, just so -/
theorem F_fits_no {f R : Nat → Int} {n b : Nat} (hb : b < 5) (h : R b < F_cnt f b n) : ¬F_fits f R n 5 = true := fun z => by
  have := F_fits_le 5 z b hb
  omega
set_option maxHeartbeats 4000000 in
theorem mp_sitsByE {d m : Nat} {g : q_G} {M : q_M} {x : (Nat → Int) × (Nat → Int)} {Q : Option q_V → q_G → q_M → Prop} (h0 : 0 ≤ M 100 0) (h5 : M 100 0 ≤ 5) (hn1 : m ≤ 100000) (hq : ∀ y : (Nat → Int) × (Nat → Int), (∀ i, i < (M 100 0).toNat → y.1 i = F_way (M 100 0).toNat m i) → Q (some (qI (if F_fits y.1 (mR M) (M 100 0).toNat 5 = true then 1 else 0))) g (q_yM M y)) : q_S 1 (d + 1) 172 [qR 6 100, qI m] g (q_yM M x) Q := by
  have e0 : ∀ y, q_yM M y 100 0 = M 100 0 := fun y => ry_n (by omega) (by omega)
  have eR : ∀ y i, q_yM M y 103 i = M 103 i := fun y i => ry_n (by omega) (by omega)
  rw [s_X6_sitsBy]
  have second : ∀ j b : Nat, b + j = 5 → ∀ (y : (Nat → Int) × (Nat → Int)) (left : Int), q_x5 (M 100 0).toNat y → (∀ i, i < (M 100 0).toNat → y.1 i = F_way (M 100 0).toNat m i) → F_fits y.1 (mR M) (M 100 0).toNat b = true → q_T 1 (d + 1) qP_X6_sitsBy 38 [] [qR 6 100, qI m, qI left, qI b] [] g (q_yM M y) Q := by
    intro j
    induction j with
    | zero =>
      intro b hb y left hy hw hf
      rw [b_X6_sitsBy_38]
      simp (disch := omega) only [b_X6_sitsBy_0, x_loadI_1, x_storeI_2, x_loadR_0, x_loadS_0, f_6_0, x_iconst, x_isub, x_storeI_3, x_loadI_3, y_if_lt_t, y_if_lt_f, b_X6_sitsBy_13, f_6_33, x_loadI_2, y_irem, y_iast_25, y_iast_40, y_idiv, x_iinc_3, x_goto, b_X6_sitsBy_36, y_ic_ge_t, y_ic_ge_f, b_X6_sitsBy_43, f_6_3, x_imul, x_iadd, y_iald_25, y_iald_40, y_ic_le_t, y_ic_le_f, b_X6_sitsBy_61, x_ret1_0, x_ret1_1, b_X6_sitsBy_63, b_X6_sitsBy_69, q_isL_I, q_isL_R, q_isL_S, true_and, and_true, and_self, List.length_nil, List.length_cons, Nat.zero_add, x_K, x_Kn, Int.reduceToNat, Nat.reduceAdd, Nat.reduceMul, Nat.reduceLeDiff, Nat.reduceLT, Nat.zero_le, Int.reduceAdd, Int.reduceSub, Int.reduceMul, Int.reduceNeg, q_add_e, q_sub_e, q_mul_e, q_neg_e, q_upd_s, q_upd_n, zr_shr0, zr_shr1, zr_shr2, zr_shr3, zr_shr4, zr_and, zr_dyn8, zr_or, zr_shl, q_cpy_n, y_cpy26]
      have e5 : b = 5 := by omega
      subst e5
      exact q_ans (hq y hw) (if_pos hf).symm
    | succ j ih =>
      intro b hb y left hy hw hf
      rw [b_X6_sitsBy_38]
      by_cases c : M 103 (4 * b + 1) < F_cnt y.1 b (M 100 0).toNat
      · simp (disch := omega) only [b_X6_sitsBy_0, x_loadI_1, x_storeI_2, x_loadR_0, x_loadS_0, f_6_0, x_iconst, x_isub, x_storeI_3, x_loadI_3, y_if_lt_t, y_if_lt_f, b_X6_sitsBy_13, f_6_33, x_loadI_2, y_irem, y_iast_25, y_iast_40, y_idiv, x_iinc_3, x_goto, b_X6_sitsBy_36, y_ic_ge_t, y_ic_ge_f, b_X6_sitsBy_43, f_6_3, x_imul, x_iadd, y_iald_25, y_iald_40, y_ic_le_t, y_ic_le_f, b_X6_sitsBy_61, x_ret1_0, x_ret1_1, b_X6_sitsBy_63, b_X6_sitsBy_69, q_isL_I, q_isL_R, q_isL_S, true_and, and_true, and_self, List.length_nil, List.length_cons, Nat.zero_add, x_K, x_Kn, Int.reduceToNat, Nat.reduceAdd, Nat.reduceMul, Nat.reduceLeDiff, Nat.reduceLT, Nat.zero_le, Int.reduceAdd, Int.reduceSub, Int.reduceMul, Int.reduceNeg, q_add_e, q_sub_e, q_mul_e, q_neg_e, q_upd_s, q_upd_n, zr_shr0, zr_shr1, zr_shr2, zr_shr3, zr_shr4, zr_and, zr_dyn8, zr_or, zr_shl, q_cpy_n, y_cpy26, c_X6_sitting, mp_sitting, hy, tn_41, eR]
        exact q_ans (hq y hw) (if_neg (F_fits_no (by omega) c)).symm
      · simp (disch := omega) only [b_X6_sitsBy_0, x_loadI_1, x_storeI_2, x_loadR_0, x_loadS_0, f_6_0, x_iconst, x_isub, x_storeI_3, x_loadI_3, y_if_lt_t, y_if_lt_f, b_X6_sitsBy_13, f_6_33, x_loadI_2, y_irem, y_iast_25, y_iast_40, y_idiv, x_iinc_3, x_goto, b_X6_sitsBy_36, y_ic_ge_t, y_ic_ge_f, b_X6_sitsBy_43, f_6_3, x_imul, x_iadd, y_iald_25, y_iald_40, y_ic_le_t, y_ic_le_f, b_X6_sitsBy_61, x_ret1_0, x_ret1_1, b_X6_sitsBy_63, b_X6_sitsBy_69, q_isL_I, q_isL_R, q_isL_S, true_and, and_true, and_self, List.length_nil, List.length_cons, Nat.zero_add, x_K, x_Kn, Int.reduceToNat, Nat.reduceAdd, Nat.reduceMul, Nat.reduceLeDiff, Nat.reduceLT, Nat.zero_le, Int.reduceAdd, Int.reduceSub, Int.reduceMul, Int.reduceNeg, q_add_e, q_sub_e, q_mul_e, q_neg_e, q_upd_s, q_upd_n, zr_shr0, zr_shr1, zr_shr2, zr_shr3, zr_shr4, zr_and, zr_dyn8, zr_or, zr_shl, q_cpy_n, y_cpy26, c_X6_sitting, mp_sitting, hy, tn_41, eR]
        exact ih (b + 1) (by omega) y left hy hw (by
          rw [F_fits, hf, Bool.true_and]
          exact decide_eq_true (by show _ ≤ M 103 (4 * b + 1); omega))
  have first : ∀ k : Nat, k ≤ (M 100 0).toNat → ∀ (y : (Nat → Int) × (Nat → Int)) (D : Nat), D = m / 6 ^ ((M 100 0).toNat - k) → (∀ i, k ≤ i → i < (M 100 0).toNat → y.1 i = F_way (M 100 0).toNat m i) → q_T 1 (d + 1) qP_X6_sitsBy 9 [] [qR 6 100, qI m, qI D, qI ((k : Int) - 1)] [] g (q_yM M y) Q := by
    intro k
    induction k with
    | zero =>
      intro hk y D hD hy
      rw [b_X6_sitsBy_9]
      simp (disch := omega) only [b_X6_sitsBy_0, x_loadI_1, x_storeI_2, x_loadR_0, x_loadS_0, f_6_0, x_iconst, x_isub, x_storeI_3, x_loadI_3, y_if_lt_t, y_if_lt_f, b_X6_sitsBy_13, f_6_33, x_loadI_2, y_irem, y_iast_25, y_iast_40, y_idiv, x_iinc_3, x_goto, b_X6_sitsBy_36, y_ic_ge_t, y_ic_ge_f, b_X6_sitsBy_43, f_6_3, x_imul, x_iadd, y_iald_25, y_iald_40, y_ic_le_t, y_ic_le_f, b_X6_sitsBy_61, x_ret1_0, x_ret1_1, b_X6_sitsBy_63, b_X6_sitsBy_69, q_isL_I, q_isL_R, q_isL_S, true_and, and_true, and_self, List.length_nil, List.length_cons, Nat.zero_add, x_K, x_Kn, Int.reduceToNat, Nat.reduceAdd, Nat.reduceMul, Nat.reduceLeDiff, Nat.reduceLT, Nat.zero_le, Int.reduceAdd, Int.reduceSub, Int.reduceMul, Int.reduceNeg, q_add_e, q_sub_e, q_mul_e, q_neg_e, q_upd_s, q_upd_n, zr_shr0, zr_shr1, zr_shr2, zr_shr3, zr_shr4, zr_and, zr_dyn8, zr_or, zr_shl, q_cpy_n, y_cpy26]
      exact second 5 0 rfl y D (fun i hi => by rw [hy i (Nat.zero_le i) hi]; exact F_way_b) (fun i hi => hy i (Nat.zero_le i) hi) rfl
    | succ k ih =>
      intro hk y D hD hy
      have hDm : D ≤ m := by rw [hD]; exact Nat.div_le_self _ _
      have hl0 : 0 ≤ (D : Int) := by omega
      have hl1 : (D : Int) ≤ 100000 := by omega
      have ek : ((k + 1 : Nat) : Int) - 1 = k := by omega
      have ek2 : (k : Int) + -1 = (k : Int) - 1 := by omega
      have er : q_rem D 6 = ((D % 6 : Nat) : Int) := (q_rem_e (by omega) (by omega) (by omega) (by omega)).trans (by omega)
      have ed : q_div D 6 = ((D / 6 : Nat) : Int) := (q_div_e (by omega) (by omega) (by omega) (by omega)).trans (by omega)
      have hm : 0 ≤ ((D % 6 : Nat) : Int) ∧ ((D % 6 : Nat) : Int) < 6 := by omega
      have hd : 0 ≤ ((D / 6 : Nat) : Int) ∧ ((D / 6 : Nat) : Int) ≤ 100000 := by omega
      have u1 : q_upd (q_yM M y) 121 k (((D % 6 : Nat) : Int) - 1) = q_yM M (F_u y.1 k (if D % 6 = 0 then 5 else ((D % 6 : Nat) : Int) - 1), y.2) := uy_f (by omega) (by
        by_cases c : D % 6 = 0
        · rw [if_pos c, c]
          rfl
        · rw [if_neg c]
          exact m_raw_n (by omega) (by omega))
      rw [ek, b_X6_sitsBy_9]
      simp (disch := omega) only [b_X6_sitsBy_0, x_loadI_1, x_storeI_2, x_loadR_0, x_loadS_0, f_6_0, x_iconst, x_isub, x_storeI_3, x_loadI_3, y_if_lt_t, y_if_lt_f, b_X6_sitsBy_13, f_6_33, x_loadI_2, y_irem, y_iast_25, y_iast_40, y_idiv, x_iinc_3, x_goto, b_X6_sitsBy_36, y_ic_ge_t, y_ic_ge_f, b_X6_sitsBy_43, f_6_3, x_imul, x_iadd, y_iald_25, y_iald_40, y_ic_le_t, y_ic_le_f, b_X6_sitsBy_61, x_ret1_0, x_ret1_1, b_X6_sitsBy_63, b_X6_sitsBy_69, q_isL_I, q_isL_R, q_isL_S, true_and, and_true, and_self, List.length_nil, List.length_cons, Nat.zero_add, x_K, x_Kn, Int.reduceToNat, Nat.reduceAdd, Nat.reduceMul, Nat.reduceLeDiff, Nat.reduceLT, Nat.zero_le, Int.reduceAdd, Int.reduceSub, Int.reduceMul, Int.reduceNeg, q_add_e, q_sub_e, q_mul_e, q_neg_e, q_upd_s, q_upd_n, zr_shr0, zr_shr1, zr_shr2, zr_shr3, zr_shr4, zr_and, zr_dyn8, zr_or, zr_shl, q_cpy_n, y_cpy26, er, ed, Int.toNat_natCast, u1, ek2]
      refine ih (by omega) _ _ ?_ (fun i hi1 hi2 => ?_)
      · rw [hD, Nat.div_div_eq_div_mul, ← Nat.pow_succ, show ((M 100 0).toNat - (k + 1)).succ = (M 100 0).toNat - k by omega]
      · show F_u y.1 k (if D % 6 = 0 then 5 else ((D % 6 : Nat) : Int) - 1) i = F_way (M 100 0).toNat m i
        by_cases e : i = k
        · rw [e, F_u_s]
          unfold F_way
          rw [show (M 100 0).toNat - 1 - k = (M 100 0).toNat - (k + 1) by omega, ← hD]
        · rw [F_u_n e]
          exact hy i (by omega) hi2
  have l := first (M 100 0).toNat (Nat.le_refl _) x m (by rw [Nat.sub_self, Nat.pow_zero, Nat.div_one]) (fun i h1 h2 => absurd h2 (by omega))
  rw [show (((M 100 0).toNat : Nat) : Int) = M 100 0 by omega] at l
  simp (disch := omega) only [b_X6_sitsBy_0, x_loadI_1, x_storeI_2, x_loadR_0, x_loadS_0, f_6_0, x_iconst, x_isub, x_storeI_3, x_loadI_3, y_if_lt_t, y_if_lt_f, b_X6_sitsBy_13, f_6_33, x_loadI_2, y_irem, y_iast_25, y_iast_40, y_idiv, x_iinc_3, x_goto, b_X6_sitsBy_36, y_ic_ge_t, y_ic_ge_f, b_X6_sitsBy_43, f_6_3, x_imul, x_iadd, y_iald_25, y_iald_40, y_ic_le_t, y_ic_le_f, b_X6_sitsBy_61, x_ret1_0, x_ret1_1, b_X6_sitsBy_63, b_X6_sitsBy_69, q_isL_I, q_isL_R, q_isL_S, true_and, and_true, and_self, List.length_nil, List.length_cons, Nat.zero_add, x_K, x_Kn, Int.reduceToNat, Nat.reduceAdd, Nat.reduceMul, Nat.reduceLeDiff, Nat.reduceLT, Nat.zero_le, Int.reduceAdd, Int.reduceSub, Int.reduceMul, Int.reduceNeg, q_add_e, q_sub_e, q_mul_e, q_neg_e, q_upd_s, q_upd_n, zr_shr0, zr_shr1, zr_shr2, zr_shr3, zr_shr4, zr_and, zr_dyn8, zr_or, zr_shl, q_cpy_n, y_cpy26, e0]
  exact l
/-- what the model's five cells say -/
def q_W5 (B : q_M) (p t : Int × Int × Int) : Prop := B 123 0 = p.1 ∧ B 123 1 = p.2.1 ∧ B 123 2 = p.2.2 ∧ B 123 3 = t.2.1 ∧ B 123 4 = t.2.2
theorem G_wS_c {V : Nat → (Nat → Int) → Int} {S : q_M} {pe : Bool} {f : Nat → Int} {x : Int × Int × Int} : (G_wS V S pe f x).1 = x.1 ∨ (G_wS V S pe f x).1 = x.1 + 1 := by
  unfold G_wS
  split
  · exact Or.inr rfl
  · exact Or.inl rfl
theorem G_w_c {V : Nat → (Nat → Int) → Int} {S : q_M} {pe : Bool} : ∀ k : Nat, 0 ≤ (G_w V S pe k).1 ∧ (G_w V S pe k).1 ≤ k
  | 0 => ⟨Int.le_refl 0, Int.le_refl 0⟩
  | k + 1 => by
    have := G_w_c (V := V) (S := S) (pe := pe) k
    rw [G_w]
    rcases G_wS_c (V := V) (S := S) (pe := pe) (f := F_way (F_n S) k) (x := G_w V S pe k) with h | h <;> omega
section W5
variable {V : Nat → (Nat → Int) → Int} {S : q_M} {k : Nat}
theorem G_w_no {pe : Bool} (h : ¬F_fits (F_way (F_n S) k) (S 6) (F_n S) 5 = true) : G_w V S pe (k + 1) = G_w V S pe k := by
  rw [G_w]
  unfold G_wS
  rw [if_neg (fun z => h z.1)]
theorem G_w_f (h : F_fits (F_way (F_n S) k) (S 6) (F_n S) 5 = true) : (G_w V S false (k + 1)).2 = (if (G_w V S false k).2.1 = -1 ∨ (G_w V S false k).2.2 < F_sum (EL V S) (F_way (F_n S) k) (F_n S) then (F_dig (F_way (F_n S) k) (F_n S), F_sum (EL V S) (F_way (F_n S) k) (F_n S)) else (G_w V S false k).2) := by
  rw [G_w]
  unfold G_wS
  rw [if_pos ⟨h, fun z => by cases z⟩]
theorem G_w_t (h : F_fits (F_way (F_n S) k) (S 6) (F_n S) 5 = true) (h2 : F_cmp (EL V S) (G_T (EW V S) (S 6) (F_way (F_n S) k) (F_n S)) (F_way (F_n S) k) (F_n S) 0 = -1) : G_w V S true (k + 1) = ((G_w V S true k).1 + 1, if (G_w V S true k).2.1 = -1 ∨ (G_w V S true k).2.2 < F_sum (EL V S) (F_way (F_n S) k) (F_n S) then (F_dig (F_way (F_n S) k) (F_n S), F_sum (EL V S) (F_way (F_n S) k) (F_n S)) else (G_w V S true k).2) := by
  rw [G_w]
  unfold G_wS
  rw [if_pos ⟨h, fun _ => h2⟩]
theorem G_w_n (h2 : ¬F_cmp (EL V S) (G_T (EW V S) (S 6) (F_way (F_n S) k) (F_n S)) (F_way (F_n S) k) (F_n S) 0 = -1) : G_w V S true (k + 1) = G_w V S true k := by
  rw [G_w]
  unfold G_wS
  rw [if_neg (fun z => h2 (z.2 rfl))]
end W5
set_option maxHeartbeats 8000000 in
theorem mp_waysE {V : Nat → (Nat → Int) → Int} {d : Nat} {g : q_G} {M : q_M} {Q : Option q_V → q_G → q_M → Prop} (hm : q_ml V M) (hq : ∀ M2 : q_M, q_mq M M2 → q_W5 M2 (G_w V (mW M) true (6 ^ F_n (mW M))) (G_w V (mW M) false (6 ^ F_n (mW M))) → Q none g M2) : q_S 1 (d + 5) 173 [qR 6 100] g M Q := by
  have n0 := hm.1.1
  have tell : ∀ (nx : Nat) (ops : List Instr) (ls st : List q_V), (∀ M2 : q_M, m_td V M M2 → q_T 1 (d + 5) qP_X6_tellsWays nx ops ls st g M2 Q) → q_S 1 (d + 4) 159 [qR 6 100] g M (q_K 1 (d + 5) qP_X6_tellsWays nx ops ls st Q) := fun nx ops ls st h => mp_tellsAll hm h
  rw [s_X6_tellsWays]
  simp (disch := omega) only [b_X6_tellsWays_0, x_loadR_0, x_loadS_0, x_iconst, x_storeI_1, x_storeI_2, x_loadI_2, f_6_0, y_ic_ge_t, y_ic_ge_f, b_X6_tellsWays_16, x_loadI_1, x_imul, x_iinc_2, x_goto, f_6_35, y_iast_25, b_X6_tellsWays_69, y_if_eq_t, y_if_eq_f, b_X6_tellsWays_77, x_storeI_3, y_iald_25, y_ic_eq_t, y_ic_eq_f, b_X6_tellsWays_93, x_loadI_3, y_ic_le_t, y_ic_le_f, b_X6_tellsWays_103, b_X6_tellsWays_120, y_ic_ne_t, y_ic_ne_f, b_X6_tellsWays_128, x_dup2, x_iadd, b_X6_tellsWays_148, b_X6_tellsWays_158, b_X6_tellsWays_162, b_X6_tellsWays_163, x_storeI_4, x_loadI_4, b_X6_tellsWays_175, b_X6_tellsWays_182, b_X6_tellsWays_188, b_X6_tellsWays_199, b_X6_tellsWays_203, b_X6_tellsWays_209, b_X6_tellsWays_210, b_X6_tellsWays_216, x_vret, q_isL_I, q_isL_R, q_isL_S, true_and, and_true, and_self, List.length_nil, List.length_cons, Nat.zero_add, x_K, x_Kn, Int.reduceToNat, Nat.reduceAdd, Nat.reduceMul, Nat.reduceLeDiff, Nat.reduceLT, Nat.zero_le, Int.reduceAdd, Int.reduceSub, Int.reduceMul, Int.reduceNeg, q_add_e, q_sub_e, q_mul_e, q_neg_e, q_upd_s, q_upd_n, zr_shr0, zr_shr1, zr_shr2, zr_shr3, zr_shr4, zr_and, zr_dyn8, zr_or, zr_shl, q_cpy_n, y_cpy26, c_X6_tellsAll]
  refine tell _ _ _ _ (fun M2 h2 => ?_)
  simp (disch := omega) only [b_X6_tellsWays_0, x_loadR_0, x_loadS_0, x_iconst, x_storeI_1, x_storeI_2, x_loadI_2, f_6_0, y_ic_ge_t, y_ic_ge_f, b_X6_tellsWays_16, x_loadI_1, x_imul, x_iinc_2, x_goto, f_6_35, y_iast_25, b_X6_tellsWays_69, y_if_eq_t, y_if_eq_f, b_X6_tellsWays_77, x_storeI_3, y_iald_25, y_ic_eq_t, y_ic_eq_f, b_X6_tellsWays_93, x_loadI_3, y_ic_le_t, y_ic_le_f, b_X6_tellsWays_103, b_X6_tellsWays_120, y_ic_ne_t, y_ic_ne_f, b_X6_tellsWays_128, x_dup2, x_iadd, b_X6_tellsWays_148, b_X6_tellsWays_158, b_X6_tellsWays_162, b_X6_tellsWays_163, x_storeI_4, x_loadI_4, b_X6_tellsWays_175, b_X6_tellsWays_182, b_X6_tellsWays_188, b_X6_tellsWays_199, b_X6_tellsWays_203, b_X6_tellsWays_209, b_X6_tellsWays_210, b_X6_tellsWays_216, x_vret, q_isL_I, q_isL_R, q_isL_S, true_and, and_true, and_self, List.length_nil, List.length_cons, Nat.zero_add, x_K, x_Kn, Int.reduceToNat, Nat.reduceAdd, Nat.reduceMul, Nat.reduceLeDiff, Nat.reduceLT, Nat.zero_le, Int.reduceAdd, Int.reduceSub, Int.reduceMul, Int.reduceNeg, q_add_e, q_sub_e, q_mul_e, q_neg_e, q_upd_s, q_upd_n, zr_shr0, zr_shr1, zr_shr2, zr_shr3, zr_shr4, zr_and, zr_dyn8, zr_or, zr_shl, q_cpy_n, y_cpy26]
  have e0 : M2 100 0 = M 100 0 := h2.1 100 0 (by omega) (by omega)
  have bL := m_td_L h2
  have bW := m_td_W hm h2
  obtain ⟨_, tL, tW, _, tR, _⟩ := m_td_e hm.1 h2
  have en : F_n (mW M) = (M 100 0).toNat := rfl
  have n5 : F_n (mW M) ≤ 5 := by omega
  have en2 : (M2 100 0).toNat = F_n (mW M) := by rw [e0]; rfl
  have main : ∀ N : Int, 0 ≤ N → N ≤ 100000 → N = ((6 ^ F_n (mW M) : Nat) : Int) → ∀ j k : Nat, (k : Int) + j = N → ∀ (B : q_M) (x : (Nat → Int) × (Nat → Int)) (l3 l4 : q_V), q_isL l3 = false → q_isL l4 = false → (∀ a i, a ≠ 123 → B a i = M2 a i) → q_W5 B (G_w V (mW M) true k) (G_w V (mW M) false k) → q_T 1 (d + 5) qP_X6_tellsWays 64 [] [qR 6 100, qI N, qI k, l3, l4] [] g (q_yM B x) Q := by
    intro N hN0 hN1 hN6 j
    induction j with
    | zero =>
      intro k hk B x l3 l4 hl3 hl4 hB hG
      rw [b_X6_tellsWays_64]
      simp (disch := omega) only [b_X6_tellsWays_0, x_loadR_0, x_loadS_0, x_iconst, x_storeI_1, x_storeI_2, b_X6_tellsWays_8, x_loadI_2, f_6_0, y_ic_ge_t, y_ic_ge_f, b_X6_tellsWays_16, x_loadI_1, x_imul, x_iinc_2, x_goto, b_X6_tellsWays_27, f_6_35, y_iast_25, b_X6_tellsWays_69, y_if_eq_t, y_if_eq_f, b_X6_tellsWays_77, x_storeI_3, y_iald_25, y_ic_eq_t, y_ic_eq_f, b_X6_tellsWays_93, x_loadI_3, y_ic_le_t, y_ic_le_f, b_X6_tellsWays_103, b_X6_tellsWays_120, y_ic_ne_t, y_ic_ne_f, b_X6_tellsWays_128, x_dup2, x_iadd, b_X6_tellsWays_148, b_X6_tellsWays_158, b_X6_tellsWays_162, b_X6_tellsWays_163, x_storeI_4, x_loadI_4, b_X6_tellsWays_175, b_X6_tellsWays_182, b_X6_tellsWays_188, b_X6_tellsWays_199, b_X6_tellsWays_203, b_X6_tellsWays_209, b_X6_tellsWays_210, b_X6_tellsWays_216, x_vret, q_isL_I, q_isL_R, q_isL_S, true_and, and_true, and_self, List.length_nil, List.length_cons, Nat.zero_add, x_K, x_Kn, Int.reduceToNat, Nat.reduceAdd, Nat.reduceMul, Nat.reduceLeDiff, Nat.reduceLT, Nat.zero_le, Int.reduceAdd, Int.reduceSub, Int.reduceMul, Int.reduceNeg, q_add_e, q_sub_e, q_mul_e, q_neg_e, q_upd_s, q_upd_n, zr_shr0, zr_shr1, zr_shr2, zr_shr3, zr_shr4, zr_and, zr_dyn8, zr_or, zr_shl, q_cpy_n, y_cpy26]
      have ek : k = 6 ^ F_n (mW M) := by omega
      rw [ek] at hG
      exact hq _ (q_mq_yM (fun a i q1 q2 => (hB a i (by omega)).trans (h2.1 a i q1 q2))) ⟨(ry_n (by omega) (by omega)).trans hG.1, (ry_n (by omega) (by omega)).trans hG.2.1, (ry_n (by omega) (by omega)).trans hG.2.2.1, (ry_n (by omega) (by omega)).trans hG.2.2.2.1, (ry_n (by omega) (by omega)).trans hG.2.2.2.2⟩
    | succ j ih =>
      intro k hk B x l3 l4 hl3 hl4 hB hG
      have eB0 : B 100 0 = M2 100 0 := hB 100 0 (by omega)
      have eL : mL B = mL M2 := by
        funext p b
        unfold mL
        rw [hB 119 _ (by omega)]
      have eW : mWn B = mWn M2 := by
        funext p b
        unfold mWn
        rw [hB 120 _ (by omega)]
      have nxt : ∀ (B2 : q_M) (y : (Nat → Int) × (Nat → Int)) (l3 l4 : q_V), q_isL l3 = false → q_isL l4 = false → (∀ a i, a ≠ 123 → B2 a i = M2 a i) → q_W5 B2 (G_w V (mW M) true (k + 1)) (G_w V (mW M) false (k + 1)) → q_T 1 (d + 5) qP_X6_tellsWays 210 [] [qR 6 100, qI N, qI k, l3, l4] [] g (q_yM B2 y) Q := by
        intro B2 y l3 l4 h3 h4 hB2 hG2
        rw [b_X6_tellsWays_210]
        simp (disch := omega) only [b_X6_tellsWays_0, x_loadR_0, x_loadS_0, x_iconst, x_storeI_1, x_storeI_2, b_X6_tellsWays_8, x_loadI_2, f_6_0, y_ic_ge_t, y_ic_ge_f, b_X6_tellsWays_16, x_loadI_1, x_imul, x_iinc_2, x_goto, b_X6_tellsWays_27, f_6_35, y_iast_25, b_X6_tellsWays_69, y_if_eq_t, y_if_eq_f, b_X6_tellsWays_77, x_storeI_3, y_iald_25, y_ic_eq_t, y_ic_eq_f, b_X6_tellsWays_93, x_loadI_3, y_ic_le_t, y_ic_le_f, b_X6_tellsWays_103, b_X6_tellsWays_120, y_ic_ne_t, y_ic_ne_f, b_X6_tellsWays_128, x_dup2, x_iadd, b_X6_tellsWays_148, b_X6_tellsWays_158, b_X6_tellsWays_162, b_X6_tellsWays_163, x_storeI_4, x_loadI_4, b_X6_tellsWays_175, b_X6_tellsWays_182, b_X6_tellsWays_188, b_X6_tellsWays_199, b_X6_tellsWays_203, b_X6_tellsWays_209, b_X6_tellsWays_216, x_vret, q_isL_I, q_isL_R, q_isL_S, true_and, and_true, and_self, List.length_nil, List.length_cons, Nat.zero_add, x_K, x_Kn, Int.reduceToNat, Nat.reduceAdd, Nat.reduceMul, Nat.reduceLeDiff, Nat.reduceLT, Nat.zero_le, Int.reduceAdd, Int.reduceSub, Int.reduceMul, Int.reduceNeg, q_add_e, q_sub_e, q_mul_e, q_neg_e, q_upd_s, q_upd_n, zr_shr0, zr_shr1, zr_shr2, zr_shr3, zr_shr4, zr_and, zr_dyn8, zr_or, zr_shl, q_cpy_n, y_cpy26]
        exact ih (k + 1) (by omega) B2 y l3 l4 h3 h4 hB2 hG2
      have sits : ∀ (nx : Nat) (ops : List Instr) (ls st : List q_V), (∀ y : (Nat → Int) × (Nat → Int), (∀ i, i < (B 100 0).toNat → y.1 i = F_way (B 100 0).toNat k i) → q_T 1 (d + 5) qP_X6_tellsWays nx ops ls (qI (if F_fits y.1 (mR B) (B 100 0).toNat 5 = true then 1 else 0) :: st) g (q_yM B y) Q) → q_S 1 (d + 4) 172 [qR 6 100, qI k] g (q_yM B x) (q_K 1 (d + 5) qP_X6_tellsWays nx ops ls st Q) := fun nx ops ls st h => mp_sitsByE (by omega) (by omega) (by omega) h
      rw [b_X6_tellsWays_64]
      simp (disch := omega) only [b_X6_tellsWays_0, x_loadR_0, x_loadS_0, x_iconst, x_storeI_1, x_storeI_2, b_X6_tellsWays_8, x_loadI_2, f_6_0, y_ic_ge_t, y_ic_ge_f, b_X6_tellsWays_16, x_loadI_1, x_imul, x_iinc_2, x_goto, b_X6_tellsWays_27, f_6_35, y_iast_25, b_X6_tellsWays_69, y_if_eq_t, y_if_eq_f, b_X6_tellsWays_77, x_storeI_3, y_iald_25, y_ic_eq_t, y_ic_eq_f, b_X6_tellsWays_93, x_loadI_3, y_ic_le_t, y_ic_le_f, b_X6_tellsWays_103, b_X6_tellsWays_120, y_ic_ne_t, y_ic_ne_f, b_X6_tellsWays_128, x_dup2, x_iadd, b_X6_tellsWays_148, b_X6_tellsWays_158, b_X6_tellsWays_162, b_X6_tellsWays_163, x_storeI_4, x_loadI_4, b_X6_tellsWays_175, b_X6_tellsWays_182, b_X6_tellsWays_188, b_X6_tellsWays_199, b_X6_tellsWays_203, b_X6_tellsWays_209, b_X6_tellsWays_216, x_vret, q_isL_I, q_isL_R, q_isL_S, true_and, and_true, and_self, List.length_nil, List.length_cons, Nat.zero_add, x_K, x_Kn, Int.reduceToNat, Nat.reduceAdd, Nat.reduceMul, Nat.reduceLeDiff, Nat.reduceLT, Nat.zero_le, Int.reduceAdd, Int.reduceSub, Int.reduceMul, Int.reduceNeg, q_add_e, q_sub_e, q_mul_e, q_neg_e, q_upd_s, q_upd_n, zr_shr0, zr_shr1, zr_shr2, zr_shr3, zr_shr4, zr_and, zr_dyn8, zr_or, zr_shl, q_cpy_n, y_cpy26, c_X6_sitsBy]
      refine sits _ _ _ _ (fun y hw => ?_)
      have eBn : (B 100 0).toNat = F_n (mW M) := by rw [eB0]; exact en2
      have hy : q_x5 (B 100 0).toNat y := fun i hi => by rw [hw i hi]; exact F_way_b
      rw [eBn] at hw
      have eR : ∀ c, c < 5 → mR B c = mW M 6 c := fun c hc => by
        have : mR B c = mR M2 c := hB 103 _ (by omega)
        rw [this]
        exact tR c hc
      have y5 : ∀ i, i < F_n (mW M) → 0 ≤ y.1 i ∧ y.1 i ≤ 5 := fun i hi => by rw [hw i hi]; exact F_way_b
      have eF : F_fits y.1 (mR B) (B 100 0).toNat 5 = F_fits (F_way (F_n (mW M)) k) (mW M 6) (F_n (mW M)) 5 := by
        rw [eBn]
        exact F_fits_e hw eR 5 (Nat.le_refl 5)
      have eS : F_sum (mL B) y.1 (B 100 0).toNat = F_sum (EL V (mW M)) (F_way (F_n (mW M)) k) (F_n (mW M)) := by
        rw [eBn, eL]
        exact F_sum_e (N := F_n (mW M)) tL hw y5 _ (Nat.le_refl _)
      have eD : F_dig y.1 (F_n (mW M)) = F_dig (F_way (F_n (mW M)) k) (F_n (mW M)) := F_dig_cong _ hw
      have kc := G_w_c (V := V) (S := mW M) (pe := true) k
      rw [eF]
      by_cases hv : F_fits (F_way (F_n (mW M)) k) (mW M 6) (F_n (mW M)) 5 = true
      rotate_left
      · rw [if_neg hv]
        simp (disch := omega) only [b_X6_tellsWays_0, x_loadR_0, x_loadS_0, x_iconst, x_storeI_1, x_storeI_2, b_X6_tellsWays_8, x_loadI_2, f_6_0, y_ic_ge_t, y_ic_ge_f, b_X6_tellsWays_16, x_loadI_1, x_imul, x_iinc_2, x_goto, b_X6_tellsWays_27, f_6_35, y_iast_25, b_X6_tellsWays_69, y_if_eq_t, y_if_eq_f, b_X6_tellsWays_77, x_storeI_3, y_iald_25, y_ic_eq_t, y_ic_eq_f, b_X6_tellsWays_93, x_loadI_3, y_ic_le_t, y_ic_le_f, b_X6_tellsWays_103, b_X6_tellsWays_120, y_ic_ne_t, y_ic_ne_f, b_X6_tellsWays_128, x_dup2, x_iadd, b_X6_tellsWays_148, b_X6_tellsWays_158, b_X6_tellsWays_162, b_X6_tellsWays_163, x_storeI_4, x_loadI_4, b_X6_tellsWays_175, b_X6_tellsWays_182, b_X6_tellsWays_188, b_X6_tellsWays_199, b_X6_tellsWays_203, b_X6_tellsWays_209, b_X6_tellsWays_216, x_vret, q_isL_I, q_isL_R, q_isL_S, true_and, and_true, and_self, List.length_nil, List.length_cons, Nat.zero_add, x_K, x_Kn, Int.reduceToNat, Nat.reduceAdd, Nat.reduceMul, Nat.reduceLeDiff, Nat.reduceLT, Nat.zero_le, Int.reduceAdd, Int.reduceSub, Int.reduceMul, Int.reduceNeg, q_add_e, q_sub_e, q_mul_e, q_neg_e, q_upd_s, q_upd_n, zr_shr0, zr_shr1, zr_shr2, zr_shr3, zr_shr4, zr_and, zr_dyn8, zr_or, zr_shl, q_cpy_n, y_cpy26]
        exact nxt B y l3 l4 hl3 hl4 hB (by rw [G_w_no hv, G_w_no hv]; exact hG)
      · rw [if_pos hv]
        have sm := fun (QQ : Option q_V → q_G → q_M → Prop) => mp_sumOf (d := d + 4) (g := g) (wt := 1) (M := B) (x := y) (by omega) (by omega) hy (by rw [eL, eB0]; exact bL) (by rw [eW, eB0]; exact bW) QQ
        have r123 : ∀ (B2 : q_M) i, q_yM B2 y 123 i = B2 123 i := fun B2 i => ry_n (by omega) (by omega)
        have uB : ∀ (B2 : q_M) i v, q_upd (q_yM B2 y) 123 i v = q_yM (q_upd B2 123 i v) y := fun B2 i v => q_yM_up (by omega) (by omega)
        -- behind the best of all
        have ag : ∀ (B2 : q_M) (s : Int) (l4 : q_V), q_isL l4 = false → (∀ a i, a ≠ 123 → B2 a i = M2 a i) → s = F_sum (EL V (mW M)) (F_way (F_n (mW M)) k) (F_n (mW M)) → q_W5 B2 (G_w V (mW M) true k) (G_w V (mW M) false (k + 1)) → q_T 1 (d + 5) qP_X6_tellsWays 120 [] [qR 6 100, qI N, qI k, qI s, l4] [] g (q_yM B2 y) Q := by
          intro B2 s l4 hl4 hB2 hs hG2
          have eB2 : B2 100 0 = M2 100 0 := hB2 100 0 (by omega)
          have hy2 : q_x5 (B2 100 0).toNat y := by rw [eB2, ← eB0]; exact hy
          rw [b_X6_tellsWays_120]
          simp (disch := omega) only [b_X6_tellsWays_0, x_loadR_0, x_loadS_0, x_iconst, x_storeI_1, x_storeI_2, b_X6_tellsWays_8, x_loadI_2, f_6_0, y_ic_ge_t, y_ic_ge_f, b_X6_tellsWays_16, x_loadI_1, x_imul, x_iinc_2, x_goto, b_X6_tellsWays_27, f_6_35, y_iast_25, b_X6_tellsWays_69, y_if_eq_t, y_if_eq_f, b_X6_tellsWays_77, x_storeI_3, y_iald_25, y_ic_eq_t, y_ic_eq_f, b_X6_tellsWays_93, x_loadI_3, y_ic_le_t, y_ic_le_f, b_X6_tellsWays_103, y_ic_ne_t, y_ic_ne_f, b_X6_tellsWays_128, x_dup2, x_iadd, b_X6_tellsWays_148, b_X6_tellsWays_158, b_X6_tellsWays_162, b_X6_tellsWays_163, x_storeI_4, x_loadI_4, b_X6_tellsWays_175, b_X6_tellsWays_182, b_X6_tellsWays_188, b_X6_tellsWays_199, b_X6_tellsWays_203, b_X6_tellsWays_209, b_X6_tellsWays_216, x_vret, q_isL_I, q_isL_R, q_isL_S, true_and, and_true, and_self, List.length_nil, List.length_cons, Nat.zero_add, x_K, x_Kn, Int.reduceToNat, Nat.reduceAdd, Nat.reduceMul, Nat.reduceLeDiff, Nat.reduceLT, Nat.zero_le, Int.reduceAdd, Int.reduceSub, Int.reduceMul, Int.reduceNeg, q_add_e, q_sub_e, q_mul_e, q_neg_e, q_upd_s, q_upd_n, zr_shr0, zr_shr1, zr_shr2, zr_shr3, zr_shr4, zr_and, zr_dyn8, zr_or, zr_shl, q_cpy_n, y_cpy26, c_X6_against, mp_against, hy2]
          have eC : F_cmp (mL B2) (G_T (mWn B2) (mR B2) y.1 (B2 100 0).toNat) y.1 (B2 100 0).toNat 0 = F_cmp (EL V (mW M)) (G_T (EW V (mW M)) (mW M 6) (F_way (F_n (mW M)) k) (F_n (mW M))) (F_way (F_n (mW M)) k) (F_n (mW M)) 0 := by
            have eL2 : mL B2 = mL M2 := by
              funext p b
              unfold mL
              rw [hB2 119 _ (by omega)]
            have eW2 : mWn B2 = mWn M2 := by
              funext p b
              unfold mWn
              rw [hB2 120 _ (by omega)]
            have eR2 : ∀ c, c < 5 → mR B2 c = mW M 6 c := fun c hc => by
              have : mR B2 c = mR M2 c := hB2 103 _ (by omega)
              rw [this]
              exact tR c hc
            rw [eB2, en2, eL2, eW2]
            refine F_cmp_e (n := F_n (mW M)) tL hw y5 (fun p b hp hb hn => ?_) _ 0 (by omega)
            unfold G_T
            rw [eR2 b hb]
            exact F_takes_cong hw (fun q hq => tW q b hq (by omega)) hp
          rw [eC]
          generalize ha : F_cmp (EL V (mW M)) (G_T (EW V (mW M)) (mW M 6) (F_way (F_n (mW M)) k) (F_n (mW M))) (F_way (F_n (mW M)) k) (F_n (mW M)) 0 = a
          have hg0 : q_add (B2 123 0) 1 = (G_w V (mW M) true k).1 + 1 := by rw [hG2.1]; exact q_add_e (by omega) (by omega)
          by_cases c1 : a = -1
          · have h163 : ∀ (B3 : q_M) (m : Int), ((m = 0 ∧ ¬((G_w V (mW M) true k).2.1 = -1 ∨ (G_w V (mW M) true k).2.2 < s)) ∨ (m = 1 ∧ ((G_w V (mW M) true k).2.1 = -1 ∨ (G_w V (mW M) true k).2.2 < s))) → (∀ a i, a ≠ 123 → B3 a i = M2 a i) → (B3 123 0 = (G_w V (mW M) true k).1 + 1 ∧ ∀ i, i ≠ 0 → B3 123 i = B2 123 i) → q_T 1 (d + 5) qP_X6_tellsWays 163 [] [qR 6 100, qI N, qI k, qI s, l4] [qI m] g (q_yM B3 y) Q := by
              intro B3 m hm hB3 hg3
              have eB3 : B3 100 0 = M2 100 0 := hB3 100 0 (by omega)
              have hy3 : q_x5 (B3 100 0).toNat y := by rw [eB3, ← eB0]; exact hy
              rw [b_X6_tellsWays_163]
              have eD3 : F_dig y.1 (B3 100 0).toNat = F_dig (F_way (F_n (mW M)) k) (F_n (mW M)) := by rw [eB3, en2]; exact eD
              have gt := G_w_t (V := V) hv (ha.trans c1)
              rw [← hs] at gt
              obtain ⟨g0, g1, g2, g3, g4⟩ := hG2
              rcases hm with ⟨hm, hc⟩ | ⟨hm, hc⟩
              · subst hm
                simp (disch := omega) only [b_X6_tellsWays_0, x_loadR_0, x_loadS_0, x_iconst, x_storeI_1, x_storeI_2, b_X6_tellsWays_8, x_loadI_2, f_6_0, y_ic_ge_t, y_ic_ge_f, b_X6_tellsWays_16, x_loadI_1, x_imul, x_iinc_2, x_goto, b_X6_tellsWays_27, f_6_35, y_iast_25, b_X6_tellsWays_69, y_if_eq_t, y_if_eq_f, b_X6_tellsWays_77, x_storeI_3, y_iald_25, y_ic_eq_t, y_ic_eq_f, b_X6_tellsWays_93, x_loadI_3, y_ic_le_t, y_ic_le_f, b_X6_tellsWays_103, y_ic_ne_t, y_ic_ne_f, b_X6_tellsWays_128, x_dup2, x_iadd, b_X6_tellsWays_148, b_X6_tellsWays_158, b_X6_tellsWays_162, x_storeI_4, x_loadI_4, b_X6_tellsWays_175, b_X6_tellsWays_182, b_X6_tellsWays_188, b_X6_tellsWays_199, b_X6_tellsWays_203, b_X6_tellsWays_209, b_X6_tellsWays_216, x_vret, q_isL_I, q_isL_R, q_isL_S, true_and, and_true, and_self, List.length_nil, List.length_cons, Nat.zero_add, x_K, x_Kn, Int.reduceToNat, Nat.reduceAdd, Nat.reduceMul, Nat.reduceLeDiff, Nat.reduceLT, Nat.zero_le, Int.reduceAdd, Int.reduceSub, Int.reduceMul, Int.reduceNeg, q_add_e, q_sub_e, q_mul_e, q_neg_e, q_upd_s, q_upd_n, zr_shr0, zr_shr1, zr_shr2, zr_shr3, zr_shr4, zr_and, zr_dyn8, zr_or, zr_shl, q_cpy_n, y_cpy26, hl4, r123, uB]
                exact nxt _ y _ _ rfl rfl (fun a i ha => (q_upd_n (by omega)).trans ((q_upd_n (by omega)).trans (hB3 a i ha))) (by
                  rw [gt, if_neg hc]
                  refine ⟨?_, ?_, ?_, ?_, ?_⟩ <;> simp (disch := omega) only [q_upd_s, q_upd_n, hg3.1, hg3.2, g1, g2, g3, g4])
              · subst hm
                simp (disch := omega) only [b_X6_tellsWays_0, x_loadR_0, x_loadS_0, x_iconst, x_storeI_1, x_storeI_2, b_X6_tellsWays_8, x_loadI_2, f_6_0, y_ic_ge_t, y_ic_ge_f, b_X6_tellsWays_16, x_loadI_1, x_imul, x_iinc_2, x_goto, b_X6_tellsWays_27, f_6_35, y_iast_25, b_X6_tellsWays_69, y_if_eq_t, y_if_eq_f, b_X6_tellsWays_77, x_storeI_3, y_iald_25, y_ic_eq_t, y_ic_eq_f, b_X6_tellsWays_93, x_loadI_3, y_ic_le_t, y_ic_le_f, b_X6_tellsWays_103, y_ic_ne_t, y_ic_ne_f, b_X6_tellsWays_128, x_dup2, x_iadd, b_X6_tellsWays_148, b_X6_tellsWays_158, b_X6_tellsWays_162, x_storeI_4, x_loadI_4, b_X6_tellsWays_175, b_X6_tellsWays_182, b_X6_tellsWays_188, b_X6_tellsWays_199, b_X6_tellsWays_203, b_X6_tellsWays_209, b_X6_tellsWays_216, x_vret, q_isL_I, q_isL_R, q_isL_S, true_and, and_true, and_self, List.length_nil, List.length_cons, Nat.zero_add, x_K, x_Kn, Int.reduceToNat, Nat.reduceAdd, Nat.reduceMul, Nat.reduceLeDiff, Nat.reduceLT, Nat.zero_le, Int.reduceAdd, Int.reduceSub, Int.reduceMul, Int.reduceNeg, q_add_e, q_sub_e, q_mul_e, q_neg_e, q_upd_s, q_upd_n, zr_shr0, zr_shr1, zr_shr2, zr_shr3, zr_shr4, zr_and, zr_dyn8, zr_or, zr_shl, q_cpy_n, y_cpy26, hl4, r123, uB, c_X6_sittingDigits, mp_sittingDigits, hy3]
                exact nxt _ y _ _ rfl rfl (fun a i ha => (q_upd_n (by omega)).trans ((q_upd_n (by omega)).trans (hB3 a i ha))) (by
                  rw [gt, if_pos hc]
                  refine ⟨?_, ?_, ?_, ?_, ?_⟩ <;> simp (disch := omega) only [q_upd_s, q_upd_n, hg3.1, hg3.2, g1, g2, g3, g4, eD3])
            have f1 : ∀ a i, a ≠ 123 → q_upd B2 123 0 (q_add (B2 123 0) 1) a i = M2 a i := fun a i ha => (q_upd_n (by omega)).trans (hB2 a i ha)
            have f2 : q_upd B2 123 0 (q_add (B2 123 0) 1) 123 0 = (G_w V (mW M) true k).1 + 1 ∧ ∀ i, i ≠ 0 → q_upd B2 123 0 (q_add (B2 123 0) 1) 123 i = B2 123 i := ⟨q_upd_s.trans hg0, fun i hi => q_upd_n (by omega)⟩
            have r1 : q_upd B2 123 0 (q_add (B2 123 0) 1) 123 1 = B2 123 1 := q_upd_n (by omega)
            have r2 : q_upd B2 123 0 (q_add (B2 123 0) 1) 123 2 = B2 123 2 := q_upd_n (by omega)
            by_cases c2 : B2 123 1 = -1
            · simp (disch := omega) only [b_X6_tellsWays_0, x_loadR_0, x_loadS_0, x_iconst, x_storeI_1, x_storeI_2, b_X6_tellsWays_8, x_loadI_2, f_6_0, y_ic_ge_t, y_ic_ge_f, b_X6_tellsWays_16, x_loadI_1, x_imul, x_iinc_2, x_goto, b_X6_tellsWays_27, f_6_35, y_iast_25, b_X6_tellsWays_69, y_if_eq_t, y_if_eq_f, b_X6_tellsWays_77, x_storeI_3, y_iald_25, y_ic_eq_t, y_ic_eq_f, b_X6_tellsWays_93, x_loadI_3, y_ic_le_t, y_ic_le_f, b_X6_tellsWays_103, y_ic_ne_t, y_ic_ne_f, b_X6_tellsWays_128, x_dup2, x_iadd, b_X6_tellsWays_148, b_X6_tellsWays_158, b_X6_tellsWays_162, x_storeI_4, x_loadI_4, b_X6_tellsWays_175, b_X6_tellsWays_182, b_X6_tellsWays_188, b_X6_tellsWays_199, b_X6_tellsWays_203, b_X6_tellsWays_209, b_X6_tellsWays_216, x_vret, q_isL_I, q_isL_R, q_isL_S, true_and, and_true, and_self, List.length_nil, List.length_cons, Nat.zero_add, x_K, x_Kn, Int.reduceToNat, Nat.reduceAdd, Nat.reduceMul, Nat.reduceLeDiff, Nat.reduceLT, Nat.zero_le, Int.reduceAdd, Int.reduceSub, Int.reduceMul, Int.reduceNeg, q_sub_e, q_mul_e, q_neg_e, q_upd_s, q_upd_n, zr_shr0, zr_shr1, zr_shr2, zr_shr3, zr_shr4, zr_and, zr_dyn8, zr_or, zr_shl, q_cpy_n, y_cpy26, r123, uB, r1, r2]
              exact h163 _ 1 (Or.inr ⟨rfl, Or.inl (by rw [← hG2.2.1]; exact c2)⟩) f1 f2
            · by_cases c3 : s ≤ B2 123 2
              · simp (disch := omega) only [b_X6_tellsWays_0, x_loadR_0, x_loadS_0, x_iconst, x_storeI_1, x_storeI_2, b_X6_tellsWays_8, x_loadI_2, f_6_0, y_ic_ge_t, y_ic_ge_f, b_X6_tellsWays_16, x_loadI_1, x_imul, x_iinc_2, x_goto, b_X6_tellsWays_27, f_6_35, y_iast_25, b_X6_tellsWays_69, y_if_eq_t, y_if_eq_f, b_X6_tellsWays_77, x_storeI_3, y_iald_25, y_ic_eq_t, y_ic_eq_f, b_X6_tellsWays_93, x_loadI_3, y_ic_le_t, y_ic_le_f, b_X6_tellsWays_103, y_ic_ne_t, y_ic_ne_f, b_X6_tellsWays_128, x_dup2, x_iadd, b_X6_tellsWays_148, b_X6_tellsWays_158, b_X6_tellsWays_162, x_storeI_4, x_loadI_4, b_X6_tellsWays_175, b_X6_tellsWays_182, b_X6_tellsWays_188, b_X6_tellsWays_199, b_X6_tellsWays_203, b_X6_tellsWays_209, b_X6_tellsWays_216, x_vret, q_isL_I, q_isL_R, q_isL_S, true_and, and_true, and_self, List.length_nil, List.length_cons, Nat.zero_add, x_K, x_Kn, Int.reduceToNat, Nat.reduceAdd, Nat.reduceMul, Nat.reduceLeDiff, Nat.reduceLT, Nat.zero_le, Int.reduceAdd, Int.reduceSub, Int.reduceMul, Int.reduceNeg, q_sub_e, q_mul_e, q_neg_e, q_upd_s, q_upd_n, zr_shr0, zr_shr1, zr_shr2, zr_shr3, zr_shr4, zr_and, zr_dyn8, zr_or, zr_shl, q_cpy_n, y_cpy26, r123, uB, r1, r2]
                exact h163 _ 0 (Or.inl ⟨rfl, by rw [← hG2.2.1, ← hG2.2.2.1]; omega⟩) f1 f2
              · simp (disch := omega) only [b_X6_tellsWays_0, x_loadR_0, x_loadS_0, x_iconst, x_storeI_1, x_storeI_2, b_X6_tellsWays_8, x_loadI_2, f_6_0, y_ic_ge_t, y_ic_ge_f, b_X6_tellsWays_16, x_loadI_1, x_imul, x_iinc_2, x_goto, b_X6_tellsWays_27, f_6_35, y_iast_25, b_X6_tellsWays_69, y_if_eq_t, y_if_eq_f, b_X6_tellsWays_77, x_storeI_3, y_iald_25, y_ic_eq_t, y_ic_eq_f, b_X6_tellsWays_93, x_loadI_3, y_ic_le_t, y_ic_le_f, b_X6_tellsWays_103, y_ic_ne_t, y_ic_ne_f, b_X6_tellsWays_128, x_dup2, x_iadd, b_X6_tellsWays_148, b_X6_tellsWays_158, b_X6_tellsWays_162, x_storeI_4, x_loadI_4, b_X6_tellsWays_175, b_X6_tellsWays_182, b_X6_tellsWays_188, b_X6_tellsWays_199, b_X6_tellsWays_203, b_X6_tellsWays_209, b_X6_tellsWays_216, x_vret, q_isL_I, q_isL_R, q_isL_S, true_and, and_true, and_self, List.length_nil, List.length_cons, Nat.zero_add, x_K, x_Kn, Int.reduceToNat, Nat.reduceAdd, Nat.reduceMul, Nat.reduceLeDiff, Nat.reduceLT, Nat.zero_le, Int.reduceAdd, Int.reduceSub, Int.reduceMul, Int.reduceNeg, q_sub_e, q_mul_e, q_neg_e, q_upd_s, q_upd_n, zr_shr0, zr_shr1, zr_shr2, zr_shr3, zr_shr4, zr_and, zr_dyn8, zr_or, zr_shl, q_cpy_n, y_cpy26, r123, uB, r1, r2]
                exact h163 _ 1 (Or.inr ⟨rfl, Or.inr (by rw [← hG2.2.2.1]; omega)⟩) f1 f2
          · simp (disch := omega) only [b_X6_tellsWays_0, x_loadR_0, x_loadS_0, x_iconst, x_storeI_1, x_storeI_2, b_X6_tellsWays_8, x_loadI_2, f_6_0, y_ic_ge_t, y_ic_ge_f, b_X6_tellsWays_16, x_loadI_1, x_imul, x_iinc_2, x_goto, b_X6_tellsWays_27, f_6_35, y_iast_25, b_X6_tellsWays_69, y_if_eq_t, y_if_eq_f, b_X6_tellsWays_77, x_storeI_3, y_iald_25, y_ic_eq_t, y_ic_eq_f, b_X6_tellsWays_93, x_loadI_3, y_ic_le_t, y_ic_le_f, b_X6_tellsWays_103, y_ic_ne_t, y_ic_ne_f, b_X6_tellsWays_128, x_dup2, x_iadd, b_X6_tellsWays_148, b_X6_tellsWays_158, b_X6_tellsWays_162, b_X6_tellsWays_163, x_storeI_4, x_loadI_4, b_X6_tellsWays_175, b_X6_tellsWays_182, b_X6_tellsWays_188, b_X6_tellsWays_199, b_X6_tellsWays_203, b_X6_tellsWays_209, b_X6_tellsWays_216, x_vret, q_isL_I, q_isL_R, q_isL_S, true_and, and_true, and_self, List.length_nil, List.length_cons, Nat.zero_add, x_K, x_Kn, Int.reduceToNat, Nat.reduceAdd, Nat.reduceMul, Nat.reduceLeDiff, Nat.reduceLT, Nat.zero_le, Int.reduceAdd, Int.reduceSub, Int.reduceMul, Int.reduceNeg, q_add_e, q_sub_e, q_mul_e, q_neg_e, q_upd_s, q_upd_n, zr_shr0, zr_shr1, zr_shr2, zr_shr3, zr_shr4, zr_and, zr_dyn8, zr_or, zr_shl, q_cpy_n, y_cpy26]
            exact nxt B2 y _ _ rfl hl4 hB2 (by rw [G_w_n (by rw [ha]; exact c1)]; exact hG2)
        simp (disch := omega) only [b_X6_tellsWays_0, x_loadR_0, x_loadS_0, x_iconst, x_storeI_1, x_storeI_2, b_X6_tellsWays_8, x_loadI_2, f_6_0, y_ic_ge_t, y_ic_ge_f, b_X6_tellsWays_16, x_loadI_1, x_imul, x_iinc_2, x_goto, b_X6_tellsWays_27, f_6_35, y_iast_25, b_X6_tellsWays_69, y_if_eq_t, y_if_eq_f, b_X6_tellsWays_77, x_storeI_3, y_iald_25, y_ic_eq_t, y_ic_eq_f, b_X6_tellsWays_93, x_loadI_3, y_ic_le_t, y_ic_le_f, b_X6_tellsWays_103, y_ic_ne_t, y_ic_ne_f, b_X6_tellsWays_128, x_dup2, x_iadd, b_X6_tellsWays_148, b_X6_tellsWays_158, b_X6_tellsWays_162, b_X6_tellsWays_163, x_storeI_4, x_loadI_4, b_X6_tellsWays_175, b_X6_tellsWays_182, b_X6_tellsWays_188, b_X6_tellsWays_199, b_X6_tellsWays_203, b_X6_tellsWays_209, b_X6_tellsWays_216, x_vret, q_isL_I, q_isL_R, q_isL_S, true_and, and_true, and_self, List.length_nil, List.length_cons, Nat.zero_add, x_K, x_Kn, Int.reduceToNat, Nat.reduceAdd, Nat.reduceMul, Nat.reduceLeDiff, Nat.reduceLT, Nat.zero_le, Int.reduceAdd, Int.reduceSub, Int.reduceMul, Int.reduceNeg, q_add_e, q_sub_e, q_mul_e, q_neg_e, q_upd_s, q_upd_n, zr_shr0, zr_shr1, zr_shr2, zr_shr3, zr_shr4, zr_and, zr_dyn8, zr_or, zr_shl, q_cpy_n, y_cpy26, c_X6_sumOf, sm, if_true, hl3]
        rw [eS]
        generalize hs : F_sum (EL V (mW M)) (F_way (F_n (mW M)) k) (F_n (mW M)) = s
        have gf := G_w_f (V := V) hv
        rw [hs] at gf
        have eDB : F_dig y.1 (B 100 0).toNat = F_dig (F_way (F_n (mW M)) k) (F_n (mW M)) := by rw [eBn]; exact eD
        obtain ⟨g0, g1, g2, g3, g4⟩ := hG
        by_cases c4 : B 123 3 = -1
        · simp (disch := omega) only [b_X6_tellsWays_0, x_loadR_0, x_loadS_0, x_iconst, x_storeI_1, x_storeI_2, b_X6_tellsWays_8, x_loadI_2, f_6_0, y_ic_ge_t, y_ic_ge_f, b_X6_tellsWays_16, x_loadI_1, x_imul, x_iinc_2, x_goto, b_X6_tellsWays_27, f_6_35, y_iast_25, b_X6_tellsWays_69, y_if_eq_t, y_if_eq_f, b_X6_tellsWays_77, x_storeI_3, y_iald_25, y_ic_eq_t, y_ic_eq_f, b_X6_tellsWays_93, x_loadI_3, y_ic_le_t, y_ic_le_f, b_X6_tellsWays_103, y_ic_ne_t, y_ic_ne_f, b_X6_tellsWays_128, x_dup2, x_iadd, b_X6_tellsWays_148, b_X6_tellsWays_158, b_X6_tellsWays_162, b_X6_tellsWays_163, x_storeI_4, x_loadI_4, b_X6_tellsWays_175, b_X6_tellsWays_182, b_X6_tellsWays_188, b_X6_tellsWays_199, b_X6_tellsWays_203, b_X6_tellsWays_209, b_X6_tellsWays_216, x_vret, q_isL_I, q_isL_R, q_isL_S, true_and, and_true, and_self, List.length_nil, List.length_cons, Nat.zero_add, x_K, x_Kn, Int.reduceToNat, Nat.reduceAdd, Nat.reduceMul, Nat.reduceLeDiff, Nat.reduceLT, Nat.zero_le, Int.reduceAdd, Int.reduceSub, Int.reduceMul, Int.reduceNeg, q_add_e, q_sub_e, q_mul_e, q_neg_e, q_upd_s, q_upd_n, zr_shr0, zr_shr1, zr_shr2, zr_shr3, zr_shr4, zr_and, zr_dyn8, zr_or, zr_shl, q_cpy_n, y_cpy26, r123, uB, c_X6_sittingDigits, mp_sittingDigits, hy]
          exact ag _ s l4 hl4 (fun a i ha => (q_upd_n (by omega)).trans ((q_upd_n (by omega)).trans (hB a i ha))) hs.symm (by
              unfold q_W5
              rw [gf, if_pos (by omega)]
              refine ⟨?_, ?_, ?_, ?_, ?_⟩ <;> simp (disch := omega) only [q_upd_s, q_upd_n, g0, g1, g2, eDB])
        · by_cases c5 : s ≤ B 123 4
          · simp (disch := omega) only [b_X6_tellsWays_0, x_loadR_0, x_loadS_0, x_iconst, x_storeI_1, x_storeI_2, b_X6_tellsWays_8, x_loadI_2, f_6_0, y_ic_ge_t, y_ic_ge_f, b_X6_tellsWays_16, x_loadI_1, x_imul, x_iinc_2, x_goto, b_X6_tellsWays_27, f_6_35, y_iast_25, b_X6_tellsWays_69, y_if_eq_t, y_if_eq_f, b_X6_tellsWays_77, x_storeI_3, y_iald_25, y_ic_eq_t, y_ic_eq_f, b_X6_tellsWays_93, x_loadI_3, y_ic_le_t, y_ic_le_f, b_X6_tellsWays_103, y_ic_ne_t, y_ic_ne_f, b_X6_tellsWays_128, x_dup2, x_iadd, b_X6_tellsWays_148, b_X6_tellsWays_158, b_X6_tellsWays_162, b_X6_tellsWays_163, x_storeI_4, x_loadI_4, b_X6_tellsWays_175, b_X6_tellsWays_182, b_X6_tellsWays_188, b_X6_tellsWays_199, b_X6_tellsWays_203, b_X6_tellsWays_209, b_X6_tellsWays_216, x_vret, q_isL_I, q_isL_R, q_isL_S, true_and, and_true, and_self, List.length_nil, List.length_cons, Nat.zero_add, x_K, x_Kn, Int.reduceToNat, Nat.reduceAdd, Nat.reduceMul, Nat.reduceLeDiff, Nat.reduceLT, Nat.zero_le, Int.reduceAdd, Int.reduceSub, Int.reduceMul, Int.reduceNeg, q_add_e, q_sub_e, q_mul_e, q_neg_e, q_upd_s, q_upd_n, zr_shr0, zr_shr1, zr_shr2, zr_shr3, zr_shr4, zr_and, zr_dyn8, zr_or, zr_shl, q_cpy_n, y_cpy26, r123, uB]
            exact ag B s l4 hl4 hB hs.symm (by
              unfold q_W5
              rw [gf, if_neg (by omega)]
              exact ⟨g0, g1, g2, g3, g4⟩)
          · simp (disch := omega) only [b_X6_tellsWays_0, x_loadR_0, x_loadS_0, x_iconst, x_storeI_1, x_storeI_2, b_X6_tellsWays_8, x_loadI_2, f_6_0, y_ic_ge_t, y_ic_ge_f, b_X6_tellsWays_16, x_loadI_1, x_imul, x_iinc_2, x_goto, b_X6_tellsWays_27, f_6_35, y_iast_25, b_X6_tellsWays_69, y_if_eq_t, y_if_eq_f, b_X6_tellsWays_77, x_storeI_3, y_iald_25, y_ic_eq_t, y_ic_eq_f, b_X6_tellsWays_93, x_loadI_3, y_ic_le_t, y_ic_le_f, b_X6_tellsWays_103, y_ic_ne_t, y_ic_ne_f, b_X6_tellsWays_128, x_dup2, x_iadd, b_X6_tellsWays_148, b_X6_tellsWays_158, b_X6_tellsWays_162, b_X6_tellsWays_163, x_storeI_4, x_loadI_4, b_X6_tellsWays_175, b_X6_tellsWays_182, b_X6_tellsWays_188, b_X6_tellsWays_199, b_X6_tellsWays_203, b_X6_tellsWays_209, b_X6_tellsWays_216, x_vret, q_isL_I, q_isL_R, q_isL_S, true_and, and_true, and_self, List.length_nil, List.length_cons, Nat.zero_add, x_K, x_Kn, Int.reduceToNat, Nat.reduceAdd, Nat.reduceMul, Nat.reduceLeDiff, Nat.reduceLT, Nat.zero_le, Int.reduceAdd, Int.reduceSub, Int.reduceMul, Int.reduceNeg, q_add_e, q_sub_e, q_mul_e, q_neg_e, q_upd_s, q_upd_n, zr_shr0, zr_shr1, zr_shr2, zr_shr3, zr_shr4, zr_and, zr_dyn8, zr_or, zr_shl, q_cpy_n, y_cpy26, r123, uB, c_X6_sittingDigits, mp_sittingDigits, hy]
            exact ag _ s l4 hl4 (fun a i ha => (q_upd_n (by omega)).trans ((q_upd_n (by omega)).trans (hB a i ha))) hs.symm (by
              unfold q_W5
              rw [gf, if_pos (by omega)]
              refine ⟨?_, ?_, ?_, ?_, ?_⟩ <;> simp (disch := omega) only [q_upd_s, q_upd_n, g0, g1, g2, eDB])
  have init : ∀ (N p : Int) (l3 l4 : q_V), q_isL l3 = false → q_isL l4 = false → 0 ≤ N → N ≤ 100000 → N = ((6 ^ F_n (mW M) : Nat) : Int) → q_T 1 (d + 5) qP_X6_tellsWays 27 [] [qR 6 100, qI N, qI p, l3, l4] [] g M2 Q := by
    intro N p l3 l4 hl3 hl4 hN0 hN1 hN6
    rw [b_X6_tellsWays_27]
    simp (disch := omega) only [b_X6_tellsWays_0, x_loadR_0, x_loadS_0, x_iconst, x_storeI_1, x_storeI_2, b_X6_tellsWays_8, x_loadI_2, f_6_0, y_ic_ge_t, y_ic_ge_f, b_X6_tellsWays_16, x_loadI_1, x_imul, x_iinc_2, x_goto, f_6_35, y_iast_25, b_X6_tellsWays_69, y_if_eq_t, y_if_eq_f, b_X6_tellsWays_77, x_storeI_3, y_iald_25, y_ic_eq_t, y_ic_eq_f, b_X6_tellsWays_93, x_loadI_3, y_ic_le_t, y_ic_le_f, b_X6_tellsWays_103, b_X6_tellsWays_120, y_ic_ne_t, y_ic_ne_f, b_X6_tellsWays_128, x_dup2, x_iadd, b_X6_tellsWays_148, b_X6_tellsWays_158, b_X6_tellsWays_162, b_X6_tellsWays_163, x_storeI_4, x_loadI_4, b_X6_tellsWays_175, b_X6_tellsWays_182, b_X6_tellsWays_188, b_X6_tellsWays_199, b_X6_tellsWays_203, b_X6_tellsWays_209, b_X6_tellsWays_210, b_X6_tellsWays_216, x_vret, q_isL_I, q_isL_R, q_isL_S, true_and, and_true, and_self, List.length_nil, List.length_cons, Nat.zero_add, x_K, x_Kn, Int.reduceToNat, Nat.reduceAdd, Nat.reduceMul, Nat.reduceLeDiff, Nat.reduceLT, Nat.zero_le, Int.reduceAdd, Int.reduceSub, Int.reduceMul, Int.reduceNeg, q_add_e, q_sub_e, q_mul_e, q_neg_e, q_upd_s, q_upd_n, zr_shr0, zr_shr1, zr_shr2, zr_shr3, zr_shr4, zr_and, zr_dyn8, zr_or, zr_shl, q_cpy_n, y_cpy26]
    have m := main N hN0 hN1 hN6 N.toNat 0 (by omega) (q_upd (q_upd (q_upd (q_upd (q_upd M2 123 0 0) 123 1 (-1)) 123 2 0) 123 3 (-1)) 123 4 0) (m_st M2) l3 l4 hl3 hl4 (fun a i ha => by rw [q_upd_n (by omega), q_upd_n (by omega), q_upd_n (by omega), q_upd_n (by omega), q_upd_n (by omega)]) ⟨show _ = (0 : Int) by simp (disch := omega) only [q_upd_s, q_upd_n], show _ = (-1 : Int) by simp (disch := omega) only [q_upd_s, q_upd_n], show _ = (0 : Int) by simp (disch := omega) only [q_upd_s, q_upd_n], show _ = (-1 : Int) by simp (disch := omega) only [q_upd_s, q_upd_n], show _ = (0 : Int) by simp (disch := omega) only [q_upd_s, q_upd_n]⟩
    rw [← q_yM_up (by omega) (by omega), ← q_yM_up (by omega) (by omega), ← q_yM_up (by omega) (by omega), ← q_yM_up (by omega) (by omega), ← q_yM_up (by omega) (by omega), q_yM_self] at m
    exact m
  rcases (show M2 100 0 = 0 ∨ M2 100 0 = 1 ∨ M2 100 0 = 2 ∨ M2 100 0 = 3 ∨ M2 100 0 = 4 ∨ M2 100 0 = 5 by omega) with k | k | k | k | k | k
  · simp (disch := omega) only [b_X6_tellsWays_0, x_loadR_0, x_loadS_0, x_iconst, x_storeI_1, x_storeI_2, b_X6_tellsWays_8, x_loadI_2, f_6_0, y_ic_ge_t, y_ic_ge_f, b_X6_tellsWays_16, x_loadI_1, x_imul, x_iinc_2, x_goto, f_6_35, y_iast_25, b_X6_tellsWays_69, y_if_eq_t, y_if_eq_f, b_X6_tellsWays_77, x_storeI_3, y_iald_25, y_ic_eq_t, y_ic_eq_f, b_X6_tellsWays_93, x_loadI_3, y_ic_le_t, y_ic_le_f, b_X6_tellsWays_103, b_X6_tellsWays_120, y_ic_ne_t, y_ic_ne_f, b_X6_tellsWays_128, x_dup2, x_iadd, b_X6_tellsWays_148, b_X6_tellsWays_158, b_X6_tellsWays_162, b_X6_tellsWays_163, x_storeI_4, x_loadI_4, b_X6_tellsWays_175, b_X6_tellsWays_182, b_X6_tellsWays_188, b_X6_tellsWays_199, b_X6_tellsWays_203, b_X6_tellsWays_209, b_X6_tellsWays_210, b_X6_tellsWays_216, x_vret, q_isL_I, q_isL_R, q_isL_S, true_and, and_true, and_self, List.length_nil, List.length_cons, Nat.zero_add, x_K, x_Kn, Int.reduceToNat, Nat.reduceAdd, Nat.reduceMul, Nat.reduceLeDiff, Nat.reduceLT, Nat.zero_le, Int.reduceAdd, Int.reduceSub, Int.reduceMul, Int.reduceNeg, q_add_e, q_sub_e, q_mul_e, q_neg_e, q_upd_s, q_upd_n, zr_shr0, zr_shr1, zr_shr2, zr_shr3, zr_shr4, zr_and, zr_dyn8, zr_or, zr_shl, q_cpy_n, y_cpy26, k]
    exact init _ _ _ _ rfl rfl (by omega) (by omega) (by rw [show F_n (mW M) = 0 by omega]; rfl)
  · simp (disch := omega) only [b_X6_tellsWays_0, x_loadR_0, x_loadS_0, x_iconst, x_storeI_1, x_storeI_2, b_X6_tellsWays_8, x_loadI_2, f_6_0, y_ic_ge_t, y_ic_ge_f, b_X6_tellsWays_16, x_loadI_1, x_imul, x_iinc_2, x_goto, f_6_35, y_iast_25, b_X6_tellsWays_69, y_if_eq_t, y_if_eq_f, b_X6_tellsWays_77, x_storeI_3, y_iald_25, y_ic_eq_t, y_ic_eq_f, b_X6_tellsWays_93, x_loadI_3, y_ic_le_t, y_ic_le_f, b_X6_tellsWays_103, b_X6_tellsWays_120, y_ic_ne_t, y_ic_ne_f, b_X6_tellsWays_128, x_dup2, x_iadd, b_X6_tellsWays_148, b_X6_tellsWays_158, b_X6_tellsWays_162, b_X6_tellsWays_163, x_storeI_4, x_loadI_4, b_X6_tellsWays_175, b_X6_tellsWays_182, b_X6_tellsWays_188, b_X6_tellsWays_199, b_X6_tellsWays_203, b_X6_tellsWays_209, b_X6_tellsWays_210, b_X6_tellsWays_216, x_vret, q_isL_I, q_isL_R, q_isL_S, true_and, and_true, and_self, List.length_nil, List.length_cons, Nat.zero_add, x_K, x_Kn, Int.reduceToNat, Nat.reduceAdd, Nat.reduceMul, Nat.reduceLeDiff, Nat.reduceLT, Nat.zero_le, Int.reduceAdd, Int.reduceSub, Int.reduceMul, Int.reduceNeg, q_add_e, q_sub_e, q_mul_e, q_neg_e, q_upd_s, q_upd_n, zr_shr0, zr_shr1, zr_shr2, zr_shr3, zr_shr4, zr_and, zr_dyn8, zr_or, zr_shl, q_cpy_n, y_cpy26, k]
    exact init _ _ _ _ rfl rfl (by omega) (by omega) (by rw [show F_n (mW M) = 1 by omega]; rfl)
  · simp (disch := omega) only [b_X6_tellsWays_0, x_loadR_0, x_loadS_0, x_iconst, x_storeI_1, x_storeI_2, b_X6_tellsWays_8, x_loadI_2, f_6_0, y_ic_ge_t, y_ic_ge_f, b_X6_tellsWays_16, x_loadI_1, x_imul, x_iinc_2, x_goto, f_6_35, y_iast_25, b_X6_tellsWays_69, y_if_eq_t, y_if_eq_f, b_X6_tellsWays_77, x_storeI_3, y_iald_25, y_ic_eq_t, y_ic_eq_f, b_X6_tellsWays_93, x_loadI_3, y_ic_le_t, y_ic_le_f, b_X6_tellsWays_103, b_X6_tellsWays_120, y_ic_ne_t, y_ic_ne_f, b_X6_tellsWays_128, x_dup2, x_iadd, b_X6_tellsWays_148, b_X6_tellsWays_158, b_X6_tellsWays_162, b_X6_tellsWays_163, x_storeI_4, x_loadI_4, b_X6_tellsWays_175, b_X6_tellsWays_182, b_X6_tellsWays_188, b_X6_tellsWays_199, b_X6_tellsWays_203, b_X6_tellsWays_209, b_X6_tellsWays_210, b_X6_tellsWays_216, x_vret, q_isL_I, q_isL_R, q_isL_S, true_and, and_true, and_self, List.length_nil, List.length_cons, Nat.zero_add, x_K, x_Kn, Int.reduceToNat, Nat.reduceAdd, Nat.reduceMul, Nat.reduceLeDiff, Nat.reduceLT, Nat.zero_le, Int.reduceAdd, Int.reduceSub, Int.reduceMul, Int.reduceNeg, q_add_e, q_sub_e, q_mul_e, q_neg_e, q_upd_s, q_upd_n, zr_shr0, zr_shr1, zr_shr2, zr_shr3, zr_shr4, zr_and, zr_dyn8, zr_or, zr_shl, q_cpy_n, y_cpy26, k]
    exact init _ _ _ _ rfl rfl (by omega) (by omega) (by rw [show F_n (mW M) = 2 by omega]; rfl)
  · simp (disch := omega) only [b_X6_tellsWays_0, x_loadR_0, x_loadS_0, x_iconst, x_storeI_1, x_storeI_2, b_X6_tellsWays_8, x_loadI_2, f_6_0, y_ic_ge_t, y_ic_ge_f, b_X6_tellsWays_16, x_loadI_1, x_imul, x_iinc_2, x_goto, f_6_35, y_iast_25, b_X6_tellsWays_69, y_if_eq_t, y_if_eq_f, b_X6_tellsWays_77, x_storeI_3, y_iald_25, y_ic_eq_t, y_ic_eq_f, b_X6_tellsWays_93, x_loadI_3, y_ic_le_t, y_ic_le_f, b_X6_tellsWays_103, b_X6_tellsWays_120, y_ic_ne_t, y_ic_ne_f, b_X6_tellsWays_128, x_dup2, x_iadd, b_X6_tellsWays_148, b_X6_tellsWays_158, b_X6_tellsWays_162, b_X6_tellsWays_163, x_storeI_4, x_loadI_4, b_X6_tellsWays_175, b_X6_tellsWays_182, b_X6_tellsWays_188, b_X6_tellsWays_199, b_X6_tellsWays_203, b_X6_tellsWays_209, b_X6_tellsWays_210, b_X6_tellsWays_216, x_vret, q_isL_I, q_isL_R, q_isL_S, true_and, and_true, and_self, List.length_nil, List.length_cons, Nat.zero_add, x_K, x_Kn, Int.reduceToNat, Nat.reduceAdd, Nat.reduceMul, Nat.reduceLeDiff, Nat.reduceLT, Nat.zero_le, Int.reduceAdd, Int.reduceSub, Int.reduceMul, Int.reduceNeg, q_add_e, q_sub_e, q_mul_e, q_neg_e, q_upd_s, q_upd_n, zr_shr0, zr_shr1, zr_shr2, zr_shr3, zr_shr4, zr_and, zr_dyn8, zr_or, zr_shl, q_cpy_n, y_cpy26, k]
    exact init _ _ _ _ rfl rfl (by omega) (by omega) (by rw [show F_n (mW M) = 3 by omega]; rfl)
  · simp (disch := omega) only [b_X6_tellsWays_0, x_loadR_0, x_loadS_0, x_iconst, x_storeI_1, x_storeI_2, b_X6_tellsWays_8, x_loadI_2, f_6_0, y_ic_ge_t, y_ic_ge_f, b_X6_tellsWays_16, x_loadI_1, x_imul, x_iinc_2, x_goto, f_6_35, y_iast_25, b_X6_tellsWays_69, y_if_eq_t, y_if_eq_f, b_X6_tellsWays_77, x_storeI_3, y_iald_25, y_ic_eq_t, y_ic_eq_f, b_X6_tellsWays_93, x_loadI_3, y_ic_le_t, y_ic_le_f, b_X6_tellsWays_103, b_X6_tellsWays_120, y_ic_ne_t, y_ic_ne_f, b_X6_tellsWays_128, x_dup2, x_iadd, b_X6_tellsWays_148, b_X6_tellsWays_158, b_X6_tellsWays_162, b_X6_tellsWays_163, x_storeI_4, x_loadI_4, b_X6_tellsWays_175, b_X6_tellsWays_182, b_X6_tellsWays_188, b_X6_tellsWays_199, b_X6_tellsWays_203, b_X6_tellsWays_209, b_X6_tellsWays_210, b_X6_tellsWays_216, x_vret, q_isL_I, q_isL_R, q_isL_S, true_and, and_true, and_self, List.length_nil, List.length_cons, Nat.zero_add, x_K, x_Kn, Int.reduceToNat, Nat.reduceAdd, Nat.reduceMul, Nat.reduceLeDiff, Nat.reduceLT, Nat.zero_le, Int.reduceAdd, Int.reduceSub, Int.reduceMul, Int.reduceNeg, q_add_e, q_sub_e, q_mul_e, q_neg_e, q_upd_s, q_upd_n, zr_shr0, zr_shr1, zr_shr2, zr_shr3, zr_shr4, zr_and, zr_dyn8, zr_or, zr_shl, q_cpy_n, y_cpy26, k]
    exact init _ _ _ _ rfl rfl (by omega) (by omega) (by rw [show F_n (mW M) = 4 by omega]; rfl)
  · simp (disch := omega) only [b_X6_tellsWays_0, x_loadR_0, x_loadS_0, x_iconst, x_storeI_1, x_storeI_2, b_X6_tellsWays_8, x_loadI_2, f_6_0, y_ic_ge_t, y_ic_ge_f, b_X6_tellsWays_16, x_loadI_1, x_imul, x_iinc_2, x_goto, f_6_35, y_iast_25, b_X6_tellsWays_69, y_if_eq_t, y_if_eq_f, b_X6_tellsWays_77, x_storeI_3, y_iald_25, y_ic_eq_t, y_ic_eq_f, b_X6_tellsWays_93, x_loadI_3, y_ic_le_t, y_ic_le_f, b_X6_tellsWays_103, b_X6_tellsWays_120, y_ic_ne_t, y_ic_ne_f, b_X6_tellsWays_128, x_dup2, x_iadd, b_X6_tellsWays_148, b_X6_tellsWays_158, b_X6_tellsWays_162, b_X6_tellsWays_163, x_storeI_4, x_loadI_4, b_X6_tellsWays_175, b_X6_tellsWays_182, b_X6_tellsWays_188, b_X6_tellsWays_199, b_X6_tellsWays_203, b_X6_tellsWays_209, b_X6_tellsWays_210, b_X6_tellsWays_216, x_vret, q_isL_I, q_isL_R, q_isL_S, true_and, and_true, and_self, List.length_nil, List.length_cons, Nat.zero_add, x_K, x_Kn, Int.reduceToNat, Nat.reduceAdd, Nat.reduceMul, Nat.reduceLeDiff, Nat.reduceLT, Nat.zero_le, Int.reduceAdd, Int.reduceSub, Int.reduceMul, Int.reduceNeg, q_add_e, q_sub_e, q_mul_e, q_neg_e, q_upd_s, q_upd_n, zr_shr0, zr_shr1, zr_shr2, zr_shr3, zr_shr4, zr_and, zr_dyn8, zr_or, zr_shl, q_cpy_n, y_cpy26, k]
    exact init _ _ _ _ rfl rfl (by omega) (by omega) (by rw [show F_n (mW M) = 5 by omega]; rfl)
set_option maxHeartbeats 4000000 in
theorem mp_allE {V : Nat → (Nat → Int) → Int} {d : Nat} {g : q_G} {M : q_M} {wt : Int} {Q : Option q_V → q_G → q_M → Prop} (hm : q_ml V M) (hq : ∀ M2 : q_M, q_mq M M2 → Q (some (qI (E_all V (mW M) wt))) g M2) : q_S 1 (d + 6) 174 [qR 6 100, qI wt] g M Q := by
  rw [s_X6_all]
  by_cases c : 0 ≤ wt ∧ wt ≤ 4
  · have ways : ∀ (nx : Nat) (ops : List Instr) (ls st : List q_V), (∀ M2 : q_M, q_mq M M2 → q_W5 M2 (G_w V (mW M) true (6 ^ F_n (mW M))) (G_w V (mW M) false (6 ^ F_n (mW M))) → q_T 1 (d + 6) qP_X6_all nx ops ls st g M2 Q) → q_S 1 (d + 5) 173 [qR 6 100] g M (q_K 1 (d + 6) qP_X6_all nx ops ls st Q) := fun nx ops ls st h => mp_waysE hm h
    simp (disch := omega) only [b_X6_all_0, x_loadI_1, x_iconst, y_if_ne_t, y_if_ne_f, b_X6_all_9, x_ret0, b_X6_all_12, x_loadR_0, x_loadS_0, f_6_35, y_iald_25, q_isL_I, q_isL_R, q_isL_S, true_and, and_true, and_self, List.length_nil, List.length_cons, Nat.zero_add, x_K, x_Kn, Int.reduceToNat, Nat.reduceAdd, Nat.reduceMul, Nat.reduceLeDiff, Nat.reduceLT, Nat.zero_le, Int.reduceAdd, Int.reduceSub, Int.reduceMul, Int.reduceNeg, q_add_e, q_sub_e, q_mul_e, q_neg_e, q_upd_s, q_upd_n, zr_shr0, zr_shr1, zr_shr2, zr_shr3, zr_shr4, zr_and, zr_dyn8, zr_or, zr_shl, q_cpy_n, y_cpy26, c_X6_in, mp_in, c, and_self, if_true, c_X6_tellsWays]
    refine ways _ _ _ _ (fun M2 h2 h3 => ?_)
    obtain ⟨g0, g1, g2, g3, g4⟩ := h3
    rcases (show wt = 0 ∨ wt = 1 ∨ wt = 2 ∨ wt = 3 ∨ wt = 4 by omega) with z | z | z | z | z
    · subst z
      simp (disch := omega) only [b_X6_all_0, x_loadI_1, x_iconst, y_if_ne_t, y_if_ne_f, b_X6_all_9, x_ret0, b_X6_all_12, x_loadR_0, x_loadS_0, f_6_35, y_iald_25, q_isL_I, q_isL_R, q_isL_S, true_and, and_true, and_self, List.length_nil, List.length_cons, Nat.zero_add, x_K, x_Kn, Int.reduceToNat, Nat.reduceAdd, Nat.reduceMul, Nat.reduceLeDiff, Nat.reduceLT, Nat.zero_le, Int.reduceAdd, Int.reduceSub, Int.reduceMul, Int.reduceNeg, q_add_e, q_sub_e, q_mul_e, q_neg_e, q_upd_s, q_upd_n, zr_shr0, zr_shr1, zr_shr2, zr_shr3, zr_shr4, zr_and, zr_dyn8, zr_or, zr_shl, q_cpy_n, y_cpy26]
      exact q_ans (hq M2 h2) g0
    · subst z
      simp (disch := omega) only [b_X6_all_0, x_loadI_1, x_iconst, y_if_ne_t, y_if_ne_f, b_X6_all_9, x_ret0, b_X6_all_12, x_loadR_0, x_loadS_0, f_6_35, y_iald_25, q_isL_I, q_isL_R, q_isL_S, true_and, and_true, and_self, List.length_nil, List.length_cons, Nat.zero_add, x_K, x_Kn, Int.reduceToNat, Nat.reduceAdd, Nat.reduceMul, Nat.reduceLeDiff, Nat.reduceLT, Nat.zero_le, Int.reduceAdd, Int.reduceSub, Int.reduceMul, Int.reduceNeg, q_add_e, q_sub_e, q_mul_e, q_neg_e, q_upd_s, q_upd_n, zr_shr0, zr_shr1, zr_shr2, zr_shr3, zr_shr4, zr_and, zr_dyn8, zr_or, zr_shl, q_cpy_n, y_cpy26]
      exact q_ans (hq M2 h2) g1
    · subst z
      simp (disch := omega) only [b_X6_all_0, x_loadI_1, x_iconst, y_if_ne_t, y_if_ne_f, b_X6_all_9, x_ret0, b_X6_all_12, x_loadR_0, x_loadS_0, f_6_35, y_iald_25, q_isL_I, q_isL_R, q_isL_S, true_and, and_true, and_self, List.length_nil, List.length_cons, Nat.zero_add, x_K, x_Kn, Int.reduceToNat, Nat.reduceAdd, Nat.reduceMul, Nat.reduceLeDiff, Nat.reduceLT, Nat.zero_le, Int.reduceAdd, Int.reduceSub, Int.reduceMul, Int.reduceNeg, q_add_e, q_sub_e, q_mul_e, q_neg_e, q_upd_s, q_upd_n, zr_shr0, zr_shr1, zr_shr2, zr_shr3, zr_shr4, zr_and, zr_dyn8, zr_or, zr_shl, q_cpy_n, y_cpy26]
      exact q_ans (hq M2 h2) g2
    · subst z
      simp (disch := omega) only [b_X6_all_0, x_loadI_1, x_iconst, y_if_ne_t, y_if_ne_f, b_X6_all_9, x_ret0, b_X6_all_12, x_loadR_0, x_loadS_0, f_6_35, y_iald_25, q_isL_I, q_isL_R, q_isL_S, true_and, and_true, and_self, List.length_nil, List.length_cons, Nat.zero_add, x_K, x_Kn, Int.reduceToNat, Nat.reduceAdd, Nat.reduceMul, Nat.reduceLeDiff, Nat.reduceLT, Nat.zero_le, Int.reduceAdd, Int.reduceSub, Int.reduceMul, Int.reduceNeg, q_add_e, q_sub_e, q_mul_e, q_neg_e, q_upd_s, q_upd_n, zr_shr0, zr_shr1, zr_shr2, zr_shr3, zr_shr4, zr_and, zr_dyn8, zr_or, zr_shl, q_cpy_n, y_cpy26]
      exact q_ans (hq M2 h2) g3
    · subst z
      simp (disch := omega) only [b_X6_all_0, x_loadI_1, x_iconst, y_if_ne_t, y_if_ne_f, b_X6_all_9, x_ret0, b_X6_all_12, x_loadR_0, x_loadS_0, f_6_35, y_iald_25, q_isL_I, q_isL_R, q_isL_S, true_and, and_true, and_self, List.length_nil, List.length_cons, Nat.zero_add, x_K, x_Kn, Int.reduceToNat, Nat.reduceAdd, Nat.reduceMul, Nat.reduceLeDiff, Nat.reduceLT, Nat.zero_le, Int.reduceAdd, Int.reduceSub, Int.reduceMul, Int.reduceNeg, q_add_e, q_sub_e, q_mul_e, q_neg_e, q_upd_s, q_upd_n, zr_shr0, zr_shr1, zr_shr2, zr_shr3, zr_shr4, zr_and, zr_dyn8, zr_or, zr_shl, q_cpy_n, y_cpy26]
      exact q_ans (hq M2 h2) g4
  · simp (disch := omega) only [b_X6_all_0, x_loadI_1, x_iconst, y_if_ne_t, y_if_ne_f, b_X6_all_9, x_ret0, b_X6_all_12, x_loadR_0, x_loadS_0, f_6_35, y_iald_25, q_isL_I, q_isL_R, q_isL_S, true_and, and_true, and_self, List.length_nil, List.length_cons, Nat.zero_add, x_K, x_Kn, Int.reduceToNat, Nat.reduceAdd, Nat.reduceMul, Nat.reduceLeDiff, Nat.reduceLT, Nat.zero_le, Int.reduceAdd, Int.reduceSub, Int.reduceMul, Int.reduceNeg, q_add_e, q_sub_e, q_mul_e, q_neg_e, q_upd_s, q_upd_n, zr_shr0, zr_shr1, zr_shr2, zr_shr3, zr_shr4, zr_and, zr_dyn8, zr_or, zr_shl, q_cpy_n, y_cpy26, c_X6_in, mp_in, c, if_false]
    exact q_ans (hq M q_mq_rf) (E_all_n c).symm
theorem mz_all {Vt : Nat → Nat → (Nat → Int) → Int} {d tm : Nat} {g : q_G} {M : q_M} {wt : Int} {Q : Option q_V → q_G → q_M → Prop} (hI : q_MI Vt tm M) (_ : q_ivS (mW M)) (hq : ∀ M2 : q_M, q_mq M M2 → Q (some (qI (E_all (q_Vr Vt M) (mW M) wt))) g M2) : q_S 1 (d + 11) 174 [qR 6 100, qI wt] g M Q :=
  mp_allE (d := d + 5) (q_MI_mi hI).1 hq
