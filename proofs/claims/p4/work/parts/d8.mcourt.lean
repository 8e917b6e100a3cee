/-! THE MODEL: court, annex -/
def G_x0 : (Nat → Int) × (Nat → Int) := (fun _ => 5, fun _ => 0)
theorem q_or01 : q_or 0 1 = 1 ∧ q_or 1 1 = 1 ∧ q_or 0 0 = 0 ∧ q_or 1 0 = 1 := by decide
theorem q_iv_x5 {n : Nat} {x : (Nat → Int) × (Nat → Int)} (h : q_iv n x) : q_x5 n x := fun i hi => (h i hi).1
theorem G_x0_iv {n : Nat} : q_iv n G_x0 := fun p _ => ⟨by show (0 : Int) ≤ 5 ∧ (5 : Int) ≤ 5; omega, by show (0 : Int) ≤ 0 ∧ (0 : Int) ≤ 31; omega, fun b hb e => absurd e (by show ¬(5 : Int) = b; omega)⟩
theorem G_trn_iv {L W : Nat → Nat → Int} {R : Nat → Int} {n : Nat} (hn : n ≤ 5) : ∀ (k : Nat) (x : (Nat → Int) × (Nat → Int)), q_iv n x → q_iv n (G_trn L W R n k x)
  | 0, _, h => h
  | k + 1, x, h => by
    rw [G_trn]
    split
    · exact G_trn_iv hn k _ (G_rd_iv hn h n (Nat.le_refl n)).1
    · exact (G_rd_iv hn h n (Nat.le_refl n)).1
set_option maxHeartbeats 4000000 in
theorem mp_courts {V : Nat → (Nat → Int) → Int} {d : Nat} {g : q_G} {M : q_M} {Q : Option q_V → q_G → q_M → Prop} (hm : q_ml V M) (hq : ∀ M2 : q_M, m_td V M M2 → Q none g (q_yM M2 (G_trn (mL M2) (mWn M2) (mR M2) (M2 100 0).toNat 1000 G_x0))) : q_S 1 (d + 5) 170 [qR 6 100] g M Q := by
  have n0 := hm.1.1
  have tell : ∀ (nx : Nat) (ops : List Instr) (ls st : List q_V), (∀ M2 : q_M, m_td V M M2 → q_T 1 (d + 5) qP_X6_courts nx ops ls st g M2 Q) → q_S 1 (d + 4) 159 [qR 6 100] g M (q_K 1 (d + 5) qP_X6_courts nx ops ls st Q) := fun nx ops ls st h => mp_tellsAll hm h
  rw [s_X6_courts]
  simp (disch := omega) only [b_X6_courts_0, x_loadR_0, x_loadS_0, x_iconst, x_storeI_1, b_X6_courts_6, x_loadI_1, y_ic_ge_t, y_ic_ge_f, b_X6_courts_11, f_6_33, y_iast_25, f_6_34, x_iinc_1, x_goto, b_X6_courts_31, y_if_eq_t, y_if_eq_f, b_X6_courts_37, x_storeI_2, x_loadI_2, f_6_0, b_X6_courts_49, y_iald_25, y_ic_ne_t, y_ic_ne_f, b_X6_courts_59, x_ior, b_X6_courts_67, x_iinc_2, b_X6_courts_73, b_X6_courts_76, x_vret, q_isL_I, q_isL_R, q_isL_S, true_and, and_true, and_self, List.length_nil, List.length_cons, Nat.zero_add, x_K, x_Kn, Int.reduceToNat, Nat.reduceAdd, Nat.reduceMul, Nat.reduceLeDiff, Nat.reduceLT, Nat.zero_le, Int.reduceAdd, Int.reduceSub, Int.reduceMul, Int.reduceNeg, q_add_e, q_sub_e, q_mul_e, q_neg_e, q_upd_s, q_upd_n, zr_shr0, zr_shr1, zr_shr2, zr_shr3, zr_shr4, zr_and, zr_dyn8, zr_or, zr_shl, q_cpy_n, y_cpy26, c_X6_tellsAll]
  refine tell _ _ _ _ (fun M2 h2 => ?_)
  have e0 : M2 100 0 = M 100 0 := h2.1 100 0 (by omega) (by omega)
  have hq2 := hq M2 h2
  simp (disch := omega) only [b_X6_courts_0, x_loadR_0, x_loadS_0, x_iconst, x_storeI_1, b_X6_courts_6, x_loadI_1, y_ic_ge_t, y_ic_ge_f, b_X6_courts_11, f_6_33, y_iast_25, f_6_34, x_iinc_1, x_goto, b_X6_courts_31, y_if_eq_t, y_if_eq_f, b_X6_courts_37, x_storeI_2, x_loadI_2, f_6_0, b_X6_courts_49, y_iald_25, y_ic_ne_t, y_ic_ne_f, b_X6_courts_59, x_ior, b_X6_courts_67, x_iinc_2, b_X6_courts_73, b_X6_courts_76, x_vret, q_isL_I, q_isL_R, q_isL_S, true_and, and_true, and_self, List.length_nil, List.length_cons, Nat.zero_add, x_K, x_Kn, Int.reduceToNat, Nat.reduceAdd, Nat.reduceMul, Nat.reduceLeDiff, Nat.reduceLT, Nat.zero_le, Int.reduceAdd, Int.reduceSub, Int.reduceMul, Int.reduceNeg, q_add_e, q_sub_e, q_mul_e, q_neg_e, q_upd_s, q_upd_n, zr_shr0, zr_shr1, zr_shr2, zr_shr3, zr_shr4, zr_and, zr_dyn8, zr_or, zr_shl, q_cpy_n, y_cpy26]
  have eI : q_upd (q_upd (q_upd (q_upd (q_upd (q_upd (q_upd (q_upd (q_upd (q_upd M2 121 0 (-1)) 122 0 0) 121 1 (-1)) 122 1 0) 121 2 (-1)) 122 2 0) 121 3 (-1)) 122 3 0) 121 4 (-1)) 122 4 0 = q_yM M2 G_x0 := by
    have r5 : m_raw 5 = -1 := rfl
    have gen : ∀ x : (Nat → Int) × (Nat → Int), q_upd (q_upd (q_upd (q_upd (q_upd (q_upd (q_upd (q_upd (q_upd (q_upd (q_yM M2 x) 121 0 (-1)) 122 0 0) 121 1 (-1)) 122 1 0) 121 2 (-1)) 122 2 0) 121 3 (-1)) 122 3 0) 121 4 (-1)) 122 4 0 = q_yM M2 G_x0 := by
      intro x
      rw [uy_f (by omega) r5, uy_s (by omega), uy_f (by omega) r5, uy_s (by omega), uy_f (by omega) r5, uy_s (by omega), uy_f (by omega) r5, uy_s (by omega), uy_f (by omega) r5, uy_s (by omega)]
      refine q_yM_ext (fun i hi => ?_)
      rcases (show i = 0 ∨ i = 1 ∨ i = 2 ∨ i = 3 ∨ i = 4 by omega) with rfl | rfl | rfl | rfl | rfl <;> exact ⟨rfl, rfl⟩
    have g0 := gen (m_st M2)
    rw [q_yM_self] at g0
    exact g0
  rw [eI]
  have outer : ∀ (k : Nat) (x : (Nat → Int) × (Nat → Int)) (l2 : q_V), q_isL l2 = false → q_iv (M2 100 0).toNat x → F_ph x.1 x.2 (M2 100 0).toNat < k → Q none g (q_yM M2 (G_trn (mL M2) (mWn M2) (mR M2) (M2 100 0).toNat k x)) → q_T 1 (d + 5) qP_X6_courts 33 [] [qR 6 100, qI 1, l2] [] g (q_yM M2 x) Q := by
    intro k
    induction k with
    | zero =>
      intro x l2 hl2 hx hk hq
      have := F_ph_le hx (M2 100 0).toNat (Nat.le_refl _)
      omega
    | succ k ih =>
      intro x l2 hl2 hx hk hq
      rw [G_trn] at hq
      have hE0 : ∀ y, q_yM M2 y 100 0 = M2 100 0 := fun y => ry_n (by omega) (by omega)
      have hend := G_rd_iv (L := mL M2) (W := mWn M2) (R := mR M2) (by omega) hx (M2 100 0).toNat (Nat.le_refl _)
      have inner : ∀ j p : Nat, p + j = (M2 100 0).toNat → q_T 1 (d + 5) qP_X6_courts 41 [] [qR 6 100, qI (if (G_rd (mL M2) (mWn M2) (mR M2) (M2 100 0).toNat x p).1 = true then 1 else 0), qI p] [] g (q_yM M2 (G_rd (mL M2) (mWn M2) (mR M2) (M2 100 0).toNat x p).2) Q := by
        intro j
        induction j with
        | zero =>
          intro p hp
          have e : p = (M2 100 0).toNat := by omega
          rw [← e] at hq hend
          have hE := hE0 (G_rd (mL M2) (mWn M2) (mR M2) (M2 100 0).toNat x p).2
          rw [← e] at hE ⊢
          generalize G_rd (mL M2) (mWn M2) (mR M2) p x p = Y at hq hend hE ⊢
          rw [b_X6_courts_41]
          simp (disch := omega) only [b_X6_courts_0, x_loadR_0, x_loadS_0, x_iconst, x_storeI_1, b_X6_courts_6, x_loadI_1, y_ic_ge_t, y_ic_ge_f, b_X6_courts_11, f_6_33, y_iast_25, f_6_34, x_iinc_1, x_goto, b_X6_courts_31, y_if_eq_t, y_if_eq_f, b_X6_courts_37, x_storeI_2, x_loadI_2, f_6_0, b_X6_courts_49, y_iald_25, y_ic_ne_t, y_ic_ne_f, b_X6_courts_59, x_ior, b_X6_courts_67, x_iinc_2, b_X6_courts_73, b_X6_courts_76, x_vret, q_isL_I, q_isL_R, q_isL_S, true_and, and_true, and_self, List.length_nil, List.length_cons, Nat.zero_add, x_K, x_Kn, Int.reduceToNat, Nat.reduceAdd, Nat.reduceMul, Nat.reduceLeDiff, Nat.reduceLT, Nat.zero_le, Int.reduceAdd, Int.reduceSub, Int.reduceMul, Int.reduceNeg, q_add_e, q_sub_e, q_mul_e, q_neg_e, q_upd_s, q_upd_n, zr_shr0, zr_shr1, zr_shr2, zr_shr3, zr_shr4, zr_and, zr_dyn8, zr_or, zr_shl, q_cpy_n, y_cpy26, hE]
          by_cases c : Y.1 = true
          · rw [if_pos c] at hq ⊢
            refine ih Y.2 _ rfl (by rw [e] at hend; exact hend.1) (by rw [e] at hend; have := hend.2.2 c; omega) (by rw [e] at hq; exact hq)
          · rw [if_neg c] at hq ⊢
            rw [b_X6_courts_33]
            simp (disch := omega) only [b_X6_courts_0, x_loadR_0, x_loadS_0, x_iconst, x_storeI_1, b_X6_courts_6, x_loadI_1, y_ic_ge_t, y_ic_ge_f, b_X6_courts_11, f_6_33, y_iast_25, f_6_34, x_iinc_1, x_goto, b_X6_courts_31, y_if_eq_t, y_if_eq_f, b_X6_courts_37, x_storeI_2, x_loadI_2, f_6_0, b_X6_courts_49, y_iald_25, y_ic_ne_t, y_ic_ne_f, b_X6_courts_59, x_ior, b_X6_courts_67, x_iinc_2, b_X6_courts_73, b_X6_courts_76, x_vret, q_isL_I, q_isL_R, q_isL_S, true_and, and_true, and_self, List.length_nil, List.length_cons, Nat.zero_add, x_K, x_Kn, Int.reduceToNat, Nat.reduceAdd, Nat.reduceMul, Nat.reduceLeDiff, Nat.reduceLT, Nat.zero_le, Int.reduceAdd, Int.reduceSub, Int.reduceMul, Int.reduceNeg, q_add_e, q_sub_e, q_mul_e, q_neg_e, q_upd_s, q_upd_n, zr_shr0, zr_shr1, zr_shr2, zr_shr3, zr_shr4, zr_and, zr_dyn8, zr_or, zr_shl, q_cpy_n, y_cpy26]
            exact hq
        | succ j ih2 =>
          intro p hp
          have h3 := G_rd_iv (L := mL M2) (W := mWn M2) (R := mR M2) (by omega) hx p (by omega)
          have ih3 := ih2 (p + 1) (by omega)
          rw [G_rd] at ih3
          generalize G_rd (mL M2) (mWn M2) (mR M2) (M2 100 0).toNat x p = Y at h3 ih3 ⊢
          have hE := hE0 Y.2
          have hyp := (h3.1 p (by omega)).1
          have hY := q_iv_x5 h3.1
          have ask := fun (nx : Nat) (ops : List Instr) (ls st : List q_V) => mp_asksOne (d := d + 2) (g := g) (M := M2) (x := Y.2) (p := p) (by omega) (by omega) (by omega) hY (q_K 1 (d + 5) qP_X6_courts nx ops ls st Q)
          have ro := q_or01
          rw [b_X6_courts_41]
          by_cases c1 : Y.2.1 p = 5
          · have er : m_raw (Y.2.1 p) = -1 := by rw [c1]; rfl
            by_cases c2 : F_dst (mL M2) Y.2 p = 5
            · rw [if_neg (show ¬(Y.2.1 p = 5 ∧ F_dst (mL M2) Y.2 p ≠ 5) from fun z => z.2 c2)] at ih3
              simp only [c2, if_true] at ask
              simp (disch := omega) only [b_X6_courts_0, x_loadR_0, x_loadS_0, x_iconst, x_storeI_1, b_X6_courts_6, x_loadI_1, y_ic_ge_t, y_ic_ge_f, b_X6_courts_11, f_6_33, y_iast_25, f_6_34, x_iinc_1, x_goto, b_X6_courts_31, y_if_eq_t, y_if_eq_f, b_X6_courts_37, x_storeI_2, x_loadI_2, f_6_0, b_X6_courts_49, y_iald_25, y_ic_ne_t, y_ic_ne_f, b_X6_courts_59, x_ior, b_X6_courts_67, x_iinc_2, b_X6_courts_73, b_X6_courts_76, x_vret, q_isL_I, q_isL_R, q_isL_S, true_and, and_true, and_self, List.length_nil, List.length_cons, Nat.zero_add, x_K, x_Kn, Int.reduceToNat, Nat.reduceAdd, Nat.reduceMul, Nat.reduceLeDiff, Nat.reduceLT, Nat.zero_le, Int.reduceAdd, Int.reduceSub, Int.reduceMul, Int.reduceNeg, q_add_e, q_sub_e, q_mul_e, q_neg_e, q_upd_s, q_upd_n, zr_shr0, zr_shr1, zr_shr2, zr_shr3, zr_shr4, zr_and, zr_dyn8, zr_or, zr_shl, q_cpy_n, y_cpy26, hE, Int.toNat_natCast, ry_f, er, c_X6_asksOne, ask]
              by_cases c3 : Y.1 = true
              · simp (disch := omega) only [b_X6_courts_0, x_loadR_0, x_loadS_0, x_iconst, x_storeI_1, b_X6_courts_6, x_loadI_1, y_ic_ge_t, y_ic_ge_f, b_X6_courts_11, f_6_33, y_iast_25, f_6_34, x_iinc_1, x_goto, b_X6_courts_31, y_if_eq_t, y_if_eq_f, b_X6_courts_37, x_storeI_2, x_loadI_2, f_6_0, b_X6_courts_49, y_iald_25, y_ic_ne_t, y_ic_ne_f, b_X6_courts_59, x_ior, b_X6_courts_67, x_iinc_2, b_X6_courts_73, b_X6_courts_76, x_vret, q_isL_I, q_isL_R, q_isL_S, true_and, and_true, and_self, List.length_nil, List.length_cons, Nat.zero_add, x_K, x_Kn, Int.reduceToNat, Nat.reduceAdd, Nat.reduceMul, Nat.reduceLeDiff, Nat.reduceLT, Nat.zero_le, Int.reduceAdd, Int.reduceSub, Int.reduceMul, Int.reduceNeg, q_add_e, q_sub_e, q_mul_e, q_neg_e, q_upd_s, q_upd_n, zr_shr0, zr_shr1, zr_shr2, zr_shr3, zr_shr4, zr_and, zr_dyn8, zr_or, zr_shl, q_cpy_n, y_cpy26, c3, if_true, ro]
                simp only [c3, if_true] at ih3
                exact ih3
              · simp (disch := omega) only [b_X6_courts_0, x_loadR_0, x_loadS_0, x_iconst, x_storeI_1, b_X6_courts_6, x_loadI_1, y_ic_ge_t, y_ic_ge_f, b_X6_courts_11, f_6_33, y_iast_25, f_6_34, x_iinc_1, x_goto, b_X6_courts_31, y_if_eq_t, y_if_eq_f, b_X6_courts_37, x_storeI_2, x_loadI_2, f_6_0, b_X6_courts_49, y_iald_25, y_ic_ne_t, y_ic_ne_f, b_X6_courts_59, x_ior, b_X6_courts_67, x_iinc_2, b_X6_courts_73, b_X6_courts_76, x_vret, q_isL_I, q_isL_R, q_isL_S, true_and, and_true, and_self, List.length_nil, List.length_cons, Nat.zero_add, x_K, x_Kn, Int.reduceToNat, Nat.reduceAdd, Nat.reduceMul, Nat.reduceLeDiff, Nat.reduceLT, Nat.zero_le, Int.reduceAdd, Int.reduceSub, Int.reduceMul, Int.reduceNeg, q_add_e, q_sub_e, q_mul_e, q_neg_e, q_upd_s, q_upd_n, zr_shr0, zr_shr1, zr_shr2, zr_shr3, zr_shr4, zr_and, zr_dyn8, zr_or, zr_shl, q_cpy_n, y_cpy26, c3, Bool.false_eq_true, if_false, ro]
                simp only [c3, Bool.false_eq_true, if_false] at ih3
                exact ih3
            · rw [if_pos (show Y.2.1 p = 5 ∧ F_dst (mL M2) Y.2 p ≠ 5 from ⟨c1, c2⟩)] at ih3
              simp only [c2, if_false] at ask
              simp only [if_true] at ih3
              simp (disch := omega) only [b_X6_courts_0, x_loadR_0, x_loadS_0, x_iconst, x_storeI_1, b_X6_courts_6, x_loadI_1, y_ic_ge_t, y_ic_ge_f, b_X6_courts_11, f_6_33, y_iast_25, f_6_34, x_iinc_1, x_goto, b_X6_courts_31, y_if_eq_t, y_if_eq_f, b_X6_courts_37, x_storeI_2, x_loadI_2, f_6_0, b_X6_courts_49, y_iald_25, y_ic_ne_t, y_ic_ne_f, b_X6_courts_59, x_ior, b_X6_courts_67, x_iinc_2, b_X6_courts_73, b_X6_courts_76, x_vret, q_isL_I, q_isL_R, q_isL_S, true_and, and_true, and_self, List.length_nil, List.length_cons, Nat.zero_add, x_K, x_Kn, Int.reduceToNat, Nat.reduceAdd, Nat.reduceMul, Nat.reduceLeDiff, Nat.reduceLT, Nat.zero_le, Int.reduceAdd, Int.reduceSub, Int.reduceMul, Int.reduceNeg, q_add_e, q_sub_e, q_mul_e, q_neg_e, q_upd_s, q_upd_n, zr_shr0, zr_shr1, zr_shr2, zr_shr3, zr_shr4, zr_and, zr_dyn8, zr_or, zr_shl, q_cpy_n, y_cpy26, hE, Int.toNat_natCast, ry_f, er, c_X6_asksOne, ask]
              by_cases c3 : Y.1 = true
              · simp (disch := omega) only [b_X6_courts_0, x_loadR_0, x_loadS_0, x_iconst, x_storeI_1, b_X6_courts_6, x_loadI_1, y_ic_ge_t, y_ic_ge_f, b_X6_courts_11, f_6_33, y_iast_25, f_6_34, x_iinc_1, x_goto, b_X6_courts_31, y_if_eq_t, y_if_eq_f, b_X6_courts_37, x_storeI_2, x_loadI_2, f_6_0, b_X6_courts_49, y_iald_25, y_ic_ne_t, y_ic_ne_f, b_X6_courts_59, x_ior, b_X6_courts_67, x_iinc_2, b_X6_courts_73, b_X6_courts_76, x_vret, q_isL_I, q_isL_R, q_isL_S, true_and, and_true, and_self, List.length_nil, List.length_cons, Nat.zero_add, x_K, x_Kn, Int.reduceToNat, Nat.reduceAdd, Nat.reduceMul, Nat.reduceLeDiff, Nat.reduceLT, Nat.zero_le, Int.reduceAdd, Int.reduceSub, Int.reduceMul, Int.reduceNeg, q_add_e, q_sub_e, q_mul_e, q_neg_e, q_upd_s, q_upd_n, zr_shr0, zr_shr1, zr_shr2, zr_shr3, zr_shr4, zr_and, zr_dyn8, zr_or, zr_shl, q_cpy_n, y_cpy26, c3, if_true, ro]
                exact ih3
              · simp (disch := omega) only [b_X6_courts_0, x_loadR_0, x_loadS_0, x_iconst, x_storeI_1, b_X6_courts_6, x_loadI_1, y_ic_ge_t, y_ic_ge_f, b_X6_courts_11, f_6_33, y_iast_25, f_6_34, x_iinc_1, x_goto, b_X6_courts_31, y_if_eq_t, y_if_eq_f, b_X6_courts_37, x_storeI_2, x_loadI_2, f_6_0, b_X6_courts_49, y_iald_25, y_ic_ne_t, y_ic_ne_f, b_X6_courts_59, x_ior, b_X6_courts_67, x_iinc_2, b_X6_courts_73, b_X6_courts_76, x_vret, q_isL_I, q_isL_R, q_isL_S, true_and, and_true, and_self, List.length_nil, List.length_cons, Nat.zero_add, x_K, x_Kn, Int.reduceToNat, Nat.reduceAdd, Nat.reduceMul, Nat.reduceLeDiff, Nat.reduceLT, Nat.zero_le, Int.reduceAdd, Int.reduceSub, Int.reduceMul, Int.reduceNeg, q_add_e, q_sub_e, q_mul_e, q_neg_e, q_upd_s, q_upd_n, zr_shr0, zr_shr1, zr_shr2, zr_shr3, zr_shr4, zr_and, zr_dyn8, zr_or, zr_shl, q_cpy_n, y_cpy26, c3, Bool.false_eq_true, if_false, ro]
                exact ih3
          · rw [if_neg (show ¬(Y.2.1 p = 5 ∧ F_dst (mL M2) Y.2 p ≠ 5) from fun z => c1 z.1)] at ih3
            have er : m_raw (Y.2.1 p) = Y.2.1 p := m_raw_n c1 (by omega)
            simp (disch := omega) only [b_X6_courts_0, x_loadR_0, x_loadS_0, x_iconst, x_storeI_1, b_X6_courts_6, x_loadI_1, y_ic_ge_t, y_ic_ge_f, b_X6_courts_11, f_6_33, y_iast_25, f_6_34, x_iinc_1, x_goto, b_X6_courts_31, y_if_eq_t, y_if_eq_f, b_X6_courts_37, x_storeI_2, x_loadI_2, f_6_0, b_X6_courts_49, y_iald_25, y_ic_ne_t, y_ic_ne_f, b_X6_courts_59, x_ior, b_X6_courts_67, x_iinc_2, b_X6_courts_73, b_X6_courts_76, x_vret, q_isL_I, q_isL_R, q_isL_S, true_and, and_true, and_self, List.length_nil, List.length_cons, Nat.zero_add, x_K, x_Kn, Int.reduceToNat, Nat.reduceAdd, Nat.reduceMul, Nat.reduceLeDiff, Nat.reduceLT, Nat.zero_le, Int.reduceAdd, Int.reduceSub, Int.reduceMul, Int.reduceNeg, q_add_e, q_sub_e, q_mul_e, q_neg_e, q_upd_s, q_upd_n, zr_shr0, zr_shr1, zr_shr2, zr_shr3, zr_shr4, zr_and, zr_dyn8, zr_or, zr_shl, q_cpy_n, y_cpy26, hE, Int.toNat_natCast, ry_f, er]
            exact ih3
      rw [b_X6_courts_33]
      simp (disch := omega) only [b_X6_courts_0, x_loadR_0, x_loadS_0, x_iconst, x_storeI_1, b_X6_courts_6, x_loadI_1, y_ic_ge_t, y_ic_ge_f, b_X6_courts_11, f_6_33, y_iast_25, f_6_34, x_iinc_1, x_goto, b_X6_courts_31, y_if_eq_t, y_if_eq_f, b_X6_courts_37, x_storeI_2, x_loadI_2, f_6_0, b_X6_courts_49, y_iald_25, y_ic_ne_t, y_ic_ne_f, b_X6_courts_59, x_ior, b_X6_courts_67, x_iinc_2, b_X6_courts_73, b_X6_courts_76, x_vret, q_isL_I, q_isL_R, q_isL_S, true_and, and_true, and_self, List.length_nil, List.length_cons, Nat.zero_add, x_K, x_Kn, Int.reduceToNat, Nat.reduceAdd, Nat.reduceMul, Nat.reduceLeDiff, Nat.reduceLT, Nat.zero_le, Int.reduceAdd, Int.reduceSub, Int.reduceMul, Int.reduceNeg, q_add_e, q_sub_e, q_mul_e, q_neg_e, q_upd_s, q_upd_n, zr_shr0, zr_shr1, zr_shr2, zr_shr3, zr_shr4, zr_and, zr_dyn8, zr_or, zr_shl, q_cpy_n, y_cpy26, hl2]
      exact inner (M2 100 0).toNat 0 (by omega)
  have hph := F_ph_le (G_x0_iv (n := (M2 100 0).toNat)) (M2 100 0).toNat (Nat.le_refl _)
  exact outer 1000 G_x0 _ rfl G_x0_iv (by omega) hq2
