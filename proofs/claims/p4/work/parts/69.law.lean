/-! THE CLASS'S TEXTS: a text's code gives a law -/
theorem F_val_st {C N : Nat → Int} : ∀ (j i top : Nat) (st st' : Nat → Int), (∀ k, 2 ≤ k → k ≤ top → st k = st' k) → F_val C N j i top st = F_val C N j i top st' := by
  intro j
  induction j with
  | zero =>
    intro i top st st' h
    rw [F_val, F_val]
    by_cases c : top < 2
    · rw [if_pos c, if_pos c]
    · rw [if_neg c, if_neg c]
      exact h top (by omega) (by omega)
  | succ j ih =>
    intro i top st st' h
    have hu : ∀ (p : Nat) (v : Int) (t2 : Nat), (∀ k, 2 ≤ k → k ≤ t2 → k ≠ p → k ≤ top) → ∀ k, 2 ≤ k → k ≤ t2 → F_u st p v k = F_u st' p v k := by
      intro p v t2 ht k h1 h2
      unfold F_u
      by_cases e : k = p
      · rw [if_pos e, if_pos e]
      · rw [if_neg e, if_neg e]
        exact h k h1 (ht k h1 h2 e)
    rw [F_val, F_val]
    by_cases c0 : C i % 16 = 0
    · rw [if_pos c0, if_pos c0]
      by_cases c : top < 2
      · rw [if_pos c, if_pos c]
      · rw [if_neg c, if_neg c]
        exact h top (by omega) (by omega)
    rw [if_neg c0, if_neg c0]
    by_cases c1 : C i % 16 = 1
    · rw [if_pos c1, if_pos c1]
      by_cases c : 39 ≤ top
      · rw [if_pos c, if_pos c]
      · rw [if_neg c, if_neg c]
        exact ih _ _ _ _ (hu _ _ _ (by omega))
    rw [if_neg c1, if_neg c1]
    by_cases c2 : C i % 16 = 2
    · rw [if_pos c2, if_pos c2]
      by_cases c : 39 ≤ top
      · rw [if_pos c, if_pos c]
      · rw [if_neg c, if_neg c]
        exact ih _ _ _ _ (hu _ _ _ (by omega))
    rw [if_neg c2, if_neg c2]
    by_cases c3 : C i % 16 = 3
    · rw [if_pos c3, if_pos c3]
      by_cases c : top < 2
      · rw [if_pos c, if_pos c]
      · rw [if_neg c, if_neg c, h top (by omega) (by omega)]
        exact ih _ _ _ _ (hu _ _ _ (by omega))
    rw [if_neg c3, if_neg c3]
    by_cases c4 : C i % 16 = 4
    · rw [if_pos c4, if_pos c4]
      by_cases c : top < 2
      · rw [if_pos c, if_pos c]
      · rw [if_neg c, if_neg c, h top (by omega) (by omega)]
        exact ih _ _ _ _ (hu _ _ _ (by omega))
    rw [if_neg c4, if_neg c4]
    by_cases c : top < 3
    · rw [if_pos c, if_pos c]
    · rw [if_neg c, if_neg c, h top (by omega) (by omega), h (top - 1) (by omega) (by omega)]
      exact ih _ _ _ _ (hu _ _ _ (by omega))
theorem F_val_N {C N N' : Nat → Int} {len : Nat} (hC : q_cod C len) (hN : ∀ i, i < 6 → N i = N' i) : ∀ (j i top : Nat) (st : Nat → Int), i + j = len → F_val C N j i top st = F_val C N' j i top st := by
  intro j
  induction j with
  | zero =>
    intro i top st _
    rw [F_val, F_val]
  | succ j ih =>
    intro i top st hi
    have hc := hC i (by omega)
    have ih2 := fun top st => ih (i + 1) top st (by omega)
    rw [F_val, F_val]
    simp only [ih2]
    by_cases c2 : C i % 16 = 2
    · rw [hN (C i / 16).toNat (by omega)]
    · rw [if_neg c2, if_neg c2]
def q_Vt (C s : Nat → Int) (len : Nat) : Nat → (Nat → Int) → Int := fun part N => F_val C N (len - (s part).toNat) (s part).toNat 1 (fun _ => 0)
theorem q_lawV_of {C s : Nat → Int} {len : Nat} (hC : q_cod C len) (hs : ∀ p, 0 ≤ s p ∧ s p ≤ len) : q_lawV (q_Vt C s len) := by
  intro part f f' h
  have h1 := hs part
  exact F_val_N hC h (len - (s part).toNat) (s part).toNat 1 _ (by omega)
set_option maxHeartbeats 4000000 in
theorem q_lawC_of {M : q_M} {ca ta len : Nat} (hca : ca + 1 = ta) (h1 : M ta 1 = ca) (h2 : M ta 2 = ((ta + 1 : Nat) : Int)) (h3 : M ta 3 = ((ta + 2 : Nat) : Int)) (hlen : M ca 1000 = len) (hl2 : len < 100000) (hC : q_cod (M ca) len) (hs : ∀ p, p < 3 → 0 ≤ M (ta + 1) p ∧ M (ta + 1) p ≤ len) : q_lawC (q_Vt (M ca) (M (ta + 1)) len) ta M := by
  intro M' hM d g Q part na hp hna hq
  have e1 : M' ta 1 = ca := (hM ta 1 (by omega)).trans h1
  have e2 : M' ta 2 = ((ta + 1 : Nat) : Int) := (hM ta 2 (by omega)).trans h2
  have e3 : M' ta 3 = ((ta + 2 : Nat) : Int) := (hM ta 3 (by omega)).trans h3
  have eC : M' ca = M ca := funext (fun i => hM ca i (by omega))
  have eS : M' (ta + 1) part = M (ta + 1) part := hM (ta + 1) part (by omega)
  have hsp := hs part hp
  have hy2 := q_dynT (k := 23) e2
  have hself : q_sM M' (ta + 2) (M' (ta + 2)) = M' := by
    funext a i
    unfold q_sM
    by_cases c : a = ta + 2
    · rw [if_pos c, c]
    · rw [if_neg c]
  rw [s_X3_value]
  simp (disch := omega) only [b_X3_value_0, x_iconst, x_storeI_3, x_loadR_0, x_loadS_0, f_3_2, x_loadI_1, y_iald_23, y_iald_26, y_iald_60, x_storeI_4, x_loadI_4, f_3_1, x_alen_10, y_alen_180, y_ic_ge_t, y_ic_ge_f, b_X3_value_20, x_iand, x_storeI_5, x_ishr, x_storeI_6, x_loadI_5, y_if_ne_t, y_if_ne_f, b_X3_value_48, x_goto, b_X3_value_51, y_ic_eq_t, y_ic_eq_f, b_X3_value_57, y_ic_ne_t, y_ic_ne_f, b_X3_value_63, x_loadI_3, y_ic_lt_t, y_ic_lt_f, b_X3_value_69, x_ret0, b_X3_value_71, x_iinc_3, f_3_3, b_X3_value_85, x_loadI_6, b_X3_value_90, x_loadR_2, x_loadS_2, b_X3_value_94, y_iast_23, y_iast_26, y_iast_60, b_X3_value_98, b_X3_value_104, b_X3_value_110, b_X3_value_115, b_X3_value_117, x_storeI_7, b_X3_value_136, x_loadI_7, x_ineg, b_X3_value_142, b_X3_value_147, b_X3_value_151, b_X3_value_152, b_X3_value_156, b_X3_value_161, b_X3_value_163, x_iadd, x_storeI_8, tw_0_5, tw_0_6, tw_0_7, tw_0_8, tw_0_9, tw_0_10, tw_0_o, b_X3_value_224, x_loadI_8, x_imul, x_storeI_9, b_X3_value_234, b_X3_value_244, x_isub, b_X3_value_254, b_X3_value_261, b_X3_value_265, b_X3_value_266, b_X3_value_271, b_X3_value_278, b_X3_value_282, b_X3_value_283, b_X3_value_288, y_if_eq_t, y_if_eq_f, b_X3_value_293, b_X3_value_298, b_X3_value_302, b_X3_value_303, b_X3_value_308, b_X3_value_313, b_X3_value_318, b_X3_value_322, b_X3_value_323, b_X3_value_325, x_loadI_9, b_X3_value_333, x_iinc_4, b_X3_value_339, b_X3_value_344, b_X3_value_348, b_X3_value_354, q_isL_I, q_isL_R, q_isL_S, true_and, and_true, and_self, List.length_nil, List.length_cons, Nat.zero_add, x_K, x_Kn, Int.reduceToNat, Nat.reduceAdd, Nat.reduceMul, Nat.reduceLeDiff, Nat.reduceLT, Nat.zero_le, Int.reduceAdd, Int.reduceSub, Int.reduceMul, Int.reduceNeg, q_add_e, q_sub_e, q_upd_s, q_upd_n, zr_shr0, zr_shr1, zr_shr2, zr_shr3, zr_shr4, zr_and, zr_dyn8, zr_or, zr_shl, q_cpy_n, y_cpy26, hy2, Int.toNat_natCast, eS]
  have key := sp_valueL (d := d) (g := g) (M := M') (ca := ca) (ta := ta) (sa := ta + 2) (na := na) (len := len) (pt := part) (Q := Q) e1 e3 (by omega) (by omega) (Ne.symm hna) (by rw [eC]; exact hlen) hl2 (by rw [eC]; exact hC) (len - (M (ta + 1) part).toNat) (M (ta + 1) part).toNat (by omega) 1 (M' (ta + 2)) (qS 0) (qS 0) (qS 0) (qS 0) (qS 0) (by omega) (by omega) rfl rfl rfl rfl rfl ?_
  · rw [hself, show (((M (ta + 1) part).toNat : Nat) : Int) = M (ta + 1) part by omega] at key
    exact key
  · intro st2
    have h := hq (q_sM M' (ta + 2) st2) (fun a i ha => q_sM_n ha)
    unfold q_Vt at h
    rw [F_val_st (C := M ca) (N := M' na) (len - (M (ta + 1) part).toNat) (M (ta + 1) part).toNat 1 (fun _ => 0) (M' (ta + 2)) (fun k q1 q2 => absurd q1 (by omega))] at h
    rw [eC]
    exact h
