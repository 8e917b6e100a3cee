/-! THE CLASS'S WORLD: a year -/
def F_yr (V : Nat → (Nat → Int) → Int) (S : q_M) : Nat → Int × q_M
  | 0 => (0, S)
  | p + 1 =>
    if (F_yr V S p).2 4 p = 5 ∧ F_wish V (F_yr V S p).2 p ≠ 5 then
      (if (F_goto V (F_yr V S p).2 p (F_wish V (F_yr V S p).2 p)).1 = true then q_or (F_yr V S p).1 (q_shl 1 p) else (F_yr V S p).1, (F_goto V (F_yr V S p).2 p (F_wish V (F_yr V S p).2 p)).2)
    else F_yr V S p
def F_year (V : Nat → (Nat → Int) → Int) (S : q_M) : Int × q_M := ((F_yr V S (F_n S)).1, q_upd (F_yr V S (F_n S)).2 9 1 (S 9 1 + 1))
def q_yn (w ta : Nat) (M M2 : q_M) : Prop := ∀ a i, (a ≠ w ∨ i ≠ 9) → a ≠ w + 26 → a ≠ ta + 2 → (i < 5 → a ≠ w + 3 ∧ a ≠ w + 21 ∧ a ≠ w + 24 ∧ (a < w + 5 ∨ (w + 10 ≤ a ∧ a < w + 12) ∨ w + 17 ≤ a)) → M2 a i = M a i
theorem q_yn_rf {w ta : Nat} {M : q_M} : q_yn w ta M M := fun _ _ _ _ _ _ => rfl
theorem q_yn_tr {w ta : Nat} {M M2 M3 : q_M} (h : q_yn w ta M M2) (h2 : q_yn w ta M2 M3) : q_yn w ta M M3 := fun a i h3 h4 h5 h6 => (h2 a i h3 h4 h5 h6).trans (h a i h3 h4 h5 h6)
theorem q_yn_of {w ta : Nat} {M M2 : q_M} (h : q_yr w ta M M2) : q_yn w ta M M2 := fun a i _ h2 h3 h4 => h a i h2 h3 h4
theorem F_wish_le {V : Nat → (Nat → Int) → Int} {S : q_M} {p : Nat} : F_wish V S p < 5 ∨ F_wish V S p = 5 := F_best_1 _ _ 5
set_option maxHeartbeats 4000000 in
theorem sp_passYear {V : Nat → (Nat → Int) → Int} {d : Nat} {g : q_G} {M : q_M} {w ta : Nat} {Q : Option q_V → q_G → q_M → Prop} (hw : q_wl V M w ta) (hz : ∀ p, p < 5 → M (w + 1 + 3 + (1 + p)) 5 = 0) (hy : M w 9 < 2000) (hq : ∀ M2 : q_M, q_wl V M2 w ta → cW M2 w = (F_year V (cW M w)).2 → q_yn w ta M M2 → Q (some (qI (F_year V (cW M w)).1)) g M2) : q_S 1 (d + 4) 59 [qR 4 w] g M Q := by
  have hn := hw.1.1
  have hy0 := hw.1.2.1
  have hds := hw.2.2.2.2.2
  have hFn : F_n (cW M w) = (M (w + 1) 5).toNat := rfl
  rw [s_X4_passYear]
  have loop : ∀ j p : Nat, p + j = (M (w + 1) 5).toNat → ∀ (l : q_V) (M1 : q_M), q_isL l = false → q_wl V M1 w ta → cW M1 w = (F_yr V (cW M w) p).2 → q_yr w ta M M1 → q_T 1 (d + 4) qP_X4_passYear 4 [] [qR 4 w, qI (F_yr V (cW M w) p).1, qI p, l] [] g M1 Q := by
    intro j
    induction j with
    | zero =>
      intro p hpj l M1 hll hw1 hc hf
      have e5 : M1 (w + 1) 5 = M (w + 1) 5 := hf (w + 1) 5 (by omega) (by omega) (by omega)
      have e9 : M1 w 9 = M w 9 := hf w 9 (by omega) (by omega) (by omega)
      have hpn : p = (M (w + 1) 5).toNat := by omega
      rw [b_X4_passYear_4]
      simp (disch := omega) only [b_X4_passYear_0, x_iconst, x_storeI_1, x_storeI_2, x_loadI_2, x_loadR_0, x_loadS_0, f_4_0, f_0_5, y_ic_ge_t, y_ic_ge_f, b_X4_passYear_15, f_0_1, y_iald_26, y_ic_ne_t, y_ic_ne_f, b_X4_passYear_28, x_goto, b_X4_passYear_36, b_X4_passYear_37, x_storeI_3, x_loadI_3, y_ic_eq_t, y_ic_eq_f, b_X4_passYear_43, y_if_eq_t, y_if_eq_f, b_X4_passYear_52, x_loadI_1, x_ishl, x_ior, b_X4_passYear_58, x_iinc_2, b_X4_passYear_64, x_dupI, x_dupR, f_4_9, x_iadd, p_4_9, x_ret0, q_isL_I, q_isL_R, q_isL_S, true_and, and_true, and_self, List.length_nil, List.length_cons, Nat.zero_add, x_K, x_Kn, Int.reduceToNat, Nat.reduceAdd, Nat.reduceMul, Nat.reduceLeDiff, Nat.reduceLT, Nat.zero_le, Int.reduceAdd, Int.reduceSub, Int.reduceMul, Int.reduceNeg, q_add_e, q_sub_e, q_mul_e, q_neg_e, q_upd_s, q_upd_n, zr_shr0, zr_shr1, zr_shr2, zr_shr3, zr_shr4, zr_and, zr_dyn8, zr_or, zr_shl, q_cpy_n, y_cpy26, e5, e9]
      have hq2 := hq (q_upd M1 w 9 (M w 9 + 1)) (q_wl_up hw1 (by omega))
      unfold F_year at hq2
      rw [hFn, ← hpn, cW_91] at hq2
      refine hq2 (by rw [cW_up9, hc]) (fun a i h1 h2 h3 h4 => ?_)
      rw [q_upd_n (by omega)]
      exact hf a i h2 h3 h4
    | succ j ih =>
      intro p hpj l M1 hll hw1 hc hf
      have e5 : M1 (w + 1) 5 = M (w + 1) 5 := hf (w + 1) 5 (by omega) (by omega) (by omega)
      have hp1 : p < (M1 (w + 1) 5).toNat := by omega
      have hz1 : M1 (w + 1 + 3 + (1 + p)) 5 = 0 := (hf _ 5 (by omega) (by omega) (by omega)).trans (hz p (by omega))
      have hin : cW M1 w 4 p = M1 (w + 3) p := cW_4 hp1
      have ih2 := ih (p + 1) (by omega)
      rw [F_yr] at ih2
      generalize F_yr V (cW M w) p = R at hc ih2 ⊢
      rw [← hc, hin] at ih2
      rw [b_X4_passYear_4]
      by_cases c1 : M1 (w + 3) p = 5
      · simp (disch := omega) only [b_X4_passYear_0, x_iconst, x_storeI_1, x_storeI_2, x_loadI_2, x_loadR_0, x_loadS_0, f_4_0, f_0_5, y_ic_ge_t, y_ic_ge_f, b_X4_passYear_15, f_0_1, y_iald_26, y_ic_ne_t, y_ic_ne_f, b_X4_passYear_28, x_goto, b_X4_passYear_36, b_X4_passYear_37, x_storeI_3, x_loadI_3, y_ic_eq_t, y_ic_eq_f, b_X4_passYear_43, y_if_eq_t, y_if_eq_f, b_X4_passYear_52, x_loadI_1, x_ishl, x_ior, b_X4_passYear_58, x_iinc_2, b_X4_passYear_64, x_dupI, x_dupR, f_4_9, x_iadd, p_4_9, x_ret0, q_isL_I, q_isL_R, q_isL_S, true_and, and_true, and_self, List.length_nil, List.length_cons, Nat.zero_add, x_K, x_Kn, Int.reduceToNat, Nat.reduceAdd, Nat.reduceMul, Nat.reduceLeDiff, Nat.reduceLT, Nat.zero_le, Int.reduceAdd, Int.reduceSub, Int.reduceMul, Int.reduceNeg, q_add_e, q_sub_e, q_mul_e, q_neg_e, q_upd_s, q_upd_n, zr_shr0, zr_shr1, zr_shr2, zr_shr3, zr_shr4, zr_and, zr_dyn8, zr_or, zr_shl, q_cpy_n, y_cpy26, e5, c1, hll, c_X4_wish, Int.toNat_natCast]
        refine sp_wish hw1 hp1 hz1 (fun M2 hf2 => ?_)
        have hw2 := q_tel_wl hf2 hw1
        have hc2 := q_tel_cW hf2 hds
        have hfl := F_wish_le (V := V) (S := cW M1 w) (p := p)
        generalize hW : F_wish V (cW M1 w) p = W at ih2 hfl ⊢
        have f5 : M2 (w + 1) 5 = M (w + 1) 5 := (hf2 (w + 1) 5 (by omega) (by omega) (by omega)).trans e5
        rcases hfl with c2 | c2
        · rw [if_pos ⟨c1, by omega⟩] at ih2
          simp (disch := omega) only [b_X4_passYear_0, x_iconst, x_storeI_1, x_storeI_2, x_loadI_2, x_loadR_0, x_loadS_0, f_4_0, f_0_5, y_ic_ge_t, y_ic_ge_f, b_X4_passYear_15, f_0_1, y_iald_26, y_ic_ne_t, y_ic_ne_f, b_X4_passYear_28, x_goto, b_X4_passYear_36, b_X4_passYear_37, x_storeI_3, x_loadI_3, y_ic_eq_t, y_ic_eq_f, b_X4_passYear_43, y_if_eq_t, y_if_eq_f, b_X4_passYear_52, x_loadI_1, x_ishl, x_ior, b_X4_passYear_58, x_iinc_2, b_X4_passYear_64, x_dupI, x_dupR, f_4_9, x_iadd, p_4_9, x_ret0, q_isL_I, q_isL_R, q_isL_S, true_and, and_true, and_self, List.length_nil, List.length_cons, Nat.zero_add, x_K, x_Kn, Int.reduceToNat, Nat.reduceAdd, Nat.reduceMul, Nat.reduceLeDiff, Nat.reduceLT, Nat.zero_le, Int.reduceAdd, Int.reduceSub, Int.reduceMul, Int.reduceNeg, q_add_e, q_sub_e, q_mul_e, q_neg_e, q_upd_s, q_upd_n, zr_shr0, zr_shr1, zr_shr2, zr_shr3, zr_shr4, zr_and, zr_dyn8, zr_or, zr_shl, q_cpy_n, y_cpy26, hll, c_X4_goTo, Int.toNat_natCast]
          refine sp_goTo hw2 (by omega) c2 (fun M3 hw3 hc3 hf3 => ?_)
          rw [hc2] at hc3 ⊢
          have hf4 := q_yr_tr (q_yr_tr hf (q_yr_of hf2)) hf3
          generalize F_goto V (cW M1 w) p W = R3 at hc3 ih2 ⊢
          by_cases c4 : R3.1 = true
          · rw [if_pos c4] at ih2
            simp (disch := omega) only [b_X4_passYear_0, x_iconst, x_storeI_1, x_storeI_2, x_loadI_2, x_loadR_0, x_loadS_0, f_4_0, f_0_5, y_ic_ge_t, y_ic_ge_f, b_X4_passYear_15, f_0_1, y_iald_26, y_ic_ne_t, y_ic_ne_f, b_X4_passYear_28, x_goto, b_X4_passYear_36, b_X4_passYear_37, x_storeI_3, x_loadI_3, y_ic_eq_t, y_ic_eq_f, b_X4_passYear_43, y_if_eq_t, y_if_eq_f, b_X4_passYear_52, x_loadI_1, x_ishl, x_ior, b_X4_passYear_58, x_iinc_2, b_X4_passYear_64, x_dupI, x_dupR, f_4_9, x_iadd, p_4_9, x_ret0, q_isL_I, q_isL_R, q_isL_S, true_and, and_true, and_self, List.length_nil, List.length_cons, Nat.zero_add, x_K, x_Kn, Int.reduceToNat, Nat.reduceAdd, Nat.reduceMul, Nat.reduceLeDiff, Nat.reduceLT, Nat.zero_le, Int.reduceAdd, Int.reduceSub, Int.reduceMul, Int.reduceNeg, q_add_e, q_sub_e, q_mul_e, q_neg_e, q_upd_s, q_upd_n, zr_shr0, zr_shr1, zr_shr2, zr_shr3, zr_shr4, zr_and, zr_dyn8, zr_or, zr_shl, q_cpy_n, y_cpy26, c4, if_true, Int.toNat_natCast]
            exact ih2 _ M3 rfl hw3 hc3 hf4
          · rw [if_neg c4] at ih2
            simp (disch := omega) only [b_X4_passYear_0, x_iconst, x_storeI_1, x_storeI_2, x_loadI_2, x_loadR_0, x_loadS_0, f_4_0, f_0_5, y_ic_ge_t, y_ic_ge_f, b_X4_passYear_15, f_0_1, y_iald_26, y_ic_ne_t, y_ic_ne_f, b_X4_passYear_28, x_goto, b_X4_passYear_36, b_X4_passYear_37, x_storeI_3, x_loadI_3, y_ic_eq_t, y_ic_eq_f, b_X4_passYear_43, y_if_eq_t, y_if_eq_f, b_X4_passYear_52, x_loadI_1, x_ishl, x_ior, b_X4_passYear_58, x_iinc_2, b_X4_passYear_64, x_dupI, x_dupR, f_4_9, x_iadd, p_4_9, x_ret0, q_isL_I, q_isL_R, q_isL_S, true_and, and_true, and_self, List.length_nil, List.length_cons, Nat.zero_add, x_K, x_Kn, Int.reduceToNat, Nat.reduceAdd, Nat.reduceMul, Nat.reduceLeDiff, Nat.reduceLT, Nat.zero_le, Int.reduceAdd, Int.reduceSub, Int.reduceMul, Int.reduceNeg, q_add_e, q_sub_e, q_mul_e, q_neg_e, q_upd_s, q_upd_n, zr_shr0, zr_shr1, zr_shr2, zr_shr3, zr_shr4, zr_and, zr_dyn8, zr_or, zr_shl, q_cpy_n, y_cpy26, c4, Bool.false_eq_true, if_false, Int.toNat_natCast]
            exact ih2 _ M3 rfl hw3 hc3 hf4
        · rw [if_neg (fun z => z.2 c2)] at ih2
          subst c2
          simp (disch := omega) only [b_X4_passYear_0, x_iconst, x_storeI_1, x_storeI_2, x_loadI_2, x_loadR_0, x_loadS_0, f_4_0, f_0_5, y_ic_ge_t, y_ic_ge_f, b_X4_passYear_15, f_0_1, y_iald_26, y_ic_ne_t, y_ic_ne_f, b_X4_passYear_28, x_goto, b_X4_passYear_36, b_X4_passYear_37, x_storeI_3, x_loadI_3, y_ic_eq_t, y_ic_eq_f, b_X4_passYear_43, y_if_eq_t, y_if_eq_f, b_X4_passYear_52, x_loadI_1, x_ishl, x_ior, b_X4_passYear_58, x_iinc_2, b_X4_passYear_64, x_dupI, x_dupR, f_4_9, x_iadd, p_4_9, x_ret0, q_isL_I, q_isL_R, q_isL_S, true_and, and_true, and_self, List.length_nil, List.length_cons, Nat.zero_add, x_K, x_Kn, Int.reduceToNat, Nat.reduceAdd, Nat.reduceMul, Nat.reduceLeDiff, Nat.reduceLT, Nat.zero_le, Int.reduceAdd, Int.reduceSub, Int.reduceMul, Int.reduceNeg, q_add_e, q_sub_e, q_mul_e, q_neg_e, q_upd_s, q_upd_n, zr_shr0, zr_shr1, zr_shr2, zr_shr3, zr_shr4, zr_and, zr_dyn8, zr_or, zr_shl, q_cpy_n, y_cpy26, hll, Int.toNat_natCast]
          exact ih2 _ M2 rfl hw2 (hc2.trans hc) (q_yr_tr hf (q_yr_of hf2))
      · rw [if_neg (fun z => c1 z.1)] at ih2
        simp (disch := omega) only [b_X4_passYear_0, x_iconst, x_storeI_1, x_storeI_2, x_loadI_2, x_loadR_0, x_loadS_0, f_4_0, f_0_5, y_ic_ge_t, y_ic_ge_f, b_X4_passYear_15, f_0_1, y_iald_26, y_ic_ne_t, y_ic_ne_f, b_X4_passYear_28, x_goto, b_X4_passYear_36, b_X4_passYear_37, x_storeI_3, x_loadI_3, y_ic_eq_t, y_ic_eq_f, b_X4_passYear_43, y_if_eq_t, y_if_eq_f, b_X4_passYear_52, x_loadI_1, x_ishl, x_ior, b_X4_passYear_58, x_iinc_2, b_X4_passYear_64, x_dupI, x_dupR, f_4_9, x_iadd, p_4_9, x_ret0, q_isL_I, q_isL_R, q_isL_S, true_and, and_true, and_self, List.length_nil, List.length_cons, Nat.zero_add, x_K, x_Kn, Int.reduceToNat, Nat.reduceAdd, Nat.reduceMul, Nat.reduceLeDiff, Nat.reduceLT, Nat.zero_le, Int.reduceAdd, Int.reduceSub, Int.reduceMul, Int.reduceNeg, q_add_e, q_sub_e, q_mul_e, q_neg_e, q_upd_s, q_upd_n, zr_shr0, zr_shr1, zr_shr2, zr_shr3, zr_shr4, zr_and, zr_dyn8, zr_or, zr_shl, q_cpy_n, y_cpy26, e5, c1, hll, Int.toNat_natCast]
        exact ih2 _ M1 rfl hw1 hc hf
  simp (disch := omega) only [b_X4_passYear_0, x_iconst, x_storeI_1, x_storeI_2, x_loadI_2, x_loadR_0, x_loadS_0, f_4_0, f_0_5, y_ic_ge_t, y_ic_ge_f, b_X4_passYear_15, f_0_1, y_iald_26, y_ic_ne_t, y_ic_ne_f, b_X4_passYear_28, x_goto, b_X4_passYear_36, b_X4_passYear_37, x_storeI_3, x_loadI_3, y_ic_eq_t, y_ic_eq_f, b_X4_passYear_43, y_if_eq_t, y_if_eq_f, b_X4_passYear_52, x_loadI_1, x_ishl, x_ior, b_X4_passYear_58, x_iinc_2, b_X4_passYear_64, x_dupI, x_dupR, f_4_9, x_iadd, p_4_9, x_ret0, q_isL_I, q_isL_R, q_isL_S, true_and, and_true, and_self, List.length_nil, List.length_cons, Nat.zero_add, x_K, x_Kn, Int.reduceToNat, Nat.reduceAdd, Nat.reduceMul, Nat.reduceLeDiff, Nat.reduceLT, Nat.zero_le, Int.reduceAdd, Int.reduceSub, Int.reduceMul, Int.reduceNeg, q_add_e, q_sub_e, q_mul_e, q_neg_e, q_upd_s, q_upd_n, zr_shr0, zr_shr1, zr_shr2, zr_shr3, zr_shr4, zr_and, zr_dyn8, zr_or, zr_shl, q_cpy_n, y_cpy26]
  exact loop (M (w + 1) 5).toNat 0 (by omega) (qS 0) M rfl hw rfl q_yr_rf
