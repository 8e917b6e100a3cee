/-! THE CLASS'S ENTRIES: years of a thought -/
theorem q_wl_eq {V : Nat → (Nat → Int) → Int} {w ta : Nat} {M M2 : q_M} (h : ∀ a i, ((w ≤ a ∧ a ≤ w + 25) ∨ a + 1 = ta ∨ a = ta ∨ a = ta + 1) → M2 a i = M a i) (hw : q_wl V M w ta) : q_wl V M2 w ta := by
  obtain ⟨h1, h2, h3, h4, h5, h6⟩ := hw
  have e : ∀ a i, w ≤ a → a ≤ w + 25 → M2 a i = M a i := fun a i q1 q2 => h a i (Or.inl ⟨q1, q2⟩)
  refine ⟨?_, h2, fun M' hM => h3 M' (fun a i ha => (hM a i ha).trans (h a i (Or.inr ha))), (e w 10 (by omega) (by omega)).trans h4, h5, h6⟩
  unfold q_rgW at h1 ⊢
  simp only [fun i => e w i (by omega) (by omega), fun i => e (w + 1) i (by omega) (by omega), fun i => e (w + 2) i (by omega) (by omega), fun i => e (w + 3) i (by omega) (by omega), fun i => e (w + 19) i (by omega) (by omega), fun i => e (w + 20) i (by omega) (by omega), fun i => e (w + 21) i (by omega) (by omega), fun i => e (w + 22) i (by omega) (by omega), fun i => e (w + 23) i (by omega) (by omega), fun i => e (w + 24) i (by omega) (by omega), fun i => e (w + 25) i (by omega) (by omega)]
  exact h1
theorem q_th_wl {V : Nat → (Nat → Int) → Int} {ta : Nat} {M M2 : q_M} (ht : ta = 8 ∨ 125 ≤ ta) (h : q_th ta M M2) (hw : q_wl V M 11 ta) : q_wl V M2 11 ta := q_wl_eq (fun a i ha => h a i (by omega) (by omega)) hw
theorem q_th_cW {ta : Nat} {M M2 : q_M} (ht : ta = 8 ∨ 125 ≤ ta) (h : q_th ta M M2) : cW M2 11 = cW M 11 := cW_same (fun a i ha => h a i (by omega) (by omega))
/-- a thought begun: as now, by the same law -/
theorem q_think {V : Nat → (Nat → Int) → Int} {ta : Nat} {M M2 : q_M} (ht : ta = 8 ∨ 125 ≤ ta) (hw : q_wl V M 11 ta) (hr : q_rg5 M 38) (h : q_cpd 38 11 M M2) : q_wl V M2 38 ta ∧ cW M2 38 = cW M 11 ∧ M2 38 9 = M 11 9 := ⟨q_cpd_wl hw hr (by omega) h, q_cpd_cW hw.1.1.2 h, h.2.2.1⟩
theorem F_year_y {V : Nat → (Nat → Int) → Int} {w : Nat} {M M2 : q_M} (h : cW M2 w = (F_year V (cW M w)).2) : M2 w 9 = M w 9 + 1 := by
  rw [← cW_91 (M := M2) (w := w), h]
  show q_upd (F_yr V (cW M w) (F_n (cW M w))).2 9 1 (cW M w 9 1 + 1) 9 1 = M w 9 + 1
  rw [q_upd_s, cW_91]
set_option maxHeartbeats 4000000 in
theorem sp_runL {V : Nat → (Nat → Int) → Int} {d : Nat} {g : q_G} {M S : q_M} {ta n : Nat} {wt : Int} {l3 : q_V} {Q : Option q_V → q_G → q_M → Prop} (hn : n ≤ 1000) (hl3 : q_isL l3 = false) (hq : ∀ M2 : q_M, q_wl V M2 38 ta → cW M2 38 = F_ys V S n → q_th ta M M2 → q_T 1 (d + 5) qP_X5_run 80 [] [qR 5 0, qI n, qI wt, l3, qI n] [] g M2 Q) : ∀ j i : Nat, i + j = n → ∀ M1 : q_M, q_wl V M1 38 ta → cW M1 38 = F_ys V S i → (∀ p, p < 5 → M1 (38 + 1 + 3 + (1 + p)) 5 = 0) → M1 38 9 + j ≤ 2000 → q_th ta M M1 → q_T 1 (d + 5) qP_X5_run 60 [] [qR 5 0, qI n, qI wt, l3, qI i] [] g M1 Q := by
  intro j
  induction j with
  | zero =>
    intro i hi M1 hw hc hz hy hf
    have e : i = n := by omega
    subst e
    rw [b_X5_run_60]
    simp (disch := omega) only [b_X5_run_0, x_loadI_1, y_if_lt_t, y_if_lt_f, b_X5_run_4, x_iconst, y_ic_le_t, y_ic_le_f, b_X5_run_10, x_ret0, b_X5_run_13, x_loadI_2, y_if_eq_t, y_if_eq_f, b_X5_run_17, y_ic_ne_t, y_ic_ne_f, b_X5_run_22, x_goto, b_X5_run_26, b_X5_run_27, x_storeI_3, x_loadI_3, y_if_ne_t, y_if_ne_f, b_X5_run_32, x_loadR_0, x_loadS_0, x_isub, b_X5_run_43, b_X5_run_46, f_5_4, f_5_3, x_storeI_4, x_loadI_4, y_ic_ge_t, y_ic_ge_f, b_X5_run_66, x_popI, x_popR, x_iinc_4, b_X5_run_84, b_X5_run_88, f_4_0, b_X5_run_101, b_X5_run_111, b_X5_run_112, f_4_6, y_iald_26, q_isL_I, q_isL_R, q_isL_S, true_and, and_true, and_self, List.length_nil, List.length_cons, Nat.zero_add, x_K, x_Kn, Int.reduceToNat, Nat.reduceAdd, Nat.reduceMul, Nat.reduceLeDiff, Nat.reduceLT, Nat.zero_le, Int.reduceAdd, Int.reduceSub, Int.reduceMul, Int.reduceNeg, q_add_e, q_sub_e, q_mul_e, q_neg_e, q_upd_s, q_upd_n, zr_shr0, zr_shr1, zr_shr2, zr_shr3, zr_shr4, zr_and, zr_dyn8, zr_or, zr_shl, q_cpy_n, y_cpy26]
    exact hq M1 hw hc hf
  | succ j ih =>
    intro i hi M1 hw hc hz hy hf
    rw [b_X5_run_60]
    simp (disch := omega) only [b_X5_run_0, x_loadI_1, y_if_lt_t, y_if_lt_f, b_X5_run_4, x_iconst, y_ic_le_t, y_ic_le_f, b_X5_run_10, x_ret0, b_X5_run_13, x_loadI_2, y_if_eq_t, y_if_eq_f, b_X5_run_17, y_ic_ne_t, y_ic_ne_f, b_X5_run_22, x_goto, b_X5_run_26, b_X5_run_27, x_storeI_3, x_loadI_3, y_if_ne_t, y_if_ne_f, b_X5_run_32, x_loadR_0, x_loadS_0, x_isub, b_X5_run_43, b_X5_run_46, f_5_4, f_5_3, x_storeI_4, x_loadI_4, y_ic_ge_t, y_ic_ge_f, b_X5_run_66, x_popI, x_popR, x_iinc_4, b_X5_run_84, b_X5_run_88, f_4_0, b_X5_run_101, b_X5_run_111, b_X5_run_112, f_4_6, y_iald_26, q_isL_I, q_isL_R, q_isL_S, true_and, and_true, and_self, List.length_nil, List.length_cons, Nat.zero_add, x_K, x_Kn, Int.reduceToNat, Nat.reduceAdd, Nat.reduceMul, Nat.reduceLeDiff, Nat.reduceLT, Nat.zero_le, Int.reduceAdd, Int.reduceSub, Int.reduceMul, Int.reduceNeg, q_add_e, q_sub_e, q_mul_e, q_neg_e, q_upd_s, q_upd_n, zr_shr0, zr_shr1, zr_shr2, zr_shr3, zr_shr4, zr_and, zr_dyn8, zr_or, zr_shl, q_cpy_n, y_cpy26, c_X4_passYear]
    refine sp_passYear hw hz (by omega) (fun M2 h1 h2 h3 => ?_)
    have hy2 := F_year_y h2
    simp (disch := omega) only [b_X5_run_0, x_loadI_1, y_if_lt_t, y_if_lt_f, b_X5_run_4, x_iconst, y_ic_le_t, y_ic_le_f, b_X5_run_10, x_ret0, b_X5_run_13, x_loadI_2, y_if_eq_t, y_if_eq_f, b_X5_run_17, y_ic_ne_t, y_ic_ne_f, b_X5_run_22, x_goto, b_X5_run_26, b_X5_run_27, x_storeI_3, x_loadI_3, y_if_ne_t, y_if_ne_f, b_X5_run_32, x_loadR_0, x_loadS_0, x_isub, b_X5_run_43, b_X5_run_46, f_5_4, f_5_3, x_storeI_4, x_loadI_4, y_ic_ge_t, y_ic_ge_f, b_X5_run_66, x_popI, x_popR, x_iinc_4, b_X5_run_84, b_X5_run_88, f_4_0, b_X5_run_101, b_X5_run_111, b_X5_run_112, f_4_6, y_iald_26, q_isL_I, q_isL_R, q_isL_S, true_and, and_true, and_self, List.length_nil, List.length_cons, Nat.zero_add, x_K, x_Kn, Int.reduceToNat, Nat.reduceAdd, Nat.reduceMul, Nat.reduceLeDiff, Nat.reduceLT, Nat.zero_le, Int.reduceAdd, Int.reduceSub, Int.reduceMul, Int.reduceNeg, q_add_e, q_sub_e, q_mul_e, q_neg_e, q_upd_s, q_upd_n, zr_shr0, zr_shr1, zr_shr2, zr_shr3, zr_shr4, zr_and, zr_dyn8, zr_or, zr_shl, q_cpy_n, y_cpy26, hl3]
    exact ih (i + 1) (by omega) M2 h1 (by rw [h2, hc]; rfl) (fun p hp => (h3 _ 5 (by omega) (by omega) (by have h := hw.2.2.2.2.2; have h9 := hf; omega) (by omega)).trans (hz p hp)) (by omega) (q_th_tr hf (q_th_yn h3))
