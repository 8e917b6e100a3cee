section
/-! THE MODEL: its small calls answer, and all stays within its bounds -/
theorem G_goto_6 {V : Nat → (Nat → Int) → Int} {S : q_M} {p b i : Nat} : (G_goto V S p b).2 6 i = S 6 i := by
  have h1 : F_S1 V S p b 6 i = S 6 i := q_upd_n (by omega)
  unfold G_goto
  split
  · split
    · show G_S2 V (F_S1 V S p b) p b 6 i = S 6 i
      unfold G_S2
      rw [q_upd_n (by omega)]
      split
      · rw [q_upd_n (by omega)]
        exact h1
      · rw [q_upd_n (by omega), q_upd_n (by omega)]
        exact h1
    · exact h1
  · exact h1
theorem G_turn_6 {V : Nat → (Nat → Int) → Int} {S : q_M} {p i : Nat} : (G_turn V S p).2 6 i = S 6 i := by
  unfold G_turn
  split
  · rfl
  · exact G_goto_6
theorem G_yr_6 {V : Nat → (Nat → Int) → Int} {S : q_M} {i : Nat} : ∀ p : Nat, (G_yr V S p).2 6 i = S 6 i
  | 0 => rfl
  | p + 1 => by
    rw [G_yr]
    split
    · show (G_turn V (G_yr V S p).2 p).2 6 i = S 6 i
      rw [G_turn_6]
      exact G_yr_6 p
    · exact G_yr_6 p
theorem G_year_6 {V : Nat → (Nat → Int) → Int} {S : q_M} {i : Nat} : (G_year V S).2 6 i = S 6 i := by
  unfold G_year
  show q_upd (G_yr V S (F_n S)).2 9 1 (S 9 1 + 1) 6 i = S 6 i
  rw [q_upd_n (by omega)]
  exact G_yr_6 _
theorem q_MI_yr {Vt : Nat → Nat → (Nat → Int) → Int} {tm : Nat} {V : Nat → (Nat → Int) → Int} {M M2 : q_M} (hI : q_MI Vt tm M) (hm : q_ml V M2) (hy : M2 100 5 ≤ 999) (hw : mW M2 = (G_year V (mW M)).2) (h : q_mz M M2) : q_MI Vt tm M2 := by
  obtain ⟨g1, g2, g3, g4, g5, g6, g7, g8, g9⟩ := hI
  refine ⟨hm.1, hy, fun b hb => ?_, fun s hs => ?_, q_mtx_mq (fun a i ha => h a i (by omega) (by omega) (by omega) (by omega) (by omega)) g5, ?_, ?_, q_img_same (fun a i ha => h a i (by omega) (by omega) (by omega) (by omega) (by omega)) g8, ?_⟩
  · have e : M2 103 (4 * b + 1) = M 103 (4 * b + 1) := by rw [← mW_6 (M := M2) hb, hw, G_year_6, mW_6 hb]
    rw [e]
    exact g3 b hb
  · rw [h 111 s (by omega) (by omega) (by omega) (by omega) (by omega)]
    exact g4 s hs
  · rw [h 100 11 (by omega) (by omega) (by omega) (by omega) (by omega)]
    exact g6
  · rw [h 100 7 (by omega) (by omega) (by omega) (by omega) (by omega)]
    exact g7
  · rw [h 100 12 (by omega) (by omega) (by omega) (by omega) (by omega)]
    exact g9
set_option maxHeartbeats 4000000 in
theorem mw_dawn {Vt : Nat → Nat → (Nat → Int) → Int} {d tm : Nat} {g : q_G} {M : q_M} {v : Int} {Q : Option q_V → q_G → q_M → Prop} (hI : q_MI Vt tm M) (hq1 : 0 ≤ v ∧ v ≤ 999 → q_MI Vt tm (q_upd M 100 5 v) → Q (some (qI (M 100 5))) g (q_upd M 100 5 v)) (hq2 : ¬(0 ≤ v ∧ v ≤ 999) → Q (some (qI (-2))) g M) : q_S 1 (d + 10) 118 [qR 6 100, qI v] g M Q := by
  have n0 := hI.1.1
  rw [s_X6_dawn]
  by_cases c : 0 ≤ v ∧ v ≤ 999
  · simp (disch := omega) only [b_X6_dawn_0, x_loadI_1, x_iconst, y_if_ne_t, y_if_ne_f, b_X6_dawn_11, x_ret0, b_X6_dawn_14, x_loadR_0, x_loadS_0, f_6_5, x_storeI_2, p_6_5, x_loadI_2, q_isL_I, q_isL_R, q_isL_S, true_and, and_true, and_self, List.length_nil, List.length_cons, Nat.zero_add, x_K, x_Kn, Int.reduceToNat, Nat.reduceAdd, Nat.reduceMul, Nat.reduceLeDiff, Nat.reduceLT, Nat.zero_le, Int.reduceAdd, Int.reduceSub, Int.reduceMul, Int.reduceNeg, q_add_e, q_sub_e, q_mul_e, q_neg_e, q_upd_s, q_upd_n, zr_shr0, zr_shr1, zr_shr2, zr_shr3, zr_shr4, zr_and, zr_dyn8, zr_or, zr_shl, q_cpy_n, y_cpy26, c_X6_in, mp_in, c, and_self, if_true]
    exact hq1 c (q_MI_upW hI (q_ok9 (by omega)) (fun e => absurd e (by decide)) (fun _ => ⟨rfl, by omega⟩) (by omega))
  · simp (disch := omega) only [b_X6_dawn_0, x_loadI_1, x_iconst, y_if_ne_t, y_if_ne_f, b_X6_dawn_11, x_ret0, b_X6_dawn_14, x_loadR_0, x_loadS_0, f_6_5, x_storeI_2, p_6_5, x_loadI_2, q_isL_I, q_isL_R, q_isL_S, true_and, and_true, and_self, List.length_nil, List.length_cons, Nat.zero_add, x_K, x_Kn, Int.reduceToNat, Nat.reduceAdd, Nat.reduceMul, Nat.reduceLeDiff, Nat.reduceLT, Nat.zero_le, Int.reduceAdd, Int.reduceSub, Int.reduceMul, Int.reduceNeg, q_add_e, q_sub_e, q_mul_e, q_neg_e, q_upd_s, q_upd_n, zr_shr0, zr_shr1, zr_shr2, zr_shr3, zr_shr4, zr_and, zr_dyn8, zr_or, zr_shl, q_cpy_n, y_cpy26, c_X6_in, mp_in, c, if_false]
    exact hq2 c
set_option maxHeartbeats 4000000 in
theorem mw_force {Vt : Nat → Nat → (Nat → Int) → Int} {d tm : Nat} {g : q_G} {M : q_M} {t : Int} {Q : Option q_V → q_G → q_M → Prop} (hI : q_MI Vt tm M) (hq1 : 0 ≤ t ∧ t < tm → q_MI Vt tm (q_upd M 100 11 t) → Q (some (qI (M 100 11))) g (q_upd M 100 11 t)) (hq2 : ¬(0 ≤ t ∧ t < tm) → Q (some (qI (-2))) g M) : q_S 1 (d + 10) 136 [qR 6 100, qI t] g M Q := by
  have n0 := hI.1.1
  rw [s_X6_force]
  have hx := hI.2.2.2.2.1
  have htm := hx.2.2.1
  have h1 := hx.1
  have h6 := hx.2.1
  by_cases c : 0 ≤ t ∧ t ≤ M 100 10 - 1
  · simp (disch := omega) only [b_X6_force_0, x_loadI_1, x_iconst, x_loadR_0, x_loadS_0, f_6_10, x_isub, y_if_ne_t, y_if_ne_f, b_X6_force_14, x_ret0, b_X6_force_17, f_6_11, x_storeI_2, p_6_11, x_loadI_2, q_isL_I, q_isL_R, q_isL_S, true_and, and_true, and_self, List.length_nil, List.length_cons, Nat.zero_add, x_K, x_Kn, Int.reduceToNat, Nat.reduceAdd, Nat.reduceMul, Nat.reduceLeDiff, Nat.reduceLT, Nat.zero_le, Int.reduceAdd, Int.reduceSub, Int.reduceMul, Int.reduceNeg, q_add_e, q_sub_e, q_mul_e, q_neg_e, q_upd_s, q_upd_n, zr_shr0, zr_shr1, zr_shr2, zr_shr3, zr_shr4, zr_and, zr_dyn8, zr_or, zr_shl, q_cpy_n, y_cpy26, c_X6_in, mp_in, c, and_self, if_true]
    refine hq1 (by omega) ?_
    obtain ⟨g1, g2, g3, g4, g5, g6, g7, g8, g9⟩ := hI
    exact ⟨q_mb_up g1 (q_okr (by decide) (by decide)), by rw [q_upd_n (by omega)]; exact g2, fun b hb => by rw [q_upd_n (by omega)]; exact g3 b hb, fun s hs => by rw [q_upd_n (by omega)]; exact g4 s hs, q_mtx_mq (fun b j hb => q_upd_n (by omega)) g5, by rw [q_upd_s]; omega, by rw [q_upd_n (by omega)]; exact g7, q_img_same (fun b j hb => q_upd_n (by omega)) g8, by rw [q_upd_n (by omega)]; exact g9⟩
  · simp (disch := omega) only [b_X6_force_0, x_loadI_1, x_iconst, x_loadR_0, x_loadS_0, f_6_10, x_isub, y_if_ne_t, y_if_ne_f, b_X6_force_14, x_ret0, b_X6_force_17, f_6_11, x_storeI_2, p_6_11, x_loadI_2, q_isL_I, q_isL_R, q_isL_S, true_and, and_true, and_self, List.length_nil, List.length_cons, Nat.zero_add, x_K, x_Kn, Int.reduceToNat, Nat.reduceAdd, Nat.reduceMul, Nat.reduceLeDiff, Nat.reduceLT, Nat.zero_le, Int.reduceAdd, Int.reduceSub, Int.reduceMul, Int.reduceNeg, q_add_e, q_sub_e, q_mul_e, q_neg_e, q_upd_s, q_upd_n, zr_shr0, zr_shr1, zr_shr2, zr_shr3, zr_shr4, zr_and, zr_dyn8, zr_or, zr_shl, q_cpy_n, y_cpy26, c_X6_in, mp_in, c, if_false]
    exact hq2 (by omega)
end
section
/-! THE MODEL: calls that change, all stays within its bounds -/
/-- single fields -/
theorem q_MI_up7 {Vt : Nat → Nat → (Nat → Int) → Int} {tm : Nat} {v : Int} {M : q_M} (hI : q_MI Vt tm M) (h : 0 ≤ v ∧ v ≤ 160) : q_MI Vt tm (q_upd M 100 7 v) := by
  obtain ⟨g1, g2, g3, g4, g5, g6, g7, g8, g9⟩ := hI
  exact ⟨q_mb_up g1 (q_okr (by decide) (by decide)), by rw [q_upd_n (by omega)]; exact g2, fun b hb => by rw [q_upd_n (by omega)]; exact g3 b hb, fun s hs => by rw [q_upd_n (by omega)]; exact g4 s hs, q_mtx_mq (fun b j hb => q_upd_n (by omega)) g5, by rw [q_upd_n (by omega)]; exact g6, by rw [q_upd_s]; exact h, q_img_same (fun b j hb => q_upd_n (by omega)) g8, by rw [q_upd_n (by omega)]; exact g9⟩
theorem q_MI_upS {Vt : Nat → Nat → (Nat → Int) → Int} {tm s : Nat} {v : Int} {M : q_M} (hI : q_MI Vt tm M) (h : 0 ≤ v ∧ v ≤ 40) : q_MI Vt tm (q_upd M 111 s v) := by
  obtain ⟨g1, g2, g3, g4, g5, g6, g7, g8, g9⟩ := hI
  refine ⟨q_mb_same (fun a i ha => q_upd_n (by omega)) g1, by rw [q_upd_n (by omega)]; exact g2, fun b hb => by rw [q_upd_n (by omega)]; exact g3 b hb, fun t ht => ?_, q_mtx_mq (fun b j hb => q_upd_n (by omega)) g5, by rw [q_upd_n (by omega)]; exact g6, by rw [q_upd_n (by omega)]; exact g7, q_img_same (fun b j hb => q_upd_n (by omega)) g8, by rw [q_upd_n (by omega)]; exact g9⟩
  rcases q_upd_key (M := M) (a := 111) (i := s) (v := v) 111 t with e | ⟨e1, e2, e3⟩
  · rw [e]; exact g4 t ht
  · rw [e3]; exact h
theorem q_MI_upN {Vt : Nat → Nat → (Nat → Int) → Int} {tm : Nat} {v : Int} {M : q_M} (hI : q_MI Vt tm M) (h : 0 ≤ v ∧ v ≤ 5) : q_MI Vt tm (q_upd M 100 0 v) := by
  obtain ⟨g1, g2, g3, g4, g5, g6, g7, g8, g9⟩ := hI
  obtain ⟨r0, r1, r2⟩ := g1
  refine ⟨⟨by rw [q_upd_s]; exact h, by rw [q_upd_n (by omega)]; exact r1, ?_⟩, by rw [q_upd_n (by omega)]; exact g2, fun b hb => by rw [q_upd_n (by omega)]; exact g3 b hb, fun s hs => by rw [q_upd_n (by omega)]; exact g4 s hs, q_mtx_mq (fun b j hb => q_upd_n (by omega)) g5, by rw [q_upd_n (by omega)]; exact g6, by rw [q_upd_n (by omega)]; exact g7, q_img_same (fun b j hb => q_upd_n (by omega)) g8, by rw [q_upd_n (by omega)]; exact g9⟩
  simp (disch := omega) only [q_upd_n]
  exact r2
set_option maxHeartbeats 4000000 in
theorem mw_build {Vt : Nat → Nat → (Nat → Int) → Int} {d tm : Nat} {g : q_G} {M : q_M} {b w v : Int} {Q : Option q_V → q_G → q_M → Prop} (hI : q_MI Vt tm M) (hq : ∀ (v : Int) (M2 : q_M), q_MI Vt tm M2 → q_mfr M M2 → Q (some (qI v)) g M2) : q_S 1 (d + 10) 119 [qR 6 100, qI b, qI w, qI v] g M Q := by
  have n0 := hI.1.1
  rw [s_X6_build]
  have n0a := n0.1
  have n0b := n0.2
  by_cases c1 : 0 ≤ b ∧ b ≤ 4
  · obtain ⟨B, rfl⟩ : ∃ B : Nat, b = B := ⟨b.toNat, by omega⟩
    have hB : B < 5 := by omega
    have loop : ∀ j p : Nat, p + j = (M 100 0).toNat → ∀ (M1 : q_M) (l4 r : Int), q_MI Vt tm M1 → M1 100 0 = M 100 0 → q_mfr M M1 → 0 ≤ v ∧ v ≤ 99 → q_T 1 (d + 10) qP_X6_build 87 [] [qR 6 100, qI B, qI w, qI v, qI l4, qI r, qI p] [] g M1 Q := by
      intro j
      induction j with
      | zero =>
        intro p hp M1 l4 r h1 e0 f1 hv
        rw [b_X6_build_87]
        simp (disch := omega) only [b_X6_build_0, x_loadI_1, y_if_ne_t, y_if_ne_f, b_X6_build_7, x_iconst, x_ret0, b_X6_build_10, x_loadI_2, y_ic_ne_t, y_ic_ne_f, b_X6_build_15, x_loadR_0, x_loadS_0, x_goto, b_X6_build_26, b_X6_build_27, x_storeI_4, y_if_eq_t, y_if_eq_f, b_X6_build_38, x_loadI_3, x_loadI_4, b_X6_build_46, b_X6_build_50, b_X6_build_52, b_X6_build_58, b_X6_build_61, f_6_3, x_imul, x_iadd, y_iald_35, y_iald_40, x_storeI_5, y_iast_35, y_iast_40, x_storeI_6, x_loadI_6, f_6_0, y_ic_ge_t, y_ic_ge_f, b_X6_build_96, b_X6_build_100, f_6_4, b_X6_build_115, b_X6_build_125, x_iinc_6, b_X6_build_131, x_loadI_5, q_isL_I, q_isL_R, q_isL_S, true_and, and_true, and_self, List.length_nil, List.length_cons, Nat.zero_add, x_K, x_Kn, Int.reduceToNat, Nat.reduceAdd, Nat.reduceMul, Nat.reduceLeDiff, Nat.reduceLT, Nat.zero_le, Int.reduceAdd, Int.reduceSub, Int.reduceMul, Int.reduceNeg, q_add_e, q_sub_e, q_mul_e, q_neg_e, q_upd_s, q_upd_n, zr_shr0, zr_shr1, zr_shr2, zr_shr3, zr_shr4, zr_and, zr_dyn8, zr_or, zr_shl, q_cpy_n, y_cpy26]
        exact hq _ _ h1 f1
      | succ j ih =>
        intro p hp M1 l4 r h1 e0 f1 hv
        rw [b_X6_build_87]
        by_cases k0 : w = 0
        · by_cases k1 : M1 104 (3 * p + 2) = B
          · simp (disch := omega) only [b_X6_build_0, x_loadI_1, y_if_ne_t, y_if_ne_f, b_X6_build_7, x_iconst, x_ret0, b_X6_build_10, x_loadI_2, y_ic_ne_t, y_ic_ne_f, b_X6_build_15, x_loadR_0, x_loadS_0, x_goto, b_X6_build_26, b_X6_build_27, x_storeI_4, y_if_eq_t, y_if_eq_f, b_X6_build_38, x_loadI_3, x_loadI_4, b_X6_build_46, b_X6_build_50, b_X6_build_52, b_X6_build_58, b_X6_build_61, f_6_3, x_imul, x_iadd, y_iald_35, y_iald_40, x_storeI_5, y_iast_35, y_iast_40, x_storeI_6, x_loadI_6, f_6_0, y_ic_ge_t, y_ic_ge_f, b_X6_build_96, b_X6_build_100, f_6_4, b_X6_build_115, b_X6_build_125, x_iinc_6, b_X6_build_131, x_loadI_5, q_isL_I, q_isL_R, q_isL_S, true_and, and_true, and_self, List.length_nil, List.length_cons, Nat.zero_add, x_K, x_Kn, Int.reduceToNat, Nat.reduceAdd, Nat.reduceMul, Nat.reduceLeDiff, Nat.reduceLT, Nat.zero_le, Int.reduceAdd, Int.reduceSub, Int.reduceMul, Int.reduceNeg, q_add_e, q_sub_e, q_mul_e, q_neg_e, q_upd_s, q_upd_n, zr_shr0, zr_shr1, zr_shr2, zr_shr3, zr_shr4, zr_and, zr_dyn8, zr_or, zr_shl, q_cpy_n, y_cpy26, tn_30, tn_32]
            exact ih (p + 1) (by omega) _ _ _ (q_MI_upW h1 (q_ok2 hv) (fun e => absurd e (by decide)) (fun e => absurd e (by decide)) (by omega)) ((q_upd_n (by omega)).trans e0) (q_mfr_up f1 (by omega) (by omega)) hv
          · simp (disch := omega) only [b_X6_build_0, x_loadI_1, y_if_ne_t, y_if_ne_f, b_X6_build_7, x_iconst, x_ret0, b_X6_build_10, x_loadI_2, y_ic_ne_t, y_ic_ne_f, b_X6_build_15, x_loadR_0, x_loadS_0, x_goto, b_X6_build_26, b_X6_build_27, x_storeI_4, y_if_eq_t, y_if_eq_f, b_X6_build_38, x_loadI_3, x_loadI_4, b_X6_build_46, b_X6_build_50, b_X6_build_52, b_X6_build_58, b_X6_build_61, f_6_3, x_imul, x_iadd, y_iald_35, y_iald_40, x_storeI_5, y_iast_35, y_iast_40, x_storeI_6, x_loadI_6, f_6_0, y_ic_ge_t, y_ic_ge_f, b_X6_build_96, b_X6_build_100, f_6_4, b_X6_build_115, b_X6_build_125, x_iinc_6, b_X6_build_131, x_loadI_5, q_isL_I, q_isL_R, q_isL_S, true_and, and_true, and_self, List.length_nil, List.length_cons, Nat.zero_add, x_K, x_Kn, Int.reduceToNat, Nat.reduceAdd, Nat.reduceMul, Nat.reduceLeDiff, Nat.reduceLT, Nat.zero_le, Int.reduceAdd, Int.reduceSub, Int.reduceMul, Int.reduceNeg, q_add_e, q_sub_e, q_mul_e, q_neg_e, q_upd_s, q_upd_n, zr_shr0, zr_shr1, zr_shr2, zr_shr3, zr_shr4, zr_and, zr_dyn8, zr_or, zr_shl, q_cpy_n, y_cpy26, tn_30, tn_32]
            exact ih (p + 1) (by omega) M1 _ _ h1 e0 f1 hv
        · simp (disch := omega) only [b_X6_build_0, x_loadI_1, y_if_ne_t, y_if_ne_f, b_X6_build_7, x_iconst, x_ret0, b_X6_build_10, x_loadI_2, y_ic_ne_t, y_ic_ne_f, b_X6_build_15, x_loadR_0, x_loadS_0, x_goto, b_X6_build_26, b_X6_build_27, x_storeI_4, y_if_eq_t, y_if_eq_f, b_X6_build_38, x_loadI_3, x_loadI_4, b_X6_build_46, b_X6_build_50, b_X6_build_52, b_X6_build_58, b_X6_build_61, f_6_3, x_imul, x_iadd, y_iald_35, y_iald_40, x_storeI_5, y_iast_35, y_iast_40, x_storeI_6, x_loadI_6, f_6_0, y_ic_ge_t, y_ic_ge_f, b_X6_build_96, b_X6_build_100, f_6_4, b_X6_build_115, b_X6_build_125, x_iinc_6, b_X6_build_131, x_loadI_5, q_isL_I, q_isL_R, q_isL_S, true_and, and_true, and_self, List.length_nil, List.length_cons, Nat.zero_add, x_K, x_Kn, Int.reduceToNat, Nat.reduceAdd, Nat.reduceMul, Nat.reduceLeDiff, Nat.reduceLT, Nat.zero_le, Int.reduceAdd, Int.reduceSub, Int.reduceMul, Int.reduceNeg, q_add_e, q_sub_e, q_mul_e, q_neg_e, q_upd_s, q_upd_n, zr_shr0, zr_shr1, zr_shr2, zr_shr3, zr_shr4, zr_and, zr_dyn8, zr_or, zr_shl, q_cpy_n, y_cpy26]
          exact hq _ _ h1 f1
    have done : ∀ (W : Nat) (l4 : Int), w = W → W ≤ 3 → 0 ≤ v ∧ v ≤ 99 → (W = 1 → v ≤ 5) → q_T 1 (d + 10) qP_X6_build 61 [] [qR 6 100, qI B, qI w, qI v, qI l4, qS 0, qS 0] [] g M Q := by
      intro W l4 hW h3 hv h5
      have t4 : (4 * (B : Int) + w).toNat = 4 * B + W := by omega
      rw [b_X6_build_61]
      simp (disch := omega) only [b_X6_build_0, x_loadI_1, y_if_ne_t, y_if_ne_f, b_X6_build_7, x_iconst, x_ret0, b_X6_build_10, x_loadI_2, y_ic_ne_t, y_ic_ne_f, b_X6_build_15, x_loadR_0, x_loadS_0, x_goto, b_X6_build_26, b_X6_build_27, x_storeI_4, y_if_eq_t, y_if_eq_f, b_X6_build_38, x_loadI_3, x_loadI_4, b_X6_build_46, b_X6_build_50, b_X6_build_52, b_X6_build_58, b_X6_build_61, f_6_3, x_imul, x_iadd, y_iald_35, y_iald_40, x_storeI_5, y_iast_35, y_iast_40, x_storeI_6, x_loadI_6, f_6_0, y_ic_ge_t, y_ic_ge_f, b_X6_build_96, b_X6_build_100, f_6_4, b_X6_build_115, b_X6_build_125, x_iinc_6, b_X6_build_131, x_loadI_5, q_isL_I, q_isL_R, q_isL_S, true_and, and_true, and_self, List.length_nil, List.length_cons, Nat.zero_add, x_K, x_Kn, Int.reduceToNat, Nat.reduceAdd, Nat.reduceMul, Nat.reduceLeDiff, Nat.reduceLT, Nat.zero_le, Int.reduceAdd, Int.reduceSub, Int.reduceMul, Int.reduceNeg, q_add_e, q_sub_e, q_mul_e, q_neg_e, q_upd_s, q_upd_n, zr_shr0, zr_shr1, zr_shr2, zr_shr3, zr_shr4, zr_and, zr_dyn8, zr_or, zr_shl, q_cpy_n, y_cpy26, t4]
      refine loop (M 100 0).toNat 0 (by omega) _ _ _ ?_ (q_upd_n (by omega)) (q_mfr_up q_mfr_rf (by omega) (by omega)) hv
      refine q_MI_upW hI ?_ (fun _ e => h5 (by omega)) (fun e => absurd e (by decide)) (by omega)
      by_cases e : W = 1
      · rw [e]
        exact q_ok6 (by have := h5 e; omega)
      · exact q_ok5 (by omega) hv
    by_cases k1 : w = 1
    · subst k1
      by_cases c2 : F_cnt (mIn M) B (M 100 0).toNat ≤ v ∧ v ≤ 5
      · have hc := F_cnt_le (mIn M) B (M 100 0).toNat
        have dn := done 1 (F_cnt (mIn M) B (M 100 0).toNat) rfl (by omega) (by omega) (fun _ => c2.2)
        have e := F_ones_bits (f := mIn M) (b := B) (M 100 0).toNat (by omega)
        simp (disch := omega) only [b_X6_build_0, x_loadI_1, y_if_ne_t, y_if_ne_f, b_X6_build_7, x_iconst, x_ret0, b_X6_build_10, x_loadI_2, y_ic_ne_t, y_ic_ne_f, b_X6_build_15, x_loadR_0, x_loadS_0, x_goto, b_X6_build_26, b_X6_build_27, x_storeI_4, y_if_eq_t, y_if_eq_f, b_X6_build_38, x_loadI_3, x_loadI_4, b_X6_build_46, b_X6_build_50, b_X6_build_52, b_X6_build_58, f_6_3, x_imul, x_iadd, y_iald_35, y_iald_40, x_storeI_5, y_iast_35, y_iast_40, x_storeI_6, x_loadI_6, f_6_0, y_ic_ge_t, y_ic_ge_f, b_X6_build_96, b_X6_build_100, f_6_4, b_X6_build_115, b_X6_build_125, x_iinc_6, b_X6_build_131, x_loadI_5, q_isL_I, q_isL_R, q_isL_S, true_and, and_true, and_self, List.length_nil, List.length_cons, Nat.zero_add, x_K, x_Kn, Int.reduceToNat, Nat.reduceAdd, Nat.reduceMul, Nat.reduceLeDiff, Nat.reduceLT, Nat.zero_le, Int.reduceAdd, Int.reduceSub, Int.reduceMul, Int.reduceNeg, q_add_e, q_sub_e, q_mul_e, q_neg_e, q_upd_s, q_upd_n, zr_shr0, zr_shr1, zr_shr2, zr_shr3, zr_shr4, zr_and, zr_dyn8, zr_or, zr_shl, q_cpy_n, y_cpy26, c_X6_isSite, mp_isSite, c1, c_X6_whoIn, mp_whoIn, c_X6_onesOf, mp_onesOf, e, c_X6_in, mp_in, c2, and_self, if_true, Int.reduceLE]
        exact dn
      · have e := F_ones_bits (f := mIn M) (b := B) (M 100 0).toNat (by omega)
        simp (disch := omega) only [b_X6_build_0, x_loadI_1, y_if_ne_t, y_if_ne_f, b_X6_build_7, x_iconst, x_ret0, b_X6_build_10, x_loadI_2, y_ic_ne_t, y_ic_ne_f, b_X6_build_15, x_loadR_0, x_loadS_0, x_goto, b_X6_build_26, b_X6_build_27, x_storeI_4, y_if_eq_t, y_if_eq_f, b_X6_build_38, x_loadI_3, x_loadI_4, b_X6_build_46, b_X6_build_50, b_X6_build_52, b_X6_build_58, f_6_3, x_imul, x_iadd, y_iald_35, y_iald_40, x_storeI_5, y_iast_35, y_iast_40, x_storeI_6, x_loadI_6, f_6_0, y_ic_ge_t, y_ic_ge_f, b_X6_build_96, b_X6_build_100, f_6_4, b_X6_build_115, b_X6_build_125, x_iinc_6, b_X6_build_131, x_loadI_5, q_isL_I, q_isL_R, q_isL_S, true_and, and_true, and_self, List.length_nil, List.length_cons, Nat.zero_add, x_K, x_Kn, Int.reduceToNat, Nat.reduceAdd, Nat.reduceMul, Nat.reduceLeDiff, Nat.reduceLT, Nat.zero_le, Int.reduceAdd, Int.reduceSub, Int.reduceMul, Int.reduceNeg, q_add_e, q_sub_e, q_mul_e, q_neg_e, q_upd_s, q_upd_n, zr_shr0, zr_shr1, zr_shr2, zr_shr3, zr_shr4, zr_and, zr_dyn8, zr_or, zr_shl, q_cpy_n, y_cpy26, c_X6_isSite, mp_isSite, c1, c_X6_whoIn, mp_whoIn, c_X6_onesOf, mp_onesOf, e, c_X6_in, mp_in, c2, and_self, if_true, Int.reduceLE, if_false]
        exact hq _ _ hI q_mfr_rf
    · by_cases k2 : 0 ≤ w ∧ w ≤ 3
      · by_cases c2 : 0 ≤ v ∧ v ≤ 99
        · have dn := done w.toNat 0 (by omega) (by omega) c2 (fun e => absurd e (by omega))
          simp (disch := omega) only [b_X6_build_0, x_loadI_1, y_if_ne_t, y_if_ne_f, b_X6_build_7, x_iconst, x_ret0, b_X6_build_10, x_loadI_2, y_ic_ne_t, y_ic_ne_f, b_X6_build_15, x_loadR_0, x_loadS_0, x_goto, b_X6_build_26, b_X6_build_27, x_storeI_4, y_if_eq_t, y_if_eq_f, b_X6_build_38, x_loadI_3, x_loadI_4, b_X6_build_46, b_X6_build_50, b_X6_build_52, b_X6_build_58, f_6_3, x_imul, x_iadd, y_iald_35, y_iald_40, x_storeI_5, y_iast_35, y_iast_40, x_storeI_6, x_loadI_6, f_6_0, y_ic_ge_t, y_ic_ge_f, b_X6_build_96, b_X6_build_100, f_6_4, b_X6_build_115, b_X6_build_125, x_iinc_6, b_X6_build_131, x_loadI_5, q_isL_I, q_isL_R, q_isL_S, true_and, and_true, and_self, List.length_nil, List.length_cons, Nat.zero_add, x_K, x_Kn, Int.reduceToNat, Nat.reduceAdd, Nat.reduceMul, Nat.reduceLeDiff, Nat.reduceLT, Nat.zero_le, Int.reduceAdd, Int.reduceSub, Int.reduceMul, Int.reduceNeg, q_add_e, q_sub_e, q_mul_e, q_neg_e, q_upd_s, q_upd_n, zr_shr0, zr_shr1, zr_shr2, zr_shr3, zr_shr4, zr_and, zr_dyn8, zr_or, zr_shl, q_cpy_n, y_cpy26, c_X6_isSite, mp_isSite, c1, c_X6_in, mp_in, k2, c2, and_self, if_true]
          exact dn
        · simp (disch := omega) only [b_X6_build_0, x_loadI_1, y_if_ne_t, y_if_ne_f, b_X6_build_7, x_iconst, x_ret0, b_X6_build_10, x_loadI_2, y_ic_ne_t, y_ic_ne_f, b_X6_build_15, x_loadR_0, x_loadS_0, x_goto, b_X6_build_26, b_X6_build_27, x_storeI_4, y_if_eq_t, y_if_eq_f, b_X6_build_38, x_loadI_3, x_loadI_4, b_X6_build_46, b_X6_build_50, b_X6_build_52, b_X6_build_58, f_6_3, x_imul, x_iadd, y_iald_35, y_iald_40, x_storeI_5, y_iast_35, y_iast_40, x_storeI_6, x_loadI_6, f_6_0, y_ic_ge_t, y_ic_ge_f, b_X6_build_96, b_X6_build_100, f_6_4, b_X6_build_115, b_X6_build_125, x_iinc_6, b_X6_build_131, x_loadI_5, q_isL_I, q_isL_R, q_isL_S, true_and, and_true, and_self, List.length_nil, List.length_cons, Nat.zero_add, x_K, x_Kn, Int.reduceToNat, Nat.reduceAdd, Nat.reduceMul, Nat.reduceLeDiff, Nat.reduceLT, Nat.zero_le, Int.reduceAdd, Int.reduceSub, Int.reduceMul, Int.reduceNeg, q_add_e, q_sub_e, q_mul_e, q_neg_e, q_upd_s, q_upd_n, zr_shr0, zr_shr1, zr_shr2, zr_shr3, zr_shr4, zr_and, zr_dyn8, zr_or, zr_shl, q_cpy_n, y_cpy26, c_X6_isSite, mp_isSite, c1, c_X6_in, mp_in, k2, c2, and_self, if_true, if_false]
          exact hq _ _ hI q_mfr_rf
      · simp (disch := omega) only [b_X6_build_0, x_loadI_1, y_if_ne_t, y_if_ne_f, b_X6_build_7, x_iconst, x_ret0, b_X6_build_10, x_loadI_2, y_ic_ne_t, y_ic_ne_f, b_X6_build_15, x_loadR_0, x_loadS_0, x_goto, b_X6_build_26, b_X6_build_27, x_storeI_4, y_if_eq_t, y_if_eq_f, b_X6_build_38, x_loadI_3, x_loadI_4, b_X6_build_46, b_X6_build_50, b_X6_build_52, b_X6_build_58, f_6_3, x_imul, x_iadd, y_iald_35, y_iald_40, x_storeI_5, y_iast_35, y_iast_40, x_storeI_6, x_loadI_6, f_6_0, y_ic_ge_t, y_ic_ge_f, b_X6_build_96, b_X6_build_100, f_6_4, b_X6_build_115, b_X6_build_125, x_iinc_6, b_X6_build_131, x_loadI_5, q_isL_I, q_isL_R, q_isL_S, true_and, and_true, and_self, List.length_nil, List.length_cons, Nat.zero_add, x_K, x_Kn, Int.reduceToNat, Nat.reduceAdd, Nat.reduceMul, Nat.reduceLeDiff, Nat.reduceLT, Nat.zero_le, Int.reduceAdd, Int.reduceSub, Int.reduceMul, Int.reduceNeg, q_add_e, q_sub_e, q_mul_e, q_neg_e, q_upd_s, q_upd_n, zr_shr0, zr_shr1, zr_shr2, zr_shr3, zr_shr4, zr_and, zr_dyn8, zr_or, zr_shl, q_cpy_n, y_cpy26, c_X6_isSite, mp_isSite, c1, c_X6_in, mp_in, k2, and_self, if_true, if_false]
        exact hq _ _ hI q_mfr_rf
  · simp (disch := omega) only [b_X6_build_0, x_loadI_1, y_if_ne_t, y_if_ne_f, b_X6_build_7, x_iconst, x_ret0, b_X6_build_10, x_loadI_2, y_ic_ne_t, y_ic_ne_f, b_X6_build_15, x_loadR_0, x_loadS_0, x_goto, b_X6_build_26, b_X6_build_27, x_storeI_4, y_if_eq_t, y_if_eq_f, b_X6_build_38, x_loadI_3, x_loadI_4, b_X6_build_46, b_X6_build_50, b_X6_build_52, b_X6_build_58, b_X6_build_61, f_6_3, x_imul, x_iadd, y_iald_35, y_iald_40, x_storeI_5, y_iast_35, y_iast_40, x_storeI_6, x_loadI_6, f_6_0, y_ic_ge_t, y_ic_ge_f, b_X6_build_96, b_X6_build_100, f_6_4, b_X6_build_115, b_X6_build_125, x_iinc_6, b_X6_build_131, x_loadI_5, q_isL_I, q_isL_R, q_isL_S, true_and, and_true, and_self, List.length_nil, List.length_cons, Nat.zero_add, x_K, x_Kn, Int.reduceToNat, Nat.reduceAdd, Nat.reduceMul, Nat.reduceLeDiff, Nat.reduceLT, Nat.zero_le, Int.reduceAdd, Int.reduceSub, Int.reduceMul, Int.reduceNeg, q_add_e, q_sub_e, q_mul_e, q_neg_e, q_upd_s, q_upd_n, zr_shr0, zr_shr1, zr_shr2, zr_shr3, zr_shr4, zr_and, zr_dyn8, zr_or, zr_shl, q_cpy_n, y_cpy26, c_X6_isSite, mp_isSite, c1, if_false]
    exact hq _ _ hI q_mfr_rf
set_option maxHeartbeats 4000000 in
theorem mw_stone {Vt : Nat → Nat → (Nat → Int) → Int} {d tm : Nat} {g : q_G} {M : q_M} {km wh hv : Int} {Q : Option q_V → q_G → q_M → Prop} (hI : q_MI Vt tm M) (hq : ∀ (v : Int) (M2 : q_M), q_MI Vt tm M2 → q_mfr M M2 → Q (some (qI v)) g M2) : q_S 1 (d + 10) 139 [qR 6 100, qI km, qI wh, qI hv] g M Q := by
  have n0 := hI.1.1
  rw [s_X6_stone]
  have n0a := n0.1
  have n0b := n0.2
  by_cases c1 : 0 ≤ km ∧ km ≤ 59
  · by_cases c2 : 0 ≤ wh ∧ wh ≤ 99
    · by_cases c3 : 0 ≤ hv ∧ hv ≤ 99
      · by_cases c4 : M 100 0 = 5
        · simp (disch := omega) only [b_X6_stone_0, x_loadI_1, x_iconst, y_if_eq_t, y_if_eq_f, b_X6_stone_10, x_loadI_2, b_X6_stone_20, x_loadI_3, y_if_ne_t, y_if_ne_f, b_X6_stone_30, x_ret0, b_X6_stone_33, x_loadR_0, x_loadS_0, f_6_0, y_ic_ne_t, y_ic_ne_f, b_X6_stone_41, b_X6_stone_44, f_6_1, y_idiv, y_iast_25, y_iast_35, f_6_2, y_irem, f_6_4, x_imul, x_iadd, x_dupI, x_dupR, p_6_0, x_isub, q_isL_I, q_isL_R, q_isL_S, true_and, and_true, and_self, List.length_nil, List.length_cons, Nat.zero_add, x_K, x_Kn, Int.reduceToNat, Nat.reduceAdd, Nat.reduceMul, Nat.reduceLeDiff, Nat.reduceLT, Nat.zero_le, Int.reduceAdd, Int.reduceSub, Int.reduceMul, Int.reduceNeg, q_add_e, q_sub_e, q_mul_e, q_neg_e, q_upd_s, q_upd_n, zr_shr0, zr_shr1, zr_shr2, zr_shr3, zr_shr4, zr_and, zr_dyn8, zr_or, zr_shl, q_cpy_n, y_cpy26, c_X6_in, mp_in, c1, c2, c3, and_self, if_true]
          exact hq _ _ hI q_mfr_rf
        · obtain ⟨N, hN⟩ : ∃ N : Nat, M 100 0 = N := ⟨(M 100 0).toNat, by omega⟩
          have ed : q_div km 10 = km / 10 := q_div_e (by omega) (by omega) (by omega) (by omega)
          have er : q_rem km 10 = km % 10 := q_rem_e (by omega) (by omega) (by omega) (by omega)
          have i1 : q_MI Vt tm (q_upd (q_upd (q_upd (q_upd (q_upd (q_upd M 101 N (km / 10)) 102 N (km % 10)) 104 (3 * N) wh) 104 (3 * N + 1) hv) 104 (3 * N + 2) (-1)) 100 0 (N + 1)) := by
            refine q_MI_upN (q_MI_upW (q_MI_upW (q_MI_upW (q_MI_upW (q_MI_upW hI (q_ok0 ?_) ?_ ?_ ?_) (q_ok1 ?_) ?_ ?_ ?_) (q_ok2 c2) ?_ ?_ ?_) (q_ok3 c3) ?_ ?_ ?_) (q_ok4 (by omega)) ?_ ?_ ?_) (by omega)
            all_goals first
              | omega
              | exact fun e => absurd e (by decide)
          simp (disch := omega) only [b_X6_stone_0, x_loadI_1, x_iconst, y_if_eq_t, y_if_eq_f, b_X6_stone_10, x_loadI_2, b_X6_stone_20, x_loadI_3, y_if_ne_t, y_if_ne_f, b_X6_stone_30, x_ret0, b_X6_stone_33, x_loadR_0, x_loadS_0, f_6_0, y_ic_ne_t, y_ic_ne_f, b_X6_stone_41, b_X6_stone_44, f_6_1, y_idiv, y_iast_25, y_iast_35, f_6_2, y_irem, f_6_4, x_imul, x_iadd, x_dupI, x_dupR, p_6_0, x_isub, q_isL_I, q_isL_R, q_isL_S, true_and, and_true, and_self, List.length_nil, List.length_cons, Nat.zero_add, x_K, x_Kn, Int.reduceToNat, Nat.reduceAdd, Nat.reduceMul, Nat.reduceLeDiff, Nat.reduceLT, Nat.zero_le, Int.reduceAdd, Int.reduceSub, Int.reduceMul, Int.reduceNeg, q_add_e, q_sub_e, q_mul_e, q_neg_e, q_upd_s, q_upd_n, zr_shr0, zr_shr1, zr_shr2, zr_shr3, zr_shr4, zr_and, zr_dyn8, zr_or, zr_shl, q_cpy_n, y_cpy26, c_X6_in, mp_in, c1, c2, c3, and_self, if_true, hN, ed, er, Int.toNat_natCast, tn_30, tn_31, tn_32]
          exact hq _ _ i1 (q_mfr_up (q_mfr_up (q_mfr_up (q_mfr_up (q_mfr_up (q_mfr_up q_mfr_rf (by omega) (by omega)) (by omega) (by omega)) (by omega) (by omega)) (by omega) (by omega)) (by omega) (by omega)) (by omega) (by omega))
      · simp (disch := omega) only [b_X6_stone_0, x_loadI_1, x_iconst, y_if_eq_t, y_if_eq_f, b_X6_stone_10, x_loadI_2, b_X6_stone_20, x_loadI_3, y_if_ne_t, y_if_ne_f, b_X6_stone_30, x_ret0, b_X6_stone_33, x_loadR_0, x_loadS_0, f_6_0, y_ic_ne_t, y_ic_ne_f, b_X6_stone_41, b_X6_stone_44, f_6_1, y_idiv, y_iast_25, y_iast_35, f_6_2, y_irem, f_6_4, x_imul, x_iadd, x_dupI, x_dupR, p_6_0, x_isub, q_isL_I, q_isL_R, q_isL_S, true_and, and_true, and_self, List.length_nil, List.length_cons, Nat.zero_add, x_K, x_Kn, Int.reduceToNat, Nat.reduceAdd, Nat.reduceMul, Nat.reduceLeDiff, Nat.reduceLT, Nat.zero_le, Int.reduceAdd, Int.reduceSub, Int.reduceMul, Int.reduceNeg, q_add_e, q_sub_e, q_mul_e, q_neg_e, q_upd_s, q_upd_n, zr_shr0, zr_shr1, zr_shr2, zr_shr3, zr_shr4, zr_and, zr_dyn8, zr_or, zr_shl, q_cpy_n, y_cpy26, c_X6_in, mp_in, c1, c2, c3, and_self, if_true, if_false]
        exact hq _ _ hI q_mfr_rf
    · simp (disch := omega) only [b_X6_stone_0, x_loadI_1, x_iconst, y_if_eq_t, y_if_eq_f, b_X6_stone_10, x_loadI_2, b_X6_stone_20, x_loadI_3, y_if_ne_t, y_if_ne_f, b_X6_stone_30, x_ret0, b_X6_stone_33, x_loadR_0, x_loadS_0, f_6_0, y_ic_ne_t, y_ic_ne_f, b_X6_stone_41, b_X6_stone_44, f_6_1, y_idiv, y_iast_25, y_iast_35, f_6_2, y_irem, f_6_4, x_imul, x_iadd, x_dupI, x_dupR, p_6_0, x_isub, q_isL_I, q_isL_R, q_isL_S, true_and, and_true, and_self, List.length_nil, List.length_cons, Nat.zero_add, x_K, x_Kn, Int.reduceToNat, Nat.reduceAdd, Nat.reduceMul, Nat.reduceLeDiff, Nat.reduceLT, Nat.zero_le, Int.reduceAdd, Int.reduceSub, Int.reduceMul, Int.reduceNeg, q_add_e, q_sub_e, q_mul_e, q_neg_e, q_upd_s, q_upd_n, zr_shr0, zr_shr1, zr_shr2, zr_shr3, zr_shr4, zr_and, zr_dyn8, zr_or, zr_shl, q_cpy_n, y_cpy26, c_X6_in, mp_in, c1, c2, and_self, if_true, if_false]
      exact hq _ _ hI q_mfr_rf
  · simp (disch := omega) only [b_X6_stone_0, x_loadI_1, x_iconst, y_if_eq_t, y_if_eq_f, b_X6_stone_10, x_loadI_2, b_X6_stone_20, x_loadI_3, y_if_ne_t, y_if_ne_f, b_X6_stone_30, x_ret0, b_X6_stone_33, x_loadR_0, x_loadS_0, f_6_0, y_ic_ne_t, y_ic_ne_f, b_X6_stone_41, b_X6_stone_44, f_6_1, y_idiv, y_iast_25, y_iast_35, f_6_2, y_irem, f_6_4, x_imul, x_iadd, x_dupI, x_dupR, p_6_0, x_isub, q_isL_I, q_isL_R, q_isL_S, true_and, and_true, and_self, List.length_nil, List.length_cons, Nat.zero_add, x_K, x_Kn, Int.reduceToNat, Nat.reduceAdd, Nat.reduceMul, Nat.reduceLeDiff, Nat.reduceLT, Nat.zero_le, Int.reduceAdd, Int.reduceSub, Int.reduceMul, Int.reduceNeg, q_add_e, q_sub_e, q_mul_e, q_neg_e, q_upd_s, q_upd_n, zr_shr0, zr_shr1, zr_shr2, zr_shr3, zr_shr4, zr_and, zr_dyn8, zr_or, zr_shl, q_cpy_n, y_cpy26, c_X6_in, mp_in, c1, if_false]
    exact hq _ _ hI q_mfr_rf
set_option maxHeartbeats 4000000 in
theorem mw_put {Vt : Nat → Nat → (Nat → Int) → Int} {d tm : Nat} {g : q_G} {M : q_M} {p w v : Int} {Q : Option q_V → q_G → q_M → Prop} (hI : q_MI Vt tm M) (hq : ∀ (v : Int) (M2 : q_M), q_MI Vt tm M2 → q_mfr M M2 → Q (some (qI v)) g M2) : q_S 1 (d + 10) 140 [qR 6 100, qI p, qI w, qI v] g M Q := by
  have n0 := hI.1.1
  rw [s_X6_put]
  by_cases c1 : 0 ≤ p ∧ p ≤ M 100 0 - 1
  · obtain ⟨N, rfl⟩ : ∃ N : Nat, p = N := ⟨p.toNat, by omega⟩
    by_cases c2 : 0 ≤ w ∧ w ≤ 1
    · by_cases c3 : 0 ≤ v ∧ v ≤ 99
      · have hin := hI.1.2.2.2.2.2.2.1 N (by omega)
        rcases (show w = 0 ∨ w = 1 by omega) with k | k
        · subst k
          simp (disch := omega) only [b_X6_put_0, x_loadR_0, x_loadS_0, x_loadI_1, y_if_ne_t, y_if_ne_f, b_X6_put_8, x_iconst, x_ret0, b_X6_put_11, x_loadI_2, y_if_eq_t, y_if_eq_f, b_X6_put_20, x_loadI_3, b_X6_put_30, b_X6_put_33, f_6_4, x_imul, x_iadd, y_iald_35, x_storeI_4, y_iast_35, b_X6_put_69, x_goto, b_X6_put_73, b_X6_put_83, x_loadI_4, q_isL_I, q_isL_R, q_isL_S, true_and, and_true, and_self, List.length_nil, List.length_cons, Nat.zero_add, x_K, x_Kn, Int.reduceToNat, Nat.reduceAdd, Nat.reduceMul, Nat.reduceLeDiff, Nat.reduceLT, Nat.zero_le, Int.reduceAdd, Int.reduceSub, Int.reduceMul, Int.reduceNeg, q_add_e, q_sub_e, q_mul_e, q_neg_e, q_upd_s, q_upd_n, zr_shr0, zr_shr1, zr_shr2, zr_shr3, zr_shr4, zr_and, zr_dyn8, zr_or, zr_shl, q_cpy_n, y_cpy26, c_X6_isStone, mp_isStone, c1, c_X6_in, mp_in, c2, c3, and_self, if_true, Int.add_zero, tn_30, tn_32]
          refine hq _ _ (q_MI_upW (q_MI_upW hI (q_ok2 c3) ?_ ?_ ?_) (q_ok4 (by omega)) ?_ ?_ ?_) (q_mfr_up (q_mfr_up q_mfr_rf (by omega) (by omega)) (by omega) (by omega))
          all_goals first
            | omega
            | exact fun e => absurd e (by decide)
        · subst k
          simp (disch := omega) only [b_X6_put_0, x_loadR_0, x_loadS_0, x_loadI_1, y_if_ne_t, y_if_ne_f, b_X6_put_8, x_iconst, x_ret0, b_X6_put_11, x_loadI_2, y_if_eq_t, y_if_eq_f, b_X6_put_20, x_loadI_3, b_X6_put_30, b_X6_put_33, f_6_4, x_imul, x_iadd, y_iald_35, x_storeI_4, y_iast_35, b_X6_put_69, x_goto, b_X6_put_73, b_X6_put_83, x_loadI_4, q_isL_I, q_isL_R, q_isL_S, true_and, and_true, and_self, List.length_nil, List.length_cons, Nat.zero_add, x_K, x_Kn, Int.reduceToNat, Nat.reduceAdd, Nat.reduceMul, Nat.reduceLeDiff, Nat.reduceLT, Nat.zero_le, Int.reduceAdd, Int.reduceSub, Int.reduceMul, Int.reduceNeg, q_add_e, q_sub_e, q_mul_e, q_neg_e, q_upd_s, q_upd_n, zr_shr0, zr_shr1, zr_shr2, zr_shr3, zr_shr4, zr_and, zr_dyn8, zr_or, zr_shl, q_cpy_n, y_cpy26, c_X6_isStone, mp_isStone, c1, c_X6_in, mp_in, c2, c3, and_self, if_true, tn_31, tn_32]
          refine hq _ _ (q_MI_upW (q_MI_upW hI (q_ok3 c3) ?_ ?_ ?_) (q_ok4 (by omega)) ?_ ?_ ?_) (q_mfr_up (q_mfr_up q_mfr_rf (by omega) (by omega)) (by omega) (by omega))
          all_goals first
            | omega
            | exact fun e => absurd e (by decide)
      · simp (disch := omega) only [b_X6_put_0, x_loadR_0, x_loadS_0, x_loadI_1, y_if_ne_t, y_if_ne_f, b_X6_put_8, x_iconst, x_ret0, b_X6_put_11, x_loadI_2, y_if_eq_t, y_if_eq_f, b_X6_put_20, x_loadI_3, b_X6_put_30, b_X6_put_33, f_6_4, x_imul, x_iadd, y_iald_35, x_storeI_4, y_iast_35, b_X6_put_69, x_goto, b_X6_put_73, b_X6_put_83, x_loadI_4, q_isL_I, q_isL_R, q_isL_S, true_and, and_true, and_self, List.length_nil, List.length_cons, Nat.zero_add, x_K, x_Kn, Int.reduceToNat, Nat.reduceAdd, Nat.reduceMul, Nat.reduceLeDiff, Nat.reduceLT, Nat.zero_le, Int.reduceAdd, Int.reduceSub, Int.reduceMul, Int.reduceNeg, q_add_e, q_sub_e, q_mul_e, q_neg_e, q_upd_s, q_upd_n, zr_shr0, zr_shr1, zr_shr2, zr_shr3, zr_shr4, zr_and, zr_dyn8, zr_or, zr_shl, q_cpy_n, y_cpy26, c_X6_isStone, mp_isStone, c1, c_X6_in, mp_in, c2, c3, and_self, if_true, if_false]
        exact hq _ _ hI q_mfr_rf
    · simp (disch := omega) only [b_X6_put_0, x_loadR_0, x_loadS_0, x_loadI_1, y_if_ne_t, y_if_ne_f, b_X6_put_8, x_iconst, x_ret0, b_X6_put_11, x_loadI_2, y_if_eq_t, y_if_eq_f, b_X6_put_20, x_loadI_3, b_X6_put_30, b_X6_put_33, f_6_4, x_imul, x_iadd, y_iald_35, x_storeI_4, y_iast_35, b_X6_put_69, x_goto, b_X6_put_73, b_X6_put_83, x_loadI_4, q_isL_I, q_isL_R, q_isL_S, true_and, and_true, and_self, List.length_nil, List.length_cons, Nat.zero_add, x_K, x_Kn, Int.reduceToNat, Nat.reduceAdd, Nat.reduceMul, Nat.reduceLeDiff, Nat.reduceLT, Nat.zero_le, Int.reduceAdd, Int.reduceSub, Int.reduceMul, Int.reduceNeg, q_add_e, q_sub_e, q_mul_e, q_neg_e, q_upd_s, q_upd_n, zr_shr0, zr_shr1, zr_shr2, zr_shr3, zr_shr4, zr_and, zr_dyn8, zr_or, zr_shl, q_cpy_n, y_cpy26, c_X6_isStone, mp_isStone, c1, c_X6_in, mp_in, c2, and_self, if_true, if_false]
      exact hq _ _ hI q_mfr_rf
  · simp (disch := omega) only [b_X6_put_0, x_loadR_0, x_loadS_0, x_loadI_1, y_if_ne_t, y_if_ne_f, b_X6_put_8, x_iconst, x_ret0, b_X6_put_11, x_loadI_2, y_if_eq_t, y_if_eq_f, b_X6_put_20, x_loadI_3, b_X6_put_30, b_X6_put_33, f_6_4, x_imul, x_iadd, y_iald_35, x_storeI_4, y_iast_35, b_X6_put_69, x_goto, b_X6_put_73, b_X6_put_83, x_loadI_4, q_isL_I, q_isL_R, q_isL_S, true_and, and_true, and_self, List.length_nil, List.length_cons, Nat.zero_add, x_K, x_Kn, Int.reduceToNat, Nat.reduceAdd, Nat.reduceMul, Nat.reduceLeDiff, Nat.reduceLT, Nat.zero_le, Int.reduceAdd, Int.reduceSub, Int.reduceMul, Int.reduceNeg, q_add_e, q_sub_e, q_mul_e, q_neg_e, q_upd_s, q_upd_n, zr_shr0, zr_shr1, zr_shr2, zr_shr3, zr_shr4, zr_and, zr_dyn8, zr_or, zr_shl, q_cpy_n, y_cpy26, c_X6_isStone, mp_isStone, c1, if_false]
    exact hq _ _ hI q_mfr_rf
set_option maxHeartbeats 4000000 in
theorem mw_feed {Vt : Nat → Nat → (Nat → Int) → Int} {d tm : Nat} {g : q_G} {M : q_M} {n a0 a1 a2 a3 a4 : Int} {Q : Option q_V → q_G → q_M → Prop} (hI : q_MI Vt tm M) (hqB : ¬F_fedB n a0 a1 a2 a3 a4 → Q (some (qI (-2))) g M) (hqF : F_fedB n a0 a1 a2 a3 a4 → 160 < M 100 7 + n → Q (some (qI (-4))) g M) (hq : ∀ M2 : q_M, F_fedB n a0 a1 a2 a3 a4 → M 100 7 + n ≤ 160 → q_MI Vt tm M2 → (∀ a i, a ≠ 105 → (a = 100 → i ≠ 7) → M2 a i = M a i) → M2 100 7 = M 100 7 + n → M2 105 = F_tp (M 105) (M 100 7).toNat (F_vs a0 a1 a2 a3 a4) n.toNat → Q (some (qI (M 100 7 + n))) g M2) : q_S 1 (d + 10) 122 [qR 6 100, qI n, qI a0, qI a1, qI a2, qI a3, qI a4] g M Q := by
  have n0 := hI.1.1
  rw [s_X6_feed]
  have h7 := hI.2.2.2.2.2.2.1
  have loop : F_fedB n a0 a1 a2 a3 a4 → M 100 7 + n ≤ 160 → ∀ j k : Nat, (k : Int) + j = n → ∀ M1 : q_M, q_MI Vt tm M1 → M1 100 7 = M 100 7 + k → M1 105 = F_tp (M 105) (M 100 7).toNat (F_vs a0 a1 a2 a3 a4) k → (∀ a i, a ≠ 105 → (a = 100 → i ≠ 7) → M1 a i = M a i) → q_T 1 (d + 10) qP_X6_feed 68 [] [qR 6 100, qI n, qI a0, qI a1, qI a2, qI a3, qI a4, qI k] [] g M1 Q := by
    intro hB hr j
    have hn5 := hB.1
    induction j with
    | zero =>
      intro k hk M1 h1 e7 eT f1
      have ek : (k : Int) = n := by omega
      rw [b_X6_feed_68]
      simp (disch := omega) only [b_X6_feed_0, x_loadI_1, x_iconst, y_if_eq_t, y_if_eq_f, b_X6_feed_9, x_loadI_2, b_X6_feed_16, x_loadI_3, b_X6_feed_23, x_loadI_4, b_X6_feed_31, x_loadI_5, b_X6_feed_39, x_loadI_6, y_if_ne_t, y_if_ne_f, b_X6_feed_47, x_ret0, b_X6_feed_50, x_loadR_0, x_loadS_0, f_6_7, x_iadd, y_ic_le_t, y_ic_le_f, b_X6_feed_62, b_X6_feed_65, x_storeI_7, x_loadI_7, y_ic_ge_t, y_ic_ge_f, b_X6_feed_74, f_6_6, b_X6_feed_87, x_goto, b_X6_feed_91, y_ic_ne_t, y_ic_ne_f, b_X6_feed_97, b_X6_feed_101, b_X6_feed_107, b_X6_feed_112, b_X6_feed_118, b_X6_feed_123, b_X6_feed_125, y_iast_180, x_dupI, x_dupR, p_6_7, x_iinc_7, b_X6_feed_142, q_isL_I, q_isL_R, q_isL_S, true_and, and_true, and_self, List.length_nil, List.length_cons, Nat.zero_add, x_K, x_Kn, Int.reduceToNat, Nat.reduceAdd, Nat.reduceMul, Nat.reduceLeDiff, Nat.reduceLT, Nat.zero_le, Int.reduceAdd, Int.reduceSub, Int.reduceMul, Int.reduceNeg, q_add_e, q_sub_e, q_mul_e, q_neg_e, q_upd_s, q_upd_n, zr_shr0, zr_shr1, zr_shr2, zr_shr3, zr_shr4, zr_and, zr_dyn8, zr_or, zr_shl, q_cpy_n, y_cpy26]
      rw [e7, ek]
      exact hq M1 hB hr h1 f1 (by rw [e7, ek]) (by rw [eT, ← ek, Int.toNat_natCast])
    | succ j ih =>
      intro k hk M1 h1 e7 eT f1
      have h17 := h1.2.2.2.2.2.2.1
      have nxt : ∀ x : Int, x = F_vs a0 a1 a2 a3 a4 k → q_T 1 (d + 10) qP_X6_feed 125 [] [qR 6 100, qI n, qI a0, qI a1, qI a2, qI a3, qI a4, qI k] [qI x, qI (M1 100 7), qR 180 105] g M1 Q := by
        intro x hx
        have t7 : (M1 100 7).toNat = (M 100 7).toNat + k := by omega
        rw [b_X6_feed_125]
        simp (disch := omega) only [b_X6_feed_0, x_loadI_1, x_iconst, y_if_eq_t, y_if_eq_f, b_X6_feed_9, x_loadI_2, b_X6_feed_16, x_loadI_3, b_X6_feed_23, x_loadI_4, b_X6_feed_31, x_loadI_5, b_X6_feed_39, x_loadI_6, y_if_ne_t, y_if_ne_f, b_X6_feed_47, x_ret0, b_X6_feed_50, x_loadR_0, x_loadS_0, f_6_7, x_iadd, y_ic_le_t, y_ic_le_f, b_X6_feed_62, b_X6_feed_65, x_storeI_7, x_loadI_7, y_ic_ge_t, y_ic_ge_f, b_X6_feed_74, f_6_6, b_X6_feed_87, x_goto, b_X6_feed_91, y_ic_ne_t, y_ic_ne_f, b_X6_feed_97, b_X6_feed_101, b_X6_feed_107, b_X6_feed_112, b_X6_feed_118, b_X6_feed_123, b_X6_feed_125, y_iast_180, x_dupI, x_dupR, p_6_7, x_iinc_7, b_X6_feed_142, q_isL_I, q_isL_R, q_isL_S, true_and, and_true, and_self, List.length_nil, List.length_cons, Nat.zero_add, x_K, x_Kn, Int.reduceToNat, Nat.reduceAdd, Nat.reduceMul, Nat.reduceLeDiff, Nat.reduceLT, Nat.zero_le, Int.reduceAdd, Int.reduceSub, Int.reduceMul, Int.reduceNeg, q_add_e, q_sub_e, q_mul_e, q_neg_e, q_upd_s, q_upd_n, zr_shr0, zr_shr1, zr_shr2, zr_shr3, zr_shr4, zr_and, zr_dyn8, zr_or, zr_shl, q_cpy_n, y_cpy26]
        refine ih (k + 1) (by omega) _ ?_ ?_ ?_ ?_
        · exact q_MI_up7 (q_MI_up h1 (by unfold q_rel; omega)) (by omega)
        · rw [q_upd_s]
          omega
        · funext i
          rw [q_upd_n (by omega), F_tp, ← eT, ← hx, t7]
          unfold F_u
          by_cases e : i = (M 100 7).toNat + k
          · rw [if_pos e, e, q_upd_s]
          · rw [if_neg e, q_upd_n (by omega)]
        · intro a i q1 q2
          rw [q_upd_n (by omega), q_upd_n (by omega)]
          exact f1 a i q1 q2
      rw [b_X6_feed_68]
      rcases (show k = 0 ∨ k = 1 ∨ k = 2 ∨ k = 3 ∨ k = 4 by omega) with e | e | e | e | e
      · simp (disch := omega) only [b_X6_feed_0, x_loadI_1, x_iconst, y_if_eq_t, y_if_eq_f, b_X6_feed_9, x_loadI_2, b_X6_feed_16, x_loadI_3, b_X6_feed_23, x_loadI_4, b_X6_feed_31, x_loadI_5, b_X6_feed_39, x_loadI_6, y_if_ne_t, y_if_ne_f, b_X6_feed_47, x_ret0, b_X6_feed_50, x_loadR_0, x_loadS_0, f_6_7, x_iadd, y_ic_le_t, y_ic_le_f, b_X6_feed_62, b_X6_feed_65, x_storeI_7, x_loadI_7, y_ic_ge_t, y_ic_ge_f, b_X6_feed_74, f_6_6, b_X6_feed_87, x_goto, b_X6_feed_91, y_ic_ne_t, y_ic_ne_f, b_X6_feed_97, b_X6_feed_101, b_X6_feed_107, b_X6_feed_112, b_X6_feed_118, b_X6_feed_123, y_iast_180, x_dupI, x_dupR, p_6_7, x_iinc_7, b_X6_feed_142, q_isL_I, q_isL_R, q_isL_S, true_and, and_true, and_self, List.length_nil, List.length_cons, Nat.zero_add, x_K, x_Kn, Int.reduceToNat, Nat.reduceAdd, Nat.reduceMul, Nat.reduceLeDiff, Nat.reduceLT, Nat.zero_le, Int.reduceAdd, Int.reduceSub, Int.reduceMul, Int.reduceNeg, q_add_e, q_sub_e, q_mul_e, q_neg_e, q_upd_s, q_upd_n, zr_shr0, zr_shr1, zr_shr2, zr_shr3, zr_shr4, zr_and, zr_dyn8, zr_or, zr_shl, q_cpy_n, y_cpy26]
        exact nxt _ (by rw [e]; rfl)
      · simp (disch := omega) only [b_X6_feed_0, x_loadI_1, x_iconst, y_if_eq_t, y_if_eq_f, b_X6_feed_9, x_loadI_2, b_X6_feed_16, x_loadI_3, b_X6_feed_23, x_loadI_4, b_X6_feed_31, x_loadI_5, b_X6_feed_39, x_loadI_6, y_if_ne_t, y_if_ne_f, b_X6_feed_47, x_ret0, b_X6_feed_50, x_loadR_0, x_loadS_0, f_6_7, x_iadd, y_ic_le_t, y_ic_le_f, b_X6_feed_62, b_X6_feed_65, x_storeI_7, x_loadI_7, y_ic_ge_t, y_ic_ge_f, b_X6_feed_74, f_6_6, b_X6_feed_87, x_goto, b_X6_feed_91, y_ic_ne_t, y_ic_ne_f, b_X6_feed_97, b_X6_feed_101, b_X6_feed_107, b_X6_feed_112, b_X6_feed_118, b_X6_feed_123, y_iast_180, x_dupI, x_dupR, p_6_7, x_iinc_7, b_X6_feed_142, q_isL_I, q_isL_R, q_isL_S, true_and, and_true, and_self, List.length_nil, List.length_cons, Nat.zero_add, x_K, x_Kn, Int.reduceToNat, Nat.reduceAdd, Nat.reduceMul, Nat.reduceLeDiff, Nat.reduceLT, Nat.zero_le, Int.reduceAdd, Int.reduceSub, Int.reduceMul, Int.reduceNeg, q_add_e, q_sub_e, q_mul_e, q_neg_e, q_upd_s, q_upd_n, zr_shr0, zr_shr1, zr_shr2, zr_shr3, zr_shr4, zr_and, zr_dyn8, zr_or, zr_shl, q_cpy_n, y_cpy26]
        exact nxt _ (by rw [e]; rfl)
      · simp (disch := omega) only [b_X6_feed_0, x_loadI_1, x_iconst, y_if_eq_t, y_if_eq_f, b_X6_feed_9, x_loadI_2, b_X6_feed_16, x_loadI_3, b_X6_feed_23, x_loadI_4, b_X6_feed_31, x_loadI_5, b_X6_feed_39, x_loadI_6, y_if_ne_t, y_if_ne_f, b_X6_feed_47, x_ret0, b_X6_feed_50, x_loadR_0, x_loadS_0, f_6_7, x_iadd, y_ic_le_t, y_ic_le_f, b_X6_feed_62, b_X6_feed_65, x_storeI_7, x_loadI_7, y_ic_ge_t, y_ic_ge_f, b_X6_feed_74, f_6_6, b_X6_feed_87, x_goto, b_X6_feed_91, y_ic_ne_t, y_ic_ne_f, b_X6_feed_97, b_X6_feed_101, b_X6_feed_107, b_X6_feed_112, b_X6_feed_118, b_X6_feed_123, y_iast_180, x_dupI, x_dupR, p_6_7, x_iinc_7, b_X6_feed_142, q_isL_I, q_isL_R, q_isL_S, true_and, and_true, and_self, List.length_nil, List.length_cons, Nat.zero_add, x_K, x_Kn, Int.reduceToNat, Nat.reduceAdd, Nat.reduceMul, Nat.reduceLeDiff, Nat.reduceLT, Nat.zero_le, Int.reduceAdd, Int.reduceSub, Int.reduceMul, Int.reduceNeg, q_add_e, q_sub_e, q_mul_e, q_neg_e, q_upd_s, q_upd_n, zr_shr0, zr_shr1, zr_shr2, zr_shr3, zr_shr4, zr_and, zr_dyn8, zr_or, zr_shl, q_cpy_n, y_cpy26]
        exact nxt _ (by rw [e]; rfl)
      · simp (disch := omega) only [b_X6_feed_0, x_loadI_1, x_iconst, y_if_eq_t, y_if_eq_f, b_X6_feed_9, x_loadI_2, b_X6_feed_16, x_loadI_3, b_X6_feed_23, x_loadI_4, b_X6_feed_31, x_loadI_5, b_X6_feed_39, x_loadI_6, y_if_ne_t, y_if_ne_f, b_X6_feed_47, x_ret0, b_X6_feed_50, x_loadR_0, x_loadS_0, f_6_7, x_iadd, y_ic_le_t, y_ic_le_f, b_X6_feed_62, b_X6_feed_65, x_storeI_7, x_loadI_7, y_ic_ge_t, y_ic_ge_f, b_X6_feed_74, f_6_6, b_X6_feed_87, x_goto, b_X6_feed_91, y_ic_ne_t, y_ic_ne_f, b_X6_feed_97, b_X6_feed_101, b_X6_feed_107, b_X6_feed_112, b_X6_feed_118, b_X6_feed_123, y_iast_180, x_dupI, x_dupR, p_6_7, x_iinc_7, b_X6_feed_142, q_isL_I, q_isL_R, q_isL_S, true_and, and_true, and_self, List.length_nil, List.length_cons, Nat.zero_add, x_K, x_Kn, Int.reduceToNat, Nat.reduceAdd, Nat.reduceMul, Nat.reduceLeDiff, Nat.reduceLT, Nat.zero_le, Int.reduceAdd, Int.reduceSub, Int.reduceMul, Int.reduceNeg, q_add_e, q_sub_e, q_mul_e, q_neg_e, q_upd_s, q_upd_n, zr_shr0, zr_shr1, zr_shr2, zr_shr3, zr_shr4, zr_and, zr_dyn8, zr_or, zr_shl, q_cpy_n, y_cpy26]
        exact nxt _ (by rw [e]; rfl)
      · simp (disch := omega) only [b_X6_feed_0, x_loadI_1, x_iconst, y_if_eq_t, y_if_eq_f, b_X6_feed_9, x_loadI_2, b_X6_feed_16, x_loadI_3, b_X6_feed_23, x_loadI_4, b_X6_feed_31, x_loadI_5, b_X6_feed_39, x_loadI_6, y_if_ne_t, y_if_ne_f, b_X6_feed_47, x_ret0, b_X6_feed_50, x_loadR_0, x_loadS_0, f_6_7, x_iadd, y_ic_le_t, y_ic_le_f, b_X6_feed_62, b_X6_feed_65, x_storeI_7, x_loadI_7, y_ic_ge_t, y_ic_ge_f, b_X6_feed_74, f_6_6, b_X6_feed_87, x_goto, b_X6_feed_91, y_ic_ne_t, y_ic_ne_f, b_X6_feed_97, b_X6_feed_101, b_X6_feed_107, b_X6_feed_112, b_X6_feed_118, b_X6_feed_123, y_iast_180, x_dupI, x_dupR, p_6_7, x_iinc_7, b_X6_feed_142, q_isL_I, q_isL_R, q_isL_S, true_and, and_true, and_self, List.length_nil, List.length_cons, Nat.zero_add, x_K, x_Kn, Int.reduceToNat, Nat.reduceAdd, Nat.reduceMul, Nat.reduceLeDiff, Nat.reduceLT, Nat.zero_le, Int.reduceAdd, Int.reduceSub, Int.reduceMul, Int.reduceNeg, q_add_e, q_sub_e, q_mul_e, q_neg_e, q_upd_s, q_upd_n, zr_shr0, zr_shr1, zr_shr2, zr_shr3, zr_shr4, zr_and, zr_dyn8, zr_or, zr_shl, q_cpy_n, y_cpy26]
        exact nxt _ (by rw [e]; rfl)
  by_cases c0 : 1 ≤ n ∧ n ≤ 5
  · have done : F_fedB n a0 a1 a2 a3 a4 → q_T 1 (d + 10) qP_X6_feed 50 [] [qR 6 100, qI n, qI a0, qI a1, qI a2, qI a3, qI a4, qS 0] [] g M Q := by
      intro hB
      rw [b_X6_feed_50]
      by_cases c1 : M 100 7 + n ≤ 160
      · simp (disch := omega) only [b_X6_feed_0, x_loadI_1, x_iconst, y_if_eq_t, y_if_eq_f, b_X6_feed_9, x_loadI_2, b_X6_feed_16, x_loadI_3, b_X6_feed_23, x_loadI_4, b_X6_feed_31, x_loadI_5, b_X6_feed_39, x_loadI_6, y_if_ne_t, y_if_ne_f, b_X6_feed_47, x_ret0, b_X6_feed_50, x_loadR_0, x_loadS_0, f_6_7, x_iadd, y_ic_le_t, y_ic_le_f, b_X6_feed_62, b_X6_feed_65, x_storeI_7, x_loadI_7, y_ic_ge_t, y_ic_ge_f, b_X6_feed_74, f_6_6, b_X6_feed_87, x_goto, b_X6_feed_91, y_ic_ne_t, y_ic_ne_f, b_X6_feed_97, b_X6_feed_101, b_X6_feed_107, b_X6_feed_112, b_X6_feed_118, b_X6_feed_123, b_X6_feed_125, y_iast_180, x_dupI, x_dupR, p_6_7, x_iinc_7, b_X6_feed_142, q_isL_I, q_isL_R, q_isL_S, true_and, and_true, and_self, List.length_nil, List.length_cons, Nat.zero_add, x_K, x_Kn, Int.reduceToNat, Nat.reduceAdd, Nat.reduceMul, Nat.reduceLeDiff, Nat.reduceLT, Nat.zero_le, Int.reduceAdd, Int.reduceSub, Int.reduceMul, Int.reduceNeg, q_add_e, q_sub_e, q_mul_e, q_neg_e, q_upd_s, q_upd_n, zr_shr0, zr_shr1, zr_shr2, zr_shr3, zr_shr4, zr_and, zr_dyn8, zr_or, zr_shl, q_cpy_n, y_cpy26]
        exact loop hB c1 n.toNat 0 (by omega) M hI (by omega) rfl (fun _ _ _ _ => rfl)
      · simp (disch := omega) only [b_X6_feed_0, x_loadI_1, x_iconst, y_if_eq_t, y_if_eq_f, b_X6_feed_9, x_loadI_2, b_X6_feed_16, x_loadI_3, b_X6_feed_23, x_loadI_4, b_X6_feed_31, x_loadI_5, b_X6_feed_39, x_loadI_6, y_if_ne_t, y_if_ne_f, b_X6_feed_47, x_ret0, b_X6_feed_50, x_loadR_0, x_loadS_0, f_6_7, x_iadd, y_ic_le_t, y_ic_le_f, b_X6_feed_62, b_X6_feed_65, x_storeI_7, x_loadI_7, y_ic_ge_t, y_ic_ge_f, b_X6_feed_74, f_6_6, b_X6_feed_87, x_goto, b_X6_feed_91, y_ic_ne_t, y_ic_ne_f, b_X6_feed_97, b_X6_feed_101, b_X6_feed_107, b_X6_feed_112, b_X6_feed_118, b_X6_feed_123, b_X6_feed_125, y_iast_180, x_dupI, x_dupR, p_6_7, x_iinc_7, b_X6_feed_142, q_isL_I, q_isL_R, q_isL_S, true_and, and_true, and_self, List.length_nil, List.length_cons, Nat.zero_add, x_K, x_Kn, Int.reduceToNat, Nat.reduceAdd, Nat.reduceMul, Nat.reduceLeDiff, Nat.reduceLT, Nat.zero_le, Int.reduceAdd, Int.reduceSub, Int.reduceMul, Int.reduceNeg, q_add_e, q_sub_e, q_mul_e, q_neg_e, q_upd_s, q_upd_n, zr_shr0, zr_shr1, zr_shr2, zr_shr3, zr_shr4, zr_and, zr_dyn8, zr_or, zr_shl, q_cpy_n, y_cpy26]
        exact hqF hB (by omega)
    simp (disch := omega) only [b_X6_feed_0, x_loadI_1, x_iconst, y_if_eq_t, y_if_eq_f, b_X6_feed_9, x_loadI_2, b_X6_feed_16, x_loadI_3, b_X6_feed_23, x_loadI_4, b_X6_feed_31, x_loadI_5, b_X6_feed_39, x_loadI_6, y_if_ne_t, y_if_ne_f, b_X6_feed_47, x_ret0, x_loadR_0, x_loadS_0, f_6_7, x_iadd, y_ic_le_t, y_ic_le_f, b_X6_feed_62, b_X6_feed_65, x_storeI_7, x_loadI_7, y_ic_ge_t, y_ic_ge_f, b_X6_feed_74, f_6_6, b_X6_feed_87, x_goto, b_X6_feed_91, y_ic_ne_t, y_ic_ne_f, b_X6_feed_97, b_X6_feed_101, b_X6_feed_107, b_X6_feed_112, b_X6_feed_118, b_X6_feed_123, b_X6_feed_125, y_iast_180, x_dupI, x_dupR, p_6_7, x_iinc_7, b_X6_feed_142, q_isL_I, q_isL_R, q_isL_S, true_and, and_true, and_self, List.length_nil, List.length_cons, Nat.zero_add, x_K, x_Kn, Int.reduceToNat, Nat.reduceAdd, Nat.reduceMul, Nat.reduceLeDiff, Nat.reduceLT, Nat.zero_le, Int.reduceAdd, Int.reduceSub, Int.reduceMul, Int.reduceNeg, q_add_e, q_sub_e, q_mul_e, q_neg_e, q_upd_s, q_upd_n, zr_shr0, zr_shr1, zr_shr2, zr_shr3, zr_shr4, zr_and, zr_dyn8, zr_or, zr_shl, q_cpy_n, y_cpy26, c_X6_in, mp_in, c0, and_self, if_true, c_X6_isByte]
    repeat' (first
      | exact done ⟨c0, by assumption, by assumption, by assumption, by assumption, by assumption⟩
      | exact hqB (fun z => by obtain ⟨z1, z2, z3, z4, z5, z6⟩ := z; contradiction)
      | refine mp_isByte (fun h => ?_) (fun h => ?_)
      | simp (disch := omega) only [b_X6_feed_0, x_loadI_1, x_iconst, y_if_eq_t, y_if_eq_f, b_X6_feed_9, x_loadI_2, b_X6_feed_16, x_loadI_3, b_X6_feed_23, x_loadI_4, b_X6_feed_31, x_loadI_5, b_X6_feed_39, x_loadI_6, y_if_ne_t, y_if_ne_f, b_X6_feed_47, x_ret0, x_loadR_0, x_loadS_0, f_6_7, x_iadd, y_ic_le_t, y_ic_le_f, b_X6_feed_62, b_X6_feed_65, x_storeI_7, x_loadI_7, y_ic_ge_t, y_ic_ge_f, b_X6_feed_74, f_6_6, b_X6_feed_87, x_goto, b_X6_feed_91, y_ic_ne_t, y_ic_ne_f, b_X6_feed_97, b_X6_feed_101, b_X6_feed_107, b_X6_feed_112, b_X6_feed_118, b_X6_feed_123, b_X6_feed_125, y_iast_180, x_dupI, x_dupR, p_6_7, x_iinc_7, b_X6_feed_142, q_isL_I, q_isL_R, q_isL_S, true_and, and_true, and_self, List.length_nil, List.length_cons, Nat.zero_add, x_K, x_Kn, Int.reduceToNat, Nat.reduceAdd, Nat.reduceMul, Nat.reduceLeDiff, Nat.reduceLT, Nat.zero_le, Int.reduceAdd, Int.reduceSub, Int.reduceMul, Int.reduceNeg, q_add_e, q_sub_e, q_mul_e, q_neg_e, q_upd_s, q_upd_n, zr_shr0, zr_shr1, zr_shr2, zr_shr3, zr_shr4, zr_and, zr_dyn8, zr_or, zr_shl, q_cpy_n, y_cpy26, c_X6_isByte])
  · simp (disch := omega) only [b_X6_feed_0, x_loadI_1, x_iconst, y_if_eq_t, y_if_eq_f, b_X6_feed_9, x_loadI_2, b_X6_feed_16, x_loadI_3, b_X6_feed_23, x_loadI_4, b_X6_feed_31, x_loadI_5, b_X6_feed_39, x_loadI_6, y_if_ne_t, y_if_ne_f, b_X6_feed_47, x_ret0, x_loadR_0, x_loadS_0, f_6_7, x_iadd, y_ic_le_t, y_ic_le_f, b_X6_feed_62, b_X6_feed_65, x_storeI_7, x_loadI_7, y_ic_ge_t, y_ic_ge_f, b_X6_feed_74, f_6_6, b_X6_feed_87, x_goto, b_X6_feed_91, y_ic_ne_t, y_ic_ne_f, b_X6_feed_97, b_X6_feed_101, b_X6_feed_107, b_X6_feed_112, b_X6_feed_118, b_X6_feed_123, b_X6_feed_125, y_iast_180, x_dupI, x_dupR, p_6_7, x_iinc_7, b_X6_feed_142, q_isL_I, q_isL_R, q_isL_S, true_and, and_true, and_self, List.length_nil, List.length_cons, Nat.zero_add, x_K, x_Kn, Int.reduceToNat, Nat.reduceAdd, Nat.reduceMul, Nat.reduceLeDiff, Nat.reduceLT, Nat.zero_le, Int.reduceAdd, Int.reduceSub, Int.reduceMul, Int.reduceNeg, q_add_e, q_sub_e, q_mul_e, q_neg_e, q_upd_s, q_upd_n, zr_shr0, zr_shr1, zr_shr2, zr_shr3, zr_shr4, zr_and, zr_dyn8, zr_or, zr_shl, q_cpy_n, y_cpy26, c_X6_in, mp_in, c0, if_false]
    exact hqB (fun z => c0 z.1)
end
