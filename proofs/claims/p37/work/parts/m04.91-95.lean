section
/-! THE CLASS'S ENTRIES: states, whose, laws -/
def F_mn (T : Nat → Int) : Nat → Int
  | 0 => 0
  | k + 1 => F_mn T k + (if T k = -1 then 1 else 0)
def F_ls (T : Nat → Int) : Nat → Int
  | 0 => -1
  | k + 1 => if T k = -1 ∧ F_ls T k = -1 then k else F_ls T k
theorem F_mn_le (T : Nat → Int) : ∀ k : Nat, 0 ≤ F_mn T k ∧ F_mn T k ≤ k
  | 0 => by rw [F_mn]; omega
  | k + 1 => by
    have h := F_mn_le T k
    rw [F_mn]
    split <;> omega
def A_states (V : Nat → (Nat → Int) → Int) (M : q_M) (s p so wt : Int) : Int := if q_rfA M s ≠ 0 then q_rfA M s else if ¬(0 ≤ p ∧ p < M 12 5) then -5 else if ¬((0 ≤ so ∧ so ≤ 1) ∧ (0 ≤ wt ∧ wt ≤ 1)) then -7 else if wt = 0 then F_mn (fun k => q_foA V M (q_upd (cW M 11) (so.toNat + 2) p.toNat k) s.toNat p.toNat) 100 else F_ls (fun k => q_foA V M (q_upd (cW M 11) (so.toNat + 2) p.toNat k) s.toNat p.toNat) 100
set_option maxHeartbeats 4000000 in
theorem sp_states {V : Nat → (Nat → Int) → Int} {d : Nat} {g : q_G} {M : q_M} {ta : Nat} {s p so wt : Int} {Q : Option q_V → q_G → q_M → Prop} (C : q_ci V M ta) (hq : ∀ M2 : q_M, q_tq M M2 → Q (some (qI (A_states V M s p so wt))) g M2) : q_S 1 (d + 6) 85 [qR 5 0, qI s, qI p, qI so, qI wt] g M Q := by
  have h12 := q_ci_n C
  rw [s_X5_states]
  unfold A_states at hq
  by_cases c1 : q_rfA M s = 0
  · rw [if_neg (fun z => z c1)] at hq
    by_cases c2 : 0 ≤ p ∧ p < M 12 5
    · rw [if_neg (fun z => z c2)] at hq
      by_cases c3 : (0 ≤ so ∧ so ≤ 1) ∧ (0 ≤ wt ∧ wt ≤ 1)
      · rw [if_neg (fun z => z c3)] at hq
        obtain ⟨⟨s0, s4⟩, sz⟩ := q_rfA_0 c1
        obtain ⟨S, rfl⟩ : ∃ S : Nat, s = S := ⟨s.toNat, by omega⟩
        obtain ⟨N, rfl⟩ : ∃ N : Nat, p = N := ⟨p.toNat, by omega⟩
        simp only [Int.toNat_natCast] at hq sz
        generalize hT : (fun k : Nat => q_foA V M (q_upd (cW M 11) (so.toNat + 2) N k) S N) = T at hq
        have loop : ∀ j k : Nat, k + j = 100 → ∀ M1 : q_M, q_tq M M1 → q_T 1 (d + 6) qP_X5_states 58 [] [qR 5 0, qI S, qI N, qI so, qI wt, qI (q_rfA M S), qI (F_mn T k), qI (F_ls T k), qI k] [] g M1 Q := by
          intro j
          induction j with
          | zero =>
            intro k hk M1 hf
            have e : k = 100 := by omega
            subst e
            rw [b_X5_states_58]
            rcases (show wt = 0 ∨ wt = 1 by omega) with e | e
            · rw [if_pos e] at hq
              simp (disch := omega) only [b_X5_states_0, x_loadR_0, x_loadS_0, x_loadI_1, x_storeI_5, x_loadI_5, y_if_eq_t, y_if_eq_f, b_X5_states_12, x_ret0, b_X5_states_15, x_loadI_2, y_if_ne_t, y_if_ne_f, b_X5_states_23, x_iconst, b_X5_states_26, x_loadI_3, y_if_lt_t, y_if_lt_f, b_X5_states_30, y_ic_gt_t, y_ic_gt_f, b_X5_states_35, x_loadI_4, b_X5_states_40, y_ic_le_t, y_ic_le_f, b_X5_states_46, b_X5_states_49, x_storeI_6, x_storeI_7, x_storeI_8, x_loadI_8, b_X5_states_65, f_5_4, f_5_3, b_X5_states_80, f_4_6, y_iast_26, x_goto, b_X5_states_94, f_4_7, b_X5_states_105, y_ic_ne_t, y_ic_ne_f, b_X5_states_115, x_iinc_6, x_loadI_7, b_X5_states_124, b_X5_states_129, b_X5_states_131, b_X5_states_133, x_iinc_8, b_X5_states_139, b_X5_states_144, x_loadI_6, b_X5_states_149, b_X5_states_151, q_isL_I, q_isL_R, q_isL_S, true_and, and_true, and_self, List.length_nil, List.length_cons, Nat.zero_add, x_K, x_Kn, Int.reduceToNat, Nat.reduceAdd, Nat.reduceMul, Nat.reduceLeDiff, Nat.reduceLT, Nat.zero_le, Int.reduceAdd, Int.reduceSub, Int.reduceMul, Int.reduceNeg, q_add_e, q_sub_e, q_mul_e, q_neg_e, q_upd_s, q_upd_n, zr_shr0, zr_shr1, zr_shr2, zr_shr3, zr_shr4, zr_and, zr_dyn8, zr_or, zr_shl, q_cpy_n, y_cpy26]
              exact hq M1 hf
            · rw [if_neg (by omega)] at hq
              simp (disch := omega) only [b_X5_states_0, x_loadR_0, x_loadS_0, x_loadI_1, x_storeI_5, x_loadI_5, y_if_eq_t, y_if_eq_f, b_X5_states_12, x_ret0, b_X5_states_15, x_loadI_2, y_if_ne_t, y_if_ne_f, b_X5_states_23, x_iconst, b_X5_states_26, x_loadI_3, y_if_lt_t, y_if_lt_f, b_X5_states_30, y_ic_gt_t, y_ic_gt_f, b_X5_states_35, x_loadI_4, b_X5_states_40, y_ic_le_t, y_ic_le_f, b_X5_states_46, b_X5_states_49, x_storeI_6, x_storeI_7, x_storeI_8, x_loadI_8, b_X5_states_65, f_5_4, f_5_3, b_X5_states_80, f_4_6, y_iast_26, x_goto, b_X5_states_94, f_4_7, b_X5_states_105, y_ic_ne_t, y_ic_ne_f, b_X5_states_115, x_iinc_6, x_loadI_7, b_X5_states_124, b_X5_states_129, b_X5_states_131, b_X5_states_133, x_iinc_8, b_X5_states_139, b_X5_states_144, x_loadI_6, b_X5_states_149, b_X5_states_151, q_isL_I, q_isL_R, q_isL_S, true_and, and_true, and_self, List.length_nil, List.length_cons, Nat.zero_add, x_K, x_Kn, Int.reduceToNat, Nat.reduceAdd, Nat.reduceMul, Nat.reduceLeDiff, Nat.reduceLT, Nat.zero_le, Int.reduceAdd, Int.reduceSub, Int.reduceMul, Int.reduceNeg, q_add_e, q_sub_e, q_mul_e, q_neg_e, q_upd_s, q_upd_n, zr_shr0, zr_shr1, zr_shr2, zr_shr3, zr_shr4, zr_and, zr_dyn8, zr_or, zr_shl, q_cpy_n, y_cpy26]
              exact hq M1 hf
          | succ j ih =>
            intro k hk M1 hf
            have ih2 := ih (k + 1) (by omega)
            have hm := F_mn_le T k
            rw [F_mn, F_ls] at ih2
            rw [b_X5_states_58]
            simp (disch := omega) only [b_X5_states_0, x_loadR_0, x_loadS_0, x_loadI_1, x_storeI_5, x_loadI_5, y_if_eq_t, y_if_eq_f, b_X5_states_12, x_ret0, b_X5_states_15, x_loadI_2, y_if_ne_t, y_if_ne_f, b_X5_states_23, x_iconst, b_X5_states_26, x_loadI_3, y_if_lt_t, y_if_lt_f, b_X5_states_30, y_ic_gt_t, y_ic_gt_f, b_X5_states_35, x_loadI_4, b_X5_states_40, y_ic_le_t, y_ic_le_f, b_X5_states_46, b_X5_states_49, x_storeI_6, x_storeI_7, x_storeI_8, x_loadI_8, b_X5_states_65, f_5_4, f_5_3, b_X5_states_80, f_4_6, y_iast_26, x_goto, b_X5_states_94, f_4_7, b_X5_states_105, y_ic_ne_t, y_ic_ne_f, b_X5_states_115, x_iinc_6, x_loadI_7, b_X5_states_124, b_X5_states_129, b_X5_states_131, b_X5_states_133, x_iinc_8, b_X5_states_139, b_X5_states_144, x_loadI_6, b_X5_states_149, b_X5_states_151, q_isL_I, q_isL_R, q_isL_S, true_and, and_true, and_self, List.length_nil, List.length_cons, Nat.zero_add, x_K, x_Kn, Int.reduceToNat, Nat.reduceAdd, Nat.reduceMul, Nat.reduceLeDiff, Nat.reduceLT, Nat.zero_le, Int.reduceAdd, Int.reduceSub, Int.reduceMul, Int.reduceNeg, q_add_e, q_sub_e, q_mul_e, q_neg_e, q_upd_s, q_upd_n, zr_shr0, zr_shr1, zr_shr2, zr_shr3, zr_shr4, zr_and, zr_dyn8, zr_or, zr_shl, q_cpy_n, y_cpy26, c_X4_copyFrom]
            refine sp_think C hf (fun M2 h2 => ?_)
            obtain ⟨t1, t2, t3, t4, t5, t6⟩ := h2
            rcases (show so = 0 ∨ so = 1 by omega) with e | e
            · subst e
              simp (disch := omega) only [b_X5_states_0, x_loadR_0, x_loadS_0, x_loadI_1, x_storeI_5, x_loadI_5, y_if_eq_t, y_if_eq_f, b_X5_states_12, x_ret0, b_X5_states_15, x_loadI_2, y_if_ne_t, y_if_ne_f, b_X5_states_23, x_iconst, b_X5_states_26, x_loadI_3, y_if_lt_t, y_if_lt_f, b_X5_states_30, y_ic_gt_t, y_ic_gt_f, b_X5_states_35, x_loadI_4, b_X5_states_40, y_ic_le_t, y_ic_le_f, b_X5_states_46, b_X5_states_49, x_storeI_6, x_storeI_7, x_storeI_8, x_loadI_8, b_X5_states_65, f_5_4, f_5_3, b_X5_states_80, f_4_6, y_iast_26, x_goto, b_X5_states_94, f_4_7, b_X5_states_105, y_ic_ne_t, y_ic_ne_f, b_X5_states_115, x_iinc_6, x_loadI_7, b_X5_states_124, b_X5_states_129, b_X5_states_131, b_X5_states_133, x_iinc_8, b_X5_states_139, b_X5_states_144, x_loadI_6, b_X5_states_149, b_X5_states_151, q_isL_I, q_isL_R, q_isL_S, true_and, and_true, and_self, List.length_nil, List.length_cons, Nat.zero_add, x_K, x_Kn, Int.reduceToNat, Nat.reduceAdd, Nat.reduceMul, Nat.reduceLeDiff, Nat.reduceLT, Nat.zero_le, Int.reduceAdd, Int.reduceSub, Int.reduceMul, Int.reduceNeg, q_add_e, q_sub_e, q_mul_e, q_neg_e, q_upd_s, q_upd_n, zr_shr0, zr_shr1, zr_shr2, zr_shr3, zr_shr4, zr_and, zr_dyn8, zr_or, zr_shl, q_cpy_n, y_cpy26, c_X5_firstOtherwise, Int.toNat_natCast]
              refine sp_fo2 (V := V) (ta := ta) C (by omega) sz (by omega) C.1 (q_wl_up t1 (by omega)) (q_z5_eq (fun a q1 q2 => q_upd_n (by omega)) t3) ((q_upd_n (by omega)).trans t4) ((q_upd_n (by omega)).trans t5) (q_tq_up t6 (by omega) (by omega) (by omega)) (fun M3 h3 => ?_)
              have eT : q_foA V M (cW (q_upd M2 62 N k) 38) S N = T k := by rw [← hT, ← t2]; exact congrArg (fun S2 => q_foA V M S2 S N) (cW_up2 (w := 38) (M := M2) (by rw [t5]; omega))
              rw [eT]
              by_cases c : T k = -1
              · rw [if_pos c] at ih2
                by_cases c5 : F_ls T k = -1
                · rw [if_pos ⟨c, c5⟩] at ih2
                  simp (disch := omega) only [b_X5_states_0, x_loadR_0, x_loadS_0, x_loadI_1, x_storeI_5, x_loadI_5, y_if_eq_t, y_if_eq_f, b_X5_states_12, x_ret0, b_X5_states_15, x_loadI_2, y_if_ne_t, y_if_ne_f, b_X5_states_23, x_iconst, b_X5_states_26, x_loadI_3, y_if_lt_t, y_if_lt_f, b_X5_states_30, y_ic_gt_t, y_ic_gt_f, b_X5_states_35, x_loadI_4, b_X5_states_40, y_ic_le_t, y_ic_le_f, b_X5_states_46, b_X5_states_49, x_storeI_6, x_storeI_7, x_storeI_8, x_loadI_8, b_X5_states_65, f_5_4, f_5_3, b_X5_states_80, f_4_6, y_iast_26, x_goto, b_X5_states_94, f_4_7, b_X5_states_105, y_ic_ne_t, y_ic_ne_f, b_X5_states_115, x_iinc_6, x_loadI_7, b_X5_states_124, b_X5_states_129, b_X5_states_131, b_X5_states_133, x_iinc_8, b_X5_states_139, b_X5_states_144, x_loadI_6, b_X5_states_149, b_X5_states_151, q_isL_I, q_isL_R, q_isL_S, true_and, and_true, and_self, List.length_nil, List.length_cons, Nat.zero_add, x_K, x_Kn, Int.reduceToNat, Nat.reduceAdd, Nat.reduceMul, Nat.reduceLeDiff, Nat.reduceLT, Nat.zero_le, Int.reduceAdd, Int.reduceSub, Int.reduceMul, Int.reduceNeg, q_add_e, q_sub_e, q_mul_e, q_neg_e, q_upd_s, q_upd_n, zr_shr0, zr_shr1, zr_shr2, zr_shr3, zr_shr4, zr_and, zr_dyn8, zr_or, zr_shl, q_cpy_n, y_cpy26]
                  exact ih2 M3 h3
                · rw [if_neg (fun z => c5 z.2)] at ih2
                  simp (disch := omega) only [b_X5_states_0, x_loadR_0, x_loadS_0, x_loadI_1, x_storeI_5, x_loadI_5, y_if_eq_t, y_if_eq_f, b_X5_states_12, x_ret0, b_X5_states_15, x_loadI_2, y_if_ne_t, y_if_ne_f, b_X5_states_23, x_iconst, b_X5_states_26, x_loadI_3, y_if_lt_t, y_if_lt_f, b_X5_states_30, y_ic_gt_t, y_ic_gt_f, b_X5_states_35, x_loadI_4, b_X5_states_40, y_ic_le_t, y_ic_le_f, b_X5_states_46, b_X5_states_49, x_storeI_6, x_storeI_7, x_storeI_8, x_loadI_8, b_X5_states_65, f_5_4, f_5_3, b_X5_states_80, f_4_6, y_iast_26, x_goto, b_X5_states_94, f_4_7, b_X5_states_105, y_ic_ne_t, y_ic_ne_f, b_X5_states_115, x_iinc_6, x_loadI_7, b_X5_states_124, b_X5_states_129, b_X5_states_131, b_X5_states_133, x_iinc_8, b_X5_states_139, b_X5_states_144, x_loadI_6, b_X5_states_149, b_X5_states_151, q_isL_I, q_isL_R, q_isL_S, true_and, and_true, and_self, List.length_nil, List.length_cons, Nat.zero_add, x_K, x_Kn, Int.reduceToNat, Nat.reduceAdd, Nat.reduceMul, Nat.reduceLeDiff, Nat.reduceLT, Nat.zero_le, Int.reduceAdd, Int.reduceSub, Int.reduceMul, Int.reduceNeg, q_add_e, q_sub_e, q_mul_e, q_neg_e, q_upd_s, q_upd_n, zr_shr0, zr_shr1, zr_shr2, zr_shr3, zr_shr4, zr_and, zr_dyn8, zr_or, zr_shl, q_cpy_n, y_cpy26]
                  exact ih2 M3 h3
              · rw [if_neg c, if_neg (fun z => c z.1), Int.add_zero] at ih2
                simp (disch := omega) only [b_X5_states_0, x_loadR_0, x_loadS_0, x_loadI_1, x_storeI_5, x_loadI_5, y_if_eq_t, y_if_eq_f, b_X5_states_12, x_ret0, b_X5_states_15, x_loadI_2, y_if_ne_t, y_if_ne_f, b_X5_states_23, x_iconst, b_X5_states_26, x_loadI_3, y_if_lt_t, y_if_lt_f, b_X5_states_30, y_ic_gt_t, y_ic_gt_f, b_X5_states_35, x_loadI_4, b_X5_states_40, y_ic_le_t, y_ic_le_f, b_X5_states_46, b_X5_states_49, x_storeI_6, x_storeI_7, x_storeI_8, x_loadI_8, b_X5_states_65, f_5_4, f_5_3, b_X5_states_80, f_4_6, y_iast_26, x_goto, b_X5_states_94, f_4_7, b_X5_states_105, y_ic_ne_t, y_ic_ne_f, b_X5_states_115, x_iinc_6, x_loadI_7, b_X5_states_124, b_X5_states_129, b_X5_states_131, b_X5_states_133, x_iinc_8, b_X5_states_139, b_X5_states_144, x_loadI_6, b_X5_states_149, b_X5_states_151, q_isL_I, q_isL_R, q_isL_S, true_and, and_true, and_self, List.length_nil, List.length_cons, Nat.zero_add, x_K, x_Kn, Int.reduceToNat, Nat.reduceAdd, Nat.reduceMul, Nat.reduceLeDiff, Nat.reduceLT, Nat.zero_le, Int.reduceAdd, Int.reduceSub, Int.reduceMul, Int.reduceNeg, q_add_e, q_sub_e, q_mul_e, q_neg_e, q_upd_s, q_upd_n, zr_shr0, zr_shr1, zr_shr2, zr_shr3, zr_shr4, zr_and, zr_dyn8, zr_or, zr_shl, q_cpy_n, y_cpy26]
                exact ih2 M3 h3
            · subst e
              simp (disch := omega) only [b_X5_states_0, x_loadR_0, x_loadS_0, x_loadI_1, x_storeI_5, x_loadI_5, y_if_eq_t, y_if_eq_f, b_X5_states_12, x_ret0, b_X5_states_15, x_loadI_2, y_if_ne_t, y_if_ne_f, b_X5_states_23, x_iconst, b_X5_states_26, x_loadI_3, y_if_lt_t, y_if_lt_f, b_X5_states_30, y_ic_gt_t, y_ic_gt_f, b_X5_states_35, x_loadI_4, b_X5_states_40, y_ic_le_t, y_ic_le_f, b_X5_states_46, b_X5_states_49, x_storeI_6, x_storeI_7, x_storeI_8, x_loadI_8, b_X5_states_65, f_5_4, f_5_3, b_X5_states_80, f_4_6, y_iast_26, x_goto, b_X5_states_94, f_4_7, b_X5_states_105, y_ic_ne_t, y_ic_ne_f, b_X5_states_115, x_iinc_6, x_loadI_7, b_X5_states_124, b_X5_states_129, b_X5_states_131, b_X5_states_133, x_iinc_8, b_X5_states_139, b_X5_states_144, x_loadI_6, b_X5_states_149, b_X5_states_151, q_isL_I, q_isL_R, q_isL_S, true_and, and_true, and_self, List.length_nil, List.length_cons, Nat.zero_add, x_K, x_Kn, Int.reduceToNat, Nat.reduceAdd, Nat.reduceMul, Nat.reduceLeDiff, Nat.reduceLT, Nat.zero_le, Int.reduceAdd, Int.reduceSub, Int.reduceMul, Int.reduceNeg, q_add_e, q_sub_e, q_mul_e, q_neg_e, q_upd_s, q_upd_n, zr_shr0, zr_shr1, zr_shr2, zr_shr3, zr_shr4, zr_and, zr_dyn8, zr_or, zr_shl, q_cpy_n, y_cpy26, c_X5_firstOtherwise, Int.toNat_natCast]
              refine sp_fo2 (V := V) (ta := ta) C (by omega) sz (by omega) C.1 (q_wl_up2 t1 (by omega)) (q_z5_eq (fun a q1 q2 => q_upd_n (by omega)) t3) ((q_upd_n (by omega)).trans t4) ((q_upd_n (by omega)).trans t5) (q_tq_up t6 (by omega) (by omega) (by omega)) (fun M3 h3 => ?_)
              have eT : q_foA V M (cW (q_upd M2 63 N k) 38) S N = T k := by rw [← hT, ← t2]; exact congrArg (fun S2 => q_foA V M S2 S N) (cW_up3 (w := 38) (M := M2) (by rw [t5]; omega))
              rw [eT]
              by_cases c : T k = -1
              · rw [if_pos c] at ih2
                by_cases c5 : F_ls T k = -1
                · rw [if_pos ⟨c, c5⟩] at ih2
                  simp (disch := omega) only [b_X5_states_0, x_loadR_0, x_loadS_0, x_loadI_1, x_storeI_5, x_loadI_5, y_if_eq_t, y_if_eq_f, b_X5_states_12, x_ret0, b_X5_states_15, x_loadI_2, y_if_ne_t, y_if_ne_f, b_X5_states_23, x_iconst, b_X5_states_26, x_loadI_3, y_if_lt_t, y_if_lt_f, b_X5_states_30, y_ic_gt_t, y_ic_gt_f, b_X5_states_35, x_loadI_4, b_X5_states_40, y_ic_le_t, y_ic_le_f, b_X5_states_46, b_X5_states_49, x_storeI_6, x_storeI_7, x_storeI_8, x_loadI_8, b_X5_states_65, f_5_4, f_5_3, b_X5_states_80, f_4_6, y_iast_26, x_goto, b_X5_states_94, f_4_7, b_X5_states_105, y_ic_ne_t, y_ic_ne_f, b_X5_states_115, x_iinc_6, x_loadI_7, b_X5_states_124, b_X5_states_129, b_X5_states_131, b_X5_states_133, x_iinc_8, b_X5_states_139, b_X5_states_144, x_loadI_6, b_X5_states_149, b_X5_states_151, q_isL_I, q_isL_R, q_isL_S, true_and, and_true, and_self, List.length_nil, List.length_cons, Nat.zero_add, x_K, x_Kn, Int.reduceToNat, Nat.reduceAdd, Nat.reduceMul, Nat.reduceLeDiff, Nat.reduceLT, Nat.zero_le, Int.reduceAdd, Int.reduceSub, Int.reduceMul, Int.reduceNeg, q_add_e, q_sub_e, q_mul_e, q_neg_e, q_upd_s, q_upd_n, zr_shr0, zr_shr1, zr_shr2, zr_shr3, zr_shr4, zr_and, zr_dyn8, zr_or, zr_shl, q_cpy_n, y_cpy26]
                  exact ih2 M3 h3
                · rw [if_neg (fun z => c5 z.2)] at ih2
                  simp (disch := omega) only [b_X5_states_0, x_loadR_0, x_loadS_0, x_loadI_1, x_storeI_5, x_loadI_5, y_if_eq_t, y_if_eq_f, b_X5_states_12, x_ret0, b_X5_states_15, x_loadI_2, y_if_ne_t, y_if_ne_f, b_X5_states_23, x_iconst, b_X5_states_26, x_loadI_3, y_if_lt_t, y_if_lt_f, b_X5_states_30, y_ic_gt_t, y_ic_gt_f, b_X5_states_35, x_loadI_4, b_X5_states_40, y_ic_le_t, y_ic_le_f, b_X5_states_46, b_X5_states_49, x_storeI_6, x_storeI_7, x_storeI_8, x_loadI_8, b_X5_states_65, f_5_4, f_5_3, b_X5_states_80, f_4_6, y_iast_26, x_goto, b_X5_states_94, f_4_7, b_X5_states_105, y_ic_ne_t, y_ic_ne_f, b_X5_states_115, x_iinc_6, x_loadI_7, b_X5_states_124, b_X5_states_129, b_X5_states_131, b_X5_states_133, x_iinc_8, b_X5_states_139, b_X5_states_144, x_loadI_6, b_X5_states_149, b_X5_states_151, q_isL_I, q_isL_R, q_isL_S, true_and, and_true, and_self, List.length_nil, List.length_cons, Nat.zero_add, x_K, x_Kn, Int.reduceToNat, Nat.reduceAdd, Nat.reduceMul, Nat.reduceLeDiff, Nat.reduceLT, Nat.zero_le, Int.reduceAdd, Int.reduceSub, Int.reduceMul, Int.reduceNeg, q_add_e, q_sub_e, q_mul_e, q_neg_e, q_upd_s, q_upd_n, zr_shr0, zr_shr1, zr_shr2, zr_shr3, zr_shr4, zr_and, zr_dyn8, zr_or, zr_shl, q_cpy_n, y_cpy26]
                  exact ih2 M3 h3
              · rw [if_neg c, if_neg (fun z => c z.1), Int.add_zero] at ih2
                simp (disch := omega) only [b_X5_states_0, x_loadR_0, x_loadS_0, x_loadI_1, x_storeI_5, x_loadI_5, y_if_eq_t, y_if_eq_f, b_X5_states_12, x_ret0, b_X5_states_15, x_loadI_2, y_if_ne_t, y_if_ne_f, b_X5_states_23, x_iconst, b_X5_states_26, x_loadI_3, y_if_lt_t, y_if_lt_f, b_X5_states_30, y_ic_gt_t, y_ic_gt_f, b_X5_states_35, x_loadI_4, b_X5_states_40, y_ic_le_t, y_ic_le_f, b_X5_states_46, b_X5_states_49, x_storeI_6, x_storeI_7, x_storeI_8, x_loadI_8, b_X5_states_65, f_5_4, f_5_3, b_X5_states_80, f_4_6, y_iast_26, x_goto, b_X5_states_94, f_4_7, b_X5_states_105, y_ic_ne_t, y_ic_ne_f, b_X5_states_115, x_iinc_6, x_loadI_7, b_X5_states_124, b_X5_states_129, b_X5_states_131, b_X5_states_133, x_iinc_8, b_X5_states_139, b_X5_states_144, x_loadI_6, b_X5_states_149, b_X5_states_151, q_isL_I, q_isL_R, q_isL_S, true_and, and_true, and_self, List.length_nil, List.length_cons, Nat.zero_add, x_K, x_Kn, Int.reduceToNat, Nat.reduceAdd, Nat.reduceMul, Nat.reduceLeDiff, Nat.reduceLT, Nat.zero_le, Int.reduceAdd, Int.reduceSub, Int.reduceMul, Int.reduceNeg, q_add_e, q_sub_e, q_mul_e, q_neg_e, q_upd_s, q_upd_n, zr_shr0, zr_shr1, zr_shr2, zr_shr3, zr_shr4, zr_and, zr_dyn8, zr_or, zr_shl, q_cpy_n, y_cpy26]
                exact ih2 M3 h3
        simp (disch := omega) only [b_X5_states_0, x_loadR_0, x_loadS_0, x_loadI_1, x_storeI_5, x_loadI_5, y_if_eq_t, y_if_eq_f, b_X5_states_12, x_ret0, b_X5_states_15, x_loadI_2, y_if_ne_t, y_if_ne_f, b_X5_states_23, x_iconst, b_X5_states_26, x_loadI_3, y_if_lt_t, y_if_lt_f, b_X5_states_30, y_ic_gt_t, y_ic_gt_f, b_X5_states_35, x_loadI_4, b_X5_states_40, y_ic_le_t, y_ic_le_f, b_X5_states_46, b_X5_states_49, x_storeI_6, x_storeI_7, x_storeI_8, x_loadI_8, b_X5_states_65, f_5_4, f_5_3, b_X5_states_80, f_4_6, y_iast_26, x_goto, b_X5_states_94, f_4_7, b_X5_states_105, y_ic_ne_t, y_ic_ne_f, b_X5_states_115, x_iinc_6, x_loadI_7, b_X5_states_124, b_X5_states_129, b_X5_states_131, b_X5_states_133, x_iinc_8, b_X5_states_139, b_X5_states_144, x_loadI_6, b_X5_states_149, b_X5_states_151, q_isL_I, q_isL_R, q_isL_S, true_and, and_true, and_self, List.length_nil, List.length_cons, Nat.zero_add, x_K, x_Kn, Int.reduceToNat, Nat.reduceAdd, Nat.reduceMul, Nat.reduceLeDiff, Nat.reduceLT, Nat.zero_le, Int.reduceAdd, Int.reduceSub, Int.reduceMul, Int.reduceNeg, q_add_e, q_sub_e, q_mul_e, q_neg_e, q_upd_s, q_upd_n, zr_shr0, zr_shr1, zr_shr2, zr_shr3, zr_shr4, zr_and, zr_dyn8, zr_or, zr_shl, q_cpy_n, y_cpy26, c_X5_refusalOfTold, sp_refusal, c_X5_isStone, sp_isStone, c2, and_self, if_true]
        exact loop 100 0 rfl M q_tq_rf
      · rw [if_pos c3] at hq
        rcases (show so < 0 ∨ 1 < so ∨ (0 ≤ so ∧ so ≤ 1 ∧ wt < 0) ∨ (0 ≤ so ∧ so ≤ 1 ∧ 1 < wt) by omega) with e | e | e | e
        · simp (disch := omega) only [b_X5_states_0, x_loadR_0, x_loadS_0, x_loadI_1, x_storeI_5, x_loadI_5, y_if_eq_t, y_if_eq_f, b_X5_states_12, x_ret0, b_X5_states_15, x_loadI_2, y_if_ne_t, y_if_ne_f, b_X5_states_23, x_iconst, b_X5_states_26, x_loadI_3, y_if_lt_t, y_if_lt_f, b_X5_states_30, y_ic_gt_t, y_ic_gt_f, b_X5_states_35, x_loadI_4, b_X5_states_40, y_ic_le_t, y_ic_le_f, b_X5_states_46, b_X5_states_49, x_storeI_6, x_storeI_7, x_storeI_8, x_loadI_8, b_X5_states_65, f_5_4, f_5_3, b_X5_states_80, f_4_6, y_iast_26, x_goto, b_X5_states_94, f_4_7, b_X5_states_105, y_ic_ne_t, y_ic_ne_f, b_X5_states_115, x_iinc_6, x_loadI_7, b_X5_states_124, b_X5_states_129, b_X5_states_131, b_X5_states_133, x_iinc_8, b_X5_states_139, b_X5_states_144, x_loadI_6, b_X5_states_149, b_X5_states_151, q_isL_I, q_isL_R, q_isL_S, true_and, and_true, and_self, List.length_nil, List.length_cons, Nat.zero_add, x_K, x_Kn, Int.reduceToNat, Nat.reduceAdd, Nat.reduceMul, Nat.reduceLeDiff, Nat.reduceLT, Nat.zero_le, Int.reduceAdd, Int.reduceSub, Int.reduceMul, Int.reduceNeg, q_add_e, q_sub_e, q_mul_e, q_neg_e, q_upd_s, q_upd_n, zr_shr0, zr_shr1, zr_shr2, zr_shr3, zr_shr4, zr_and, zr_dyn8, zr_or, zr_shl, q_cpy_n, y_cpy26, c_X5_refusalOfTold, sp_refusal, c_X5_isStone, sp_isStone, c2, and_self, if_true]
          exact hq M q_tq_rf
        · simp (disch := omega) only [b_X5_states_0, x_loadR_0, x_loadS_0, x_loadI_1, x_storeI_5, x_loadI_5, y_if_eq_t, y_if_eq_f, b_X5_states_12, x_ret0, b_X5_states_15, x_loadI_2, y_if_ne_t, y_if_ne_f, b_X5_states_23, x_iconst, b_X5_states_26, x_loadI_3, y_if_lt_t, y_if_lt_f, b_X5_states_30, y_ic_gt_t, y_ic_gt_f, b_X5_states_35, x_loadI_4, b_X5_states_40, y_ic_le_t, y_ic_le_f, b_X5_states_46, b_X5_states_49, x_storeI_6, x_storeI_7, x_storeI_8, x_loadI_8, b_X5_states_65, f_5_4, f_5_3, b_X5_states_80, f_4_6, y_iast_26, x_goto, b_X5_states_94, f_4_7, b_X5_states_105, y_ic_ne_t, y_ic_ne_f, b_X5_states_115, x_iinc_6, x_loadI_7, b_X5_states_124, b_X5_states_129, b_X5_states_131, b_X5_states_133, x_iinc_8, b_X5_states_139, b_X5_states_144, x_loadI_6, b_X5_states_149, b_X5_states_151, q_isL_I, q_isL_R, q_isL_S, true_and, and_true, and_self, List.length_nil, List.length_cons, Nat.zero_add, x_K, x_Kn, Int.reduceToNat, Nat.reduceAdd, Nat.reduceMul, Nat.reduceLeDiff, Nat.reduceLT, Nat.zero_le, Int.reduceAdd, Int.reduceSub, Int.reduceMul, Int.reduceNeg, q_add_e, q_sub_e, q_mul_e, q_neg_e, q_upd_s, q_upd_n, zr_shr0, zr_shr1, zr_shr2, zr_shr3, zr_shr4, zr_and, zr_dyn8, zr_or, zr_shl, q_cpy_n, y_cpy26, c_X5_refusalOfTold, sp_refusal, c_X5_isStone, sp_isStone, c2, and_self, if_true]
          exact hq M q_tq_rf
        · simp (disch := omega) only [b_X5_states_0, x_loadR_0, x_loadS_0, x_loadI_1, x_storeI_5, x_loadI_5, y_if_eq_t, y_if_eq_f, b_X5_states_12, x_ret0, b_X5_states_15, x_loadI_2, y_if_ne_t, y_if_ne_f, b_X5_states_23, x_iconst, b_X5_states_26, x_loadI_3, y_if_lt_t, y_if_lt_f, b_X5_states_30, y_ic_gt_t, y_ic_gt_f, b_X5_states_35, x_loadI_4, b_X5_states_40, y_ic_le_t, y_ic_le_f, b_X5_states_46, b_X5_states_49, x_storeI_6, x_storeI_7, x_storeI_8, x_loadI_8, b_X5_states_65, f_5_4, f_5_3, b_X5_states_80, f_4_6, y_iast_26, x_goto, b_X5_states_94, f_4_7, b_X5_states_105, y_ic_ne_t, y_ic_ne_f, b_X5_states_115, x_iinc_6, x_loadI_7, b_X5_states_124, b_X5_states_129, b_X5_states_131, b_X5_states_133, x_iinc_8, b_X5_states_139, b_X5_states_144, x_loadI_6, b_X5_states_149, b_X5_states_151, q_isL_I, q_isL_R, q_isL_S, true_and, and_true, and_self, List.length_nil, List.length_cons, Nat.zero_add, x_K, x_Kn, Int.reduceToNat, Nat.reduceAdd, Nat.reduceMul, Nat.reduceLeDiff, Nat.reduceLT, Nat.zero_le, Int.reduceAdd, Int.reduceSub, Int.reduceMul, Int.reduceNeg, q_add_e, q_sub_e, q_mul_e, q_neg_e, q_upd_s, q_upd_n, zr_shr0, zr_shr1, zr_shr2, zr_shr3, zr_shr4, zr_and, zr_dyn8, zr_or, zr_shl, q_cpy_n, y_cpy26, c_X5_refusalOfTold, sp_refusal, c_X5_isStone, sp_isStone, c2, and_self, if_true]
          exact hq M q_tq_rf
        · simp (disch := omega) only [b_X5_states_0, x_loadR_0, x_loadS_0, x_loadI_1, x_storeI_5, x_loadI_5, y_if_eq_t, y_if_eq_f, b_X5_states_12, x_ret0, b_X5_states_15, x_loadI_2, y_if_ne_t, y_if_ne_f, b_X5_states_23, x_iconst, b_X5_states_26, x_loadI_3, y_if_lt_t, y_if_lt_f, b_X5_states_30, y_ic_gt_t, y_ic_gt_f, b_X5_states_35, x_loadI_4, b_X5_states_40, y_ic_le_t, y_ic_le_f, b_X5_states_46, b_X5_states_49, x_storeI_6, x_storeI_7, x_storeI_8, x_loadI_8, b_X5_states_65, f_5_4, f_5_3, b_X5_states_80, f_4_6, y_iast_26, x_goto, b_X5_states_94, f_4_7, b_X5_states_105, y_ic_ne_t, y_ic_ne_f, b_X5_states_115, x_iinc_6, x_loadI_7, b_X5_states_124, b_X5_states_129, b_X5_states_131, b_X5_states_133, x_iinc_8, b_X5_states_139, b_X5_states_144, x_loadI_6, b_X5_states_149, b_X5_states_151, q_isL_I, q_isL_R, q_isL_S, true_and, and_true, and_self, List.length_nil, List.length_cons, Nat.zero_add, x_K, x_Kn, Int.reduceToNat, Nat.reduceAdd, Nat.reduceMul, Nat.reduceLeDiff, Nat.reduceLT, Nat.zero_le, Int.reduceAdd, Int.reduceSub, Int.reduceMul, Int.reduceNeg, q_add_e, q_sub_e, q_mul_e, q_neg_e, q_upd_s, q_upd_n, zr_shr0, zr_shr1, zr_shr2, zr_shr3, zr_shr4, zr_and, zr_dyn8, zr_or, zr_shl, q_cpy_n, y_cpy26, c_X5_refusalOfTold, sp_refusal, c_X5_isStone, sp_isStone, c2, and_self, if_true]
          exact hq M q_tq_rf
    · rw [if_pos c2] at hq
      simp (disch := omega) only [b_X5_states_0, x_loadR_0, x_loadS_0, x_loadI_1, x_storeI_5, x_loadI_5, y_if_eq_t, y_if_eq_f, b_X5_states_12, x_ret0, b_X5_states_15, x_loadI_2, y_if_ne_t, y_if_ne_f, b_X5_states_23, x_iconst, b_X5_states_26, x_loadI_3, y_if_lt_t, y_if_lt_f, b_X5_states_30, y_ic_gt_t, y_ic_gt_f, b_X5_states_35, x_loadI_4, b_X5_states_40, y_ic_le_t, y_ic_le_f, b_X5_states_46, b_X5_states_49, x_storeI_6, x_storeI_7, x_storeI_8, x_loadI_8, b_X5_states_65, f_5_4, f_5_3, b_X5_states_80, f_4_6, y_iast_26, x_goto, b_X5_states_94, f_4_7, b_X5_states_105, y_ic_ne_t, y_ic_ne_f, b_X5_states_115, x_iinc_6, x_loadI_7, b_X5_states_124, b_X5_states_129, b_X5_states_131, b_X5_states_133, x_iinc_8, b_X5_states_139, b_X5_states_144, x_loadI_6, b_X5_states_149, b_X5_states_151, q_isL_I, q_isL_R, q_isL_S, true_and, and_true, and_self, List.length_nil, List.length_cons, Nat.zero_add, x_K, x_Kn, Int.reduceToNat, Nat.reduceAdd, Nat.reduceMul, Nat.reduceLeDiff, Nat.reduceLT, Nat.zero_le, Int.reduceAdd, Int.reduceSub, Int.reduceMul, Int.reduceNeg, q_add_e, q_sub_e, q_mul_e, q_neg_e, q_upd_s, q_upd_n, zr_shr0, zr_shr1, zr_shr2, zr_shr3, zr_shr4, zr_and, zr_dyn8, zr_or, zr_shl, q_cpy_n, y_cpy26, c_X5_refusalOfTold, sp_refusal, c_X5_isStone, sp_isStone, c2, if_false]
      exact hq M q_tq_rf
  · rw [if_pos c1] at hq
    simp (disch := omega) only [b_X5_states_0, x_loadR_0, x_loadS_0, x_loadI_1, x_storeI_5, x_loadI_5, y_if_eq_t, y_if_eq_f, b_X5_states_12, x_ret0, b_X5_states_15, x_loadI_2, y_if_ne_t, y_if_ne_f, b_X5_states_23, x_iconst, b_X5_states_26, x_loadI_3, y_if_lt_t, y_if_lt_f, b_X5_states_30, y_ic_gt_t, y_ic_gt_f, b_X5_states_35, x_loadI_4, b_X5_states_40, y_ic_le_t, y_ic_le_f, b_X5_states_46, b_X5_states_49, x_storeI_6, x_storeI_7, x_storeI_8, x_loadI_8, b_X5_states_65, f_5_4, f_5_3, b_X5_states_80, f_4_6, y_iast_26, x_goto, b_X5_states_94, f_4_7, b_X5_states_105, y_ic_ne_t, y_ic_ne_f, b_X5_states_115, x_iinc_6, x_loadI_7, b_X5_states_124, b_X5_states_129, b_X5_states_131, b_X5_states_133, x_iinc_8, b_X5_states_139, b_X5_states_144, x_loadI_6, b_X5_states_149, b_X5_states_151, q_isL_I, q_isL_R, q_isL_S, true_and, and_true, and_self, List.length_nil, List.length_cons, Nat.zero_add, x_K, x_Kn, Int.reduceToNat, Nat.reduceAdd, Nat.reduceMul, Nat.reduceLeDiff, Nat.reduceLT, Nat.zero_le, Int.reduceAdd, Int.reduceSub, Int.reduceMul, Int.reduceNeg, q_add_e, q_sub_e, q_mul_e, q_neg_e, q_upd_s, q_upd_n, zr_shr0, zr_shr1, zr_shr2, zr_shr3, zr_shr4, zr_and, zr_dyn8, zr_or, zr_shl, q_cpy_n, y_cpy26, c_X5_refusalOfTold, sp_refusal]
    exact hq M q_tq_rf
end
section
/-! THE CLASS'S ENTRIES: whose, laws -/
def A_whose (V : Nat → (Nat → Int) → Int) (M : q_M) (s : Int) : Int := if q_rfA M s ≠ 0 then q_rfA M s else F_set (fun k => q_foA V M (cW M 11) s.toNat k) (M 12 5).toNat
set_option maxHeartbeats 4000000 in
theorem sp_whose {V : Nat → (Nat → Int) → Int} {d : Nat} {g : q_G} {M : q_M} {ta : Nat} {s : Int} {Q : Option q_V → q_G → q_M → Prop} (C : q_ci V M ta) (hq : ∀ M2 : q_M, q_tq M M2 → Q (some (qI (A_whose V M s))) g M2) : q_S 1 (d + 6) 86 [qR 5 0, qI s] g M Q := by
  have h12 := q_ci_n C
  rw [s_X5_whose]
  unfold A_whose at hq
  by_cases c1 : q_rfA M s = 0
  · rw [if_neg (fun z => z c1)] at hq
    obtain ⟨⟨s0, s4⟩, sz⟩ := q_rfA_0 c1
    obtain ⟨S, rfl⟩ : ∃ S : Nat, s = S := ⟨s.toNat, by omega⟩
    simp only [Int.toNat_natCast] at hq sz
    generalize hT : (fun k : Nat => q_foA V M (cW M 11) S k) = T at hq
    have loop : ∀ j k : Nat, k + j = (M 12 5).toNat → ∀ M1 : q_M, q_tq M M1 → q_T 1 (d + 6) qP_X5_whose 17 [] [qR 5 0, qI S, qI (q_rfA M S), qI (F_set T k), qI k] [] g M1 Q := by
      intro j
      induction j with
      | zero =>
        intro k hk M1 hf
        have e5 : M1 12 5 = M 12 5 := hf 12 5 (by omega) (by omega) (by omega) (by omega)
        have e : k = (M 12 5).toNat := by omega
        rw [← e] at hq
        rw [b_X5_whose_17]
        simp (disch := omega) only [b_X5_whose_0, x_loadR_0, x_loadS_0, x_loadI_1, x_storeI_2, x_loadI_2, y_if_eq_t, y_if_eq_f, b_X5_whose_10, x_ret0, b_X5_whose_12, x_iconst, x_storeI_3, x_storeI_4, x_loadI_4, f_5_3, f_4_0, f_0_5, y_ic_ge_t, y_ic_ge_f, b_X5_whose_32, f_5_4, y_ic_ne_t, y_ic_ne_f, b_X5_whose_54, x_loadI_3, x_ishl, x_ior, b_X5_whose_61, x_iinc_4, x_goto, b_X5_whose_67, q_isL_I, q_isL_R, q_isL_S, true_and, and_true, and_self, List.length_nil, List.length_cons, Nat.zero_add, x_K, x_Kn, Int.reduceToNat, Nat.reduceAdd, Nat.reduceMul, Nat.reduceLeDiff, Nat.reduceLT, Nat.zero_le, Int.reduceAdd, Int.reduceSub, Int.reduceMul, Int.reduceNeg, q_add_e, q_sub_e, q_mul_e, q_neg_e, q_upd_s, q_upd_n, zr_shr0, zr_shr1, zr_shr2, zr_shr3, zr_shr4, zr_and, zr_dyn8, zr_or, zr_shl, q_cpy_n, y_cpy26]
        exact hq M1 hf
      | succ j ih =>
        intro k hk M1 hf
        have e5 : M1 12 5 = M 12 5 := hf 12 5 (by omega) (by omega) (by omega) (by omega)
        have ih2 := ih (k + 1) (by omega)
        rw [F_set] at ih2
        rw [b_X5_whose_17]
        simp (disch := omega) only [b_X5_whose_0, x_loadR_0, x_loadS_0, x_loadI_1, x_storeI_2, x_loadI_2, y_if_eq_t, y_if_eq_f, b_X5_whose_10, x_ret0, b_X5_whose_12, x_iconst, x_storeI_3, x_storeI_4, x_loadI_4, f_5_3, f_4_0, f_0_5, y_ic_ge_t, y_ic_ge_f, b_X5_whose_32, f_5_4, y_ic_ne_t, y_ic_ne_f, b_X5_whose_54, x_loadI_3, x_ishl, x_ior, b_X5_whose_61, x_iinc_4, x_goto, b_X5_whose_67, q_isL_I, q_isL_R, q_isL_S, true_and, and_true, and_self, List.length_nil, List.length_cons, Nat.zero_add, x_K, x_Kn, Int.reduceToNat, Nat.reduceAdd, Nat.reduceMul, Nat.reduceLeDiff, Nat.reduceLT, Nat.zero_le, Int.reduceAdd, Int.reduceSub, Int.reduceMul, Int.reduceNeg, q_add_e, q_sub_e, q_mul_e, q_neg_e, q_upd_s, q_upd_n, zr_shr0, zr_shr1, zr_shr2, zr_shr3, zr_shr4, zr_and, zr_dyn8, zr_or, zr_shl, q_cpy_n, y_cpy26, c_X4_copyFrom]
        refine sp_think C hf (fun M2 h2 => ?_)
        obtain ⟨t1, t2, t3, t4, t5, t6⟩ := h2
        simp (disch := omega) only [b_X5_whose_0, x_loadR_0, x_loadS_0, x_loadI_1, x_storeI_2, x_loadI_2, y_if_eq_t, y_if_eq_f, b_X5_whose_10, x_ret0, b_X5_whose_12, x_iconst, x_storeI_3, x_storeI_4, x_loadI_4, f_5_3, f_4_0, f_0_5, y_ic_ge_t, y_ic_ge_f, b_X5_whose_32, f_5_4, y_ic_ne_t, y_ic_ne_f, b_X5_whose_54, x_loadI_3, x_ishl, x_ior, b_X5_whose_61, x_iinc_4, x_goto, b_X5_whose_67, q_isL_I, q_isL_R, q_isL_S, true_and, and_true, and_self, List.length_nil, List.length_cons, Nat.zero_add, x_K, x_Kn, Int.reduceToNat, Nat.reduceAdd, Nat.reduceMul, Nat.reduceLeDiff, Nat.reduceLT, Nat.zero_le, Int.reduceAdd, Int.reduceSub, Int.reduceMul, Int.reduceNeg, q_add_e, q_sub_e, q_mul_e, q_neg_e, q_upd_s, q_upd_n, zr_shr0, zr_shr1, zr_shr2, zr_shr3, zr_shr4, zr_and, zr_dyn8, zr_or, zr_shl, q_cpy_n, y_cpy26, c_X5_firstOtherwise, Int.toNat_natCast]
        refine sp_fo2 (V := V) (ta := ta) C (by omega) sz (by omega) C.1 t1 t3 t4 t5 t6 (fun M3 h3 => ?_)
        have eT : q_foA V M (cW M2 38) S k = T k := by rw [← hT, ← t2]
        rw [eT]
        by_cases c : T k = -1
        · rw [if_pos c] at ih2
          simp (disch := omega) only [b_X5_whose_0, x_loadR_0, x_loadS_0, x_loadI_1, x_storeI_2, x_loadI_2, y_if_eq_t, y_if_eq_f, b_X5_whose_10, x_ret0, b_X5_whose_12, x_iconst, x_storeI_3, x_storeI_4, x_loadI_4, f_5_3, f_4_0, f_0_5, y_ic_ge_t, y_ic_ge_f, b_X5_whose_32, f_5_4, y_ic_ne_t, y_ic_ne_f, b_X5_whose_54, x_loadI_3, x_ishl, x_ior, b_X5_whose_61, x_iinc_4, x_goto, b_X5_whose_67, q_isL_I, q_isL_R, q_isL_S, true_and, and_true, and_self, List.length_nil, List.length_cons, Nat.zero_add, x_K, x_Kn, Int.reduceToNat, Nat.reduceAdd, Nat.reduceMul, Nat.reduceLeDiff, Nat.reduceLT, Nat.zero_le, Int.reduceAdd, Int.reduceSub, Int.reduceMul, Int.reduceNeg, q_add_e, q_sub_e, q_mul_e, q_neg_e, q_upd_s, q_upd_n, zr_shr0, zr_shr1, zr_shr2, zr_shr3, zr_shr4, zr_and, zr_dyn8, zr_or, zr_shl, q_cpy_n, y_cpy26]
          exact ih2 M3 h3
        · rw [if_neg c] at ih2
          simp (disch := omega) only [b_X5_whose_0, x_loadR_0, x_loadS_0, x_loadI_1, x_storeI_2, x_loadI_2, y_if_eq_t, y_if_eq_f, b_X5_whose_10, x_ret0, b_X5_whose_12, x_iconst, x_storeI_3, x_storeI_4, x_loadI_4, f_5_3, f_4_0, f_0_5, y_ic_ge_t, y_ic_ge_f, b_X5_whose_32, f_5_4, y_ic_ne_t, y_ic_ne_f, b_X5_whose_54, x_loadI_3, x_ishl, x_ior, b_X5_whose_61, x_iinc_4, x_goto, b_X5_whose_67, q_isL_I, q_isL_R, q_isL_S, true_and, and_true, and_self, List.length_nil, List.length_cons, Nat.zero_add, x_K, x_Kn, Int.reduceToNat, Nat.reduceAdd, Nat.reduceMul, Nat.reduceLeDiff, Nat.reduceLT, Nat.zero_le, Int.reduceAdd, Int.reduceSub, Int.reduceMul, Int.reduceNeg, q_add_e, q_sub_e, q_mul_e, q_neg_e, q_upd_s, q_upd_n, zr_shr0, zr_shr1, zr_shr2, zr_shr3, zr_shr4, zr_and, zr_dyn8, zr_or, zr_shl, q_cpy_n, y_cpy26]
          exact ih2 M3 h3
    simp (disch := omega) only [b_X5_whose_0, x_loadR_0, x_loadS_0, x_loadI_1, x_storeI_2, x_loadI_2, y_if_eq_t, y_if_eq_f, b_X5_whose_10, x_ret0, b_X5_whose_12, x_iconst, x_storeI_3, x_storeI_4, x_loadI_4, f_5_3, f_4_0, f_0_5, y_ic_ge_t, y_ic_ge_f, b_X5_whose_32, f_5_4, y_ic_ne_t, y_ic_ne_f, b_X5_whose_54, x_loadI_3, x_ishl, x_ior, b_X5_whose_61, x_iinc_4, x_goto, b_X5_whose_67, q_isL_I, q_isL_R, q_isL_S, true_and, and_true, and_self, List.length_nil, List.length_cons, Nat.zero_add, x_K, x_Kn, Int.reduceToNat, Nat.reduceAdd, Nat.reduceMul, Nat.reduceLeDiff, Nat.reduceLT, Nat.zero_le, Int.reduceAdd, Int.reduceSub, Int.reduceMul, Int.reduceNeg, q_add_e, q_sub_e, q_mul_e, q_neg_e, q_upd_s, q_upd_n, zr_shr0, zr_shr1, zr_shr2, zr_shr3, zr_shr4, zr_and, zr_dyn8, zr_or, zr_shl, q_cpy_n, y_cpy26, c_X5_refusalOfTold, sp_refusal]
    exact loop (M 12 5).toNat 0 (by omega) M q_tq_rf
  · rw [if_pos c1] at hq
    simp (disch := omega) only [b_X5_whose_0, x_loadR_0, x_loadS_0, x_loadI_1, x_storeI_2, x_loadI_2, y_if_eq_t, y_if_eq_f, b_X5_whose_10, x_ret0, b_X5_whose_12, x_iconst, x_storeI_3, x_storeI_4, x_loadI_4, f_5_3, f_4_0, f_0_5, y_ic_ge_t, y_ic_ge_f, b_X5_whose_32, f_5_4, y_ic_ne_t, y_ic_ne_f, b_X5_whose_54, x_loadI_3, x_ishl, x_ior, b_X5_whose_61, x_iinc_4, x_goto, b_X5_whose_67, q_isL_I, q_isL_R, q_isL_S, true_and, and_true, and_self, List.length_nil, List.length_cons, Nat.zero_add, x_K, x_Kn, Int.reduceToNat, Nat.reduceAdd, Nat.reduceMul, Nat.reduceLeDiff, Nat.reduceLT, Nat.zero_le, Int.reduceAdd, Int.reduceSub, Int.reduceMul, Int.reduceNeg, q_add_e, q_sub_e, q_mul_e, q_neg_e, q_upd_s, q_upd_n, zr_shr0, zr_shr1, zr_shr2, zr_shr3, zr_shr4, zr_and, zr_dyn8, zr_or, zr_shl, q_cpy_n, y_cpy26, c_X5_refusalOfTold, sp_refusal]
    exact hq M q_tq_rf
/-- the texts: where they lie, what they say -/
def q_ta (t : Nat) : Nat := if t = 0 then 8 else 121 + 4 * t
def q_txs (Vt : Nat → Nat → (Nat → Int) → Int) (tm : Nat) (M : q_M) : Prop := 1 ≤ tm ∧ tm ≤ 6 ∧ M 0 2 = tm ∧ ∀ t, t < tm → M 5 t = q_ta t ∧ M (q_ta t) 0 = t ∧ q_lawV (Vt t) ∧ q_lawC (Vt t) (q_ta t) M
theorem q_ta_tas {t : Nat} (h : t < 6) : q_tas (q_ta t) := by
  unfold q_tas q_ta
  split <;> omega
theorem q_txs_tq {Vt : Nat → Nat → (Nat → Int) → Int} {tm : Nat} {M M2 : q_M} (h : q_tq M M2) (T : q_txs Vt tm M) : q_txs Vt tm M2 := by
  obtain ⟨h1, h2, h3, h4⟩ := T
  refine ⟨h1, h2, (h 0 2 (by omega) (by omega) (by omega) (by omega)).trans h3, fun t ht => ?_⟩
  obtain ⟨a1, a2, a3, a4⟩ := h4 t ht
  have hta := q_ta_tas (t := t) (by omega)
  unfold q_tas at hta
  exact ⟨(h 5 t (by omega) (by omega) (by omega) (by omega)).trans a1, (h _ 0 (by omega) (by omega) (by omega) (by omega)).trans a2, a3, fun M' hM => a4 M' (fun a i ha => (hM a i ha).trans (h a i (by omega) (by omega) (by omega) (by omega)))⟩
def A_laws (Vt : Nat → Nat → (Nat → Int) → Int) (tm : Nat) (M : q_M) (s p : Int) : Int := if q_rfA M s ≠ 0 then q_rfA M s else if ¬(0 ≤ p ∧ p < M 12 5) then -5 else F_set (fun t => q_foA (Vt t) M (cW M 11) s.toNat p.toNat) tm
set_option maxHeartbeats 4000000 in
theorem sp_laws {V : Nat → (Nat → Int) → Int} {Vt : Nat → Nat → (Nat → Int) → Int} {d tm : Nat} {g : q_G} {M : q_M} {ta : Nat} {s p : Int} {Q : Option q_V → q_G → q_M → Prop} (C : q_ci V M ta) (T : q_txs Vt tm M) (hq : ∀ M2 : q_M, q_tq M M2 → Q (some (qI (A_laws Vt tm M s p))) g M2) : q_S 1 (d + 6) 87 [qR 5 0, qI s, qI p] g M Q := by
  have h12 := q_ci_n C
  have htm := T.1
  have htm6 := T.2.1
  rw [s_X5_laws]
  unfold A_laws at hq
  by_cases c1 : q_rfA M s = 0
  · rw [if_neg (fun z => z c1)] at hq
    by_cases c2 : 0 ≤ p ∧ p < M 12 5
    · rw [if_neg (fun z => z c2)] at hq
      obtain ⟨⟨s0, s4⟩, sz⟩ := q_rfA_0 c1
      obtain ⟨S, rfl⟩ : ∃ S : Nat, s = S := ⟨s.toNat, by omega⟩
      obtain ⟨N, rfl⟩ : ∃ N : Nat, p = N := ⟨p.toNat, by omega⟩
      simp only [Int.toNat_natCast] at hq sz
      generalize hT : (fun t : Nat => q_foA (Vt t) M (cW M 11) S N) = TT at hq
      have loop : ∀ j k : Nat, k + j = tm → ∀ M1 : q_M, q_tq M M1 → q_T 1 (d + 6) qP_X5_laws 29 [] [qR 5 0, qI S, qI N, qI (q_rfA M S), qI (F_set TT k), qI k] [] g M1 Q := by
        intro j
        induction j with
        | zero =>
          intro k hk M1 hf
          have T1 := q_txs_tq hf T
          have e2 : M1 0 2 = tm := T1.2.2.1
          have e : k = tm := by omega
          rw [← e] at hq
          rw [b_X5_laws_29]
          simp (disch := omega) only [b_X5_laws_0, x_loadR_0, x_loadS_0, x_loadI_1, x_storeI_3, x_loadI_3, y_if_eq_t, y_if_eq_f, b_X5_laws_10, x_ret0, b_X5_laws_12, x_loadI_2, y_if_ne_t, y_if_ne_f, b_X5_laws_20, x_iconst, b_X5_laws_23, x_storeI_4, x_storeI_5, x_loadI_5, f_5_2, y_ic_ge_t, y_ic_ge_f, b_X5_laws_38, f_5_4, f_5_3, f_5_1, y_aald8, p_4_10, y_ic_ne_t, y_ic_ne_f, b_X5_laws_73, x_loadI_4, x_ishl, x_ior, b_X5_laws_82, x_iinc_5, x_goto, b_X5_laws_88, q_isL_I, q_isL_R, q_isL_S, true_and, and_true, and_self, List.length_nil, List.length_cons, Nat.zero_add, x_K, x_Kn, Int.reduceToNat, Nat.reduceAdd, Nat.reduceMul, Nat.reduceLeDiff, Nat.reduceLT, Nat.zero_le, Int.reduceAdd, Int.reduceSub, Int.reduceMul, Int.reduceNeg, q_add_e, q_sub_e, q_mul_e, q_neg_e, q_upd_s, q_upd_n, zr_shr0, zr_shr1, zr_shr2, zr_shr3, zr_shr4, zr_and, zr_dyn8, zr_or, zr_shl, q_cpy_n, y_cpy26]
          exact hq M1 hf
        | succ j ih =>
          intro k hk M1 hf
          have T1 := q_txs_tq hf T
          have e2 : M1 0 2 = tm := T1.2.2.1
          have ih2 := ih (k + 1) (by omega)
          rw [F_set] at ih2
          rw [b_X5_laws_29]
          simp (disch := omega) only [b_X5_laws_0, x_loadR_0, x_loadS_0, x_loadI_1, x_storeI_3, x_loadI_3, y_if_eq_t, y_if_eq_f, b_X5_laws_10, x_ret0, b_X5_laws_12, x_loadI_2, y_if_ne_t, y_if_ne_f, b_X5_laws_20, x_iconst, b_X5_laws_23, x_storeI_4, x_storeI_5, x_loadI_5, f_5_2, y_ic_ge_t, y_ic_ge_f, b_X5_laws_38, f_5_4, f_5_3, f_5_1, y_aald8, p_4_10, y_ic_ne_t, y_ic_ne_f, b_X5_laws_73, x_loadI_4, x_ishl, x_ior, b_X5_laws_82, x_iinc_5, x_goto, b_X5_laws_88, q_isL_I, q_isL_R, q_isL_S, true_and, and_true, and_self, List.length_nil, List.length_cons, Nat.zero_add, x_K, x_Kn, Int.reduceToNat, Nat.reduceAdd, Nat.reduceMul, Nat.reduceLeDiff, Nat.reduceLT, Nat.zero_le, Int.reduceAdd, Int.reduceSub, Int.reduceMul, Int.reduceNeg, q_add_e, q_sub_e, q_mul_e, q_neg_e, q_upd_s, q_upd_n, zr_shr0, zr_shr1, zr_shr2, zr_shr3, zr_shr4, zr_and, zr_dyn8, zr_or, zr_shl, q_cpy_n, y_cpy26, c_X4_copyFrom]
          refine sp_think C hf (fun M2 h2 => ?_)
          obtain ⟨t1, t2, t3, t4, t5, t6⟩ := h2
          obtain ⟨x1, x2, x3, x4⟩ := (q_txs_tq t6 T).2.2.2 k (by omega)
          have hta := q_ta_tas (t := k) (by omega)
          have hta2 := hta
          unfold q_tas at hta2
          have hy := q_dynT (k := 3) x1
          have hlt : q_ta k < 2147483648 := by omega
          simp (disch := omega) only [b_X5_laws_0, x_loadR_0, x_loadS_0, x_loadI_1, x_storeI_3, x_loadI_3, y_if_eq_t, y_if_eq_f, b_X5_laws_10, x_ret0, b_X5_laws_12, x_loadI_2, y_if_ne_t, y_if_ne_f, b_X5_laws_20, x_iconst, b_X5_laws_23, x_storeI_4, x_storeI_5, x_loadI_5, f_5_2, y_ic_ge_t, y_ic_ge_f, b_X5_laws_38, f_5_4, f_5_3, f_5_1, y_aald8, p_4_10, y_ic_ne_t, y_ic_ne_f, b_X5_laws_73, x_loadI_4, x_ishl, x_ior, b_X5_laws_82, x_iinc_5, x_goto, b_X5_laws_88, q_isL_I, q_isL_R, q_isL_S, true_and, and_true, and_self, List.length_nil, List.length_cons, Nat.zero_add, x_K, x_Kn, Int.reduceToNat, Nat.reduceAdd, Nat.reduceMul, Nat.reduceLeDiff, Nat.reduceLT, Nat.zero_le, Int.reduceAdd, Int.reduceSub, Int.reduceMul, Int.reduceNeg, q_add_e, q_sub_e, q_mul_e, q_neg_e, q_upd_s, q_upd_n, zr_shr0, zr_shr1, zr_shr2, zr_shr3, zr_shr4, zr_and, zr_dyn8, zr_or, zr_shl, q_cpy_n, y_cpy26, c_X5_firstOtherwise, Int.toNat_natCast, hy, hlt]
          refine sp_fo2 (V := Vt k) (ta := q_ta k) (V0 := V) (ta0 := ta) C (by omega) sz (by omega) hta ?_ (q_z5_eq (fun a q1 q2 => q_upd_n (by omega)) t3) ((q_upd_n (by omega)).trans t4) ((q_upd_n (by omega)).trans t5) (q_tq_up t6 (by omega) (by omega) (by omega)) (fun M3 h3 => ?_)
          · refine ⟨?_, x3, fun M' hM => x4 M' (fun a i ha => (hM a i ha).trans (q_upd_n (by omega))), q_upd_s, hlt, by omega⟩
            have r := t1.1
            unfold q_rgW at r ⊢
            simp (disch := omega) only [q_upd_n]
            exact r
          · have ec : cW (q_upd M2 38 10 (q_ta k : Nat)) 38 = cW M 11 := by
              rw [← t2]
              funext f i
              unfold cW
              split <;> simp (disch := omega) only [q_upd_n]
            have eT : q_foA (Vt k) M (cW (q_upd M2 38 10 (q_ta k : Nat)) 38) S N = TT k := by rw [← hT, ec]
            rw [eT]
            by_cases c : TT k = -1
            · rw [if_pos c] at ih2
              simp (disch := omega) only [b_X5_laws_0, x_loadR_0, x_loadS_0, x_loadI_1, x_storeI_3, x_loadI_3, y_if_eq_t, y_if_eq_f, b_X5_laws_10, x_ret0, b_X5_laws_12, x_loadI_2, y_if_ne_t, y_if_ne_f, b_X5_laws_20, x_iconst, b_X5_laws_23, x_storeI_4, x_storeI_5, x_loadI_5, f_5_2, y_ic_ge_t, y_ic_ge_f, b_X5_laws_38, f_5_4, f_5_3, f_5_1, y_aald8, p_4_10, y_ic_ne_t, y_ic_ne_f, b_X5_laws_73, x_loadI_4, x_ishl, x_ior, b_X5_laws_82, x_iinc_5, x_goto, b_X5_laws_88, q_isL_I, q_isL_R, q_isL_S, true_and, and_true, and_self, List.length_nil, List.length_cons, Nat.zero_add, x_K, x_Kn, Int.reduceToNat, Nat.reduceAdd, Nat.reduceMul, Nat.reduceLeDiff, Nat.reduceLT, Nat.zero_le, Int.reduceAdd, Int.reduceSub, Int.reduceMul, Int.reduceNeg, q_add_e, q_sub_e, q_mul_e, q_neg_e, q_upd_s, q_upd_n, zr_shr0, zr_shr1, zr_shr2, zr_shr3, zr_shr4, zr_and, zr_dyn8, zr_or, zr_shl, q_cpy_n, y_cpy26]
              exact ih2 M3 h3
            · rw [if_neg c] at ih2
              simp (disch := omega) only [b_X5_laws_0, x_loadR_0, x_loadS_0, x_loadI_1, x_storeI_3, x_loadI_3, y_if_eq_t, y_if_eq_f, b_X5_laws_10, x_ret0, b_X5_laws_12, x_loadI_2, y_if_ne_t, y_if_ne_f, b_X5_laws_20, x_iconst, b_X5_laws_23, x_storeI_4, x_storeI_5, x_loadI_5, f_5_2, y_ic_ge_t, y_ic_ge_f, b_X5_laws_38, f_5_4, f_5_3, f_5_1, y_aald8, p_4_10, y_ic_ne_t, y_ic_ne_f, b_X5_laws_73, x_loadI_4, x_ishl, x_ior, b_X5_laws_82, x_iinc_5, x_goto, b_X5_laws_88, q_isL_I, q_isL_R, q_isL_S, true_and, and_true, and_self, List.length_nil, List.length_cons, Nat.zero_add, x_K, x_Kn, Int.reduceToNat, Nat.reduceAdd, Nat.reduceMul, Nat.reduceLeDiff, Nat.reduceLT, Nat.zero_le, Int.reduceAdd, Int.reduceSub, Int.reduceMul, Int.reduceNeg, q_add_e, q_sub_e, q_mul_e, q_neg_e, q_upd_s, q_upd_n, zr_shr0, zr_shr1, zr_shr2, zr_shr3, zr_shr4, zr_and, zr_dyn8, zr_or, zr_shl, q_cpy_n, y_cpy26]
              exact ih2 M3 h3
      simp (disch := omega) only [b_X5_laws_0, x_loadR_0, x_loadS_0, x_loadI_1, x_storeI_3, x_loadI_3, y_if_eq_t, y_if_eq_f, b_X5_laws_10, x_ret0, b_X5_laws_12, x_loadI_2, y_if_ne_t, y_if_ne_f, b_X5_laws_20, x_iconst, b_X5_laws_23, x_storeI_4, x_storeI_5, x_loadI_5, f_5_2, y_ic_ge_t, y_ic_ge_f, b_X5_laws_38, f_5_4, f_5_3, f_5_1, y_aald8, p_4_10, y_ic_ne_t, y_ic_ne_f, b_X5_laws_73, x_loadI_4, x_ishl, x_ior, b_X5_laws_82, x_iinc_5, x_goto, b_X5_laws_88, q_isL_I, q_isL_R, q_isL_S, true_and, and_true, and_self, List.length_nil, List.length_cons, Nat.zero_add, x_K, x_Kn, Int.reduceToNat, Nat.reduceAdd, Nat.reduceMul, Nat.reduceLeDiff, Nat.reduceLT, Nat.zero_le, Int.reduceAdd, Int.reduceSub, Int.reduceMul, Int.reduceNeg, q_add_e, q_sub_e, q_mul_e, q_neg_e, q_upd_s, q_upd_n, zr_shr0, zr_shr1, zr_shr2, zr_shr3, zr_shr4, zr_and, zr_dyn8, zr_or, zr_shl, q_cpy_n, y_cpy26, c_X5_refusalOfTold, sp_refusal, c_X5_isStone, sp_isStone, c2, and_self, if_true]
      exact loop tm 0 (by omega) M q_tq_rf
    · rw [if_pos c2] at hq
      simp (disch := omega) only [b_X5_laws_0, x_loadR_0, x_loadS_0, x_loadI_1, x_storeI_3, x_loadI_3, y_if_eq_t, y_if_eq_f, b_X5_laws_10, x_ret0, b_X5_laws_12, x_loadI_2, y_if_ne_t, y_if_ne_f, b_X5_laws_20, x_iconst, b_X5_laws_23, x_storeI_4, x_storeI_5, x_loadI_5, f_5_2, y_ic_ge_t, y_ic_ge_f, b_X5_laws_38, f_5_4, f_5_3, f_5_1, y_aald8, p_4_10, y_ic_ne_t, y_ic_ne_f, b_X5_laws_73, x_loadI_4, x_ishl, x_ior, b_X5_laws_82, x_iinc_5, x_goto, b_X5_laws_88, q_isL_I, q_isL_R, q_isL_S, true_and, and_true, and_self, List.length_nil, List.length_cons, Nat.zero_add, x_K, x_Kn, Int.reduceToNat, Nat.reduceAdd, Nat.reduceMul, Nat.reduceLeDiff, Nat.reduceLT, Nat.zero_le, Int.reduceAdd, Int.reduceSub, Int.reduceMul, Int.reduceNeg, q_add_e, q_sub_e, q_mul_e, q_neg_e, q_upd_s, q_upd_n, zr_shr0, zr_shr1, zr_shr2, zr_shr3, zr_shr4, zr_and, zr_dyn8, zr_or, zr_shl, q_cpy_n, y_cpy26, c_X5_refusalOfTold, sp_refusal, c_X5_isStone, sp_isStone, c2, if_false]
      exact hq M q_tq_rf
  · rw [if_pos c1] at hq
    simp (disch := omega) only [b_X5_laws_0, x_loadR_0, x_loadS_0, x_loadI_1, x_storeI_3, x_loadI_3, y_if_eq_t, y_if_eq_f, b_X5_laws_10, x_ret0, b_X5_laws_12, x_loadI_2, y_if_ne_t, y_if_ne_f, b_X5_laws_20, x_iconst, b_X5_laws_23, x_storeI_4, x_storeI_5, x_loadI_5, f_5_2, y_ic_ge_t, y_ic_ge_f, b_X5_laws_38, f_5_4, f_5_3, f_5_1, y_aald8, p_4_10, y_ic_ne_t, y_ic_ne_f, b_X5_laws_73, x_loadI_4, x_ishl, x_ior, b_X5_laws_82, x_iinc_5, x_goto, b_X5_laws_88, q_isL_I, q_isL_R, q_isL_S, true_and, and_true, and_self, List.length_nil, List.length_cons, Nat.zero_add, x_K, x_Kn, Int.reduceToNat, Nat.reduceAdd, Nat.reduceMul, Nat.reduceLeDiff, Nat.reduceLT, Nat.zero_le, Int.reduceAdd, Int.reduceSub, Int.reduceMul, Int.reduceNeg, q_add_e, q_sub_e, q_mul_e, q_neg_e, q_upd_s, q_upd_n, zr_shr0, zr_shr1, zr_shr2, zr_shr3, zr_shr4, zr_and, zr_dyn8, zr_or, zr_shl, q_cpy_n, y_cpy26, c_X5_refusalOfTold, sp_refusal]
    exact hq M q_tq_rf
end
section
/-! THE CLASS'S SHEETS: a row made, a number written -/
def q_shM (M : q_M) (a : Nat) (so n : Int) (f : Nat → Int) : q_M := fun b i => if b = a + 1 ∧ i < 40 then f i else if b = a ∧ i = 1 then so else if b = a ∧ i = 2 then n else M b i
theorem q_shM_n {M : q_M} {a b i : Nat} {so n : Int} {f : Nat → Int} (h : b ≠ a) (h2 : b ≠ a + 1) : q_shM M a so n f b i = M b i := by
  unfold q_shM
  rw [if_neg (fun z => h2 z.1), if_neg (fun z => h z.1), if_neg (fun z => h z.1)]
theorem q_shM_1 {M : q_M} {a : Nat} {so n : Int} {f : Nat → Int} : q_shM M a so n f a 1 = so := by
  unfold q_shM
  rw [if_neg (by omega), if_pos ⟨rfl, rfl⟩]
theorem q_shM_2 {M : q_M} {a : Nat} {so n : Int} {f : Nat → Int} : q_shM M a so n f a 2 = n := by
  unfold q_shM
  rw [if_neg (by omega), if_neg (by omega), if_pos ⟨rfl, rfl⟩]
theorem q_shM_c {M : q_M} {a i : Nat} {so n : Int} {f : Nat → Int} (h : i < 40) : q_shM M a so n f (a + 1) i = f i := if_pos ⟨rfl, h⟩
theorem q_shM_u {M : q_M} {a p : Nat} {so n v : Int} {f : Nat → Int} (h : p < 40) : q_upd (q_shM M a so n f) (a + 1) p v = q_shM M a so n (F_u f p v) := by
  funext b i
  by_cases c : b = a + 1 ∧ i = p
  · obtain ⟨rfl, rfl⟩ := c
    rw [q_upd_s, q_shM_c h]
    exact (if_pos rfl).symm
  · rw [q_upd_n (by omega)]
    unfold q_shM F_u
    by_cases c1 : b = a + 1 ∧ i < 40
    · rw [if_pos c1, if_pos c1, if_neg (fun z => c ⟨c1.1, z⟩)]
    · rw [if_neg c1, if_neg c1]
theorem sp_become {d : Nat} {g : q_G} {M : q_M} {a : Nat} {so n : Int} {Q : Option q_V → q_G → q_M → Prop} (hq : Q none g (q_shM M a so n (fun _ => 0))) : q_S 1 d 44 [qR 2 a, qI so, qI n] g M Q := by
  rw [s_X2_become]
  have loop : ∀ j k : Nat, k + j = 40 → q_T 1 d qP_X2_become 12 [] [qR 2 a, qI so, qI n, qI k] [] g (q_shM M a so n (fun i => if i < k then 0 else M (a + 1) i)) Q := by
    intro j
    induction j with
    | zero =>
      intro k hk
      have e : k = 40 := by omega
      subst e
      have e2 : q_shM M a so n (fun i => if i < 40 then 0 else M (a + 1) i) = q_shM M a so n (fun _ => 0) := by
        funext b i
        unfold q_shM
        by_cases c : b = a + 1 ∧ i < 40
        · rw [if_pos c, if_pos c]
          exact if_pos c.2
        · rw [if_neg c, if_neg c]
      rw [b_X2_become_12, e2]
      simp (disch := omega) only [b_X2_become_0, x_loadR_0, x_loadS_0, x_loadI_1, p_2_1, x_loadI_2, p_2_2, x_iconst, x_storeI_3, x_loadI_3, y_ic_ge_t, y_ic_ge_f, b_X2_become_18, f_2_0, y_iast_60, x_iinc_3, x_goto, b_X2_become_31, x_vret, q_isL_I, q_isL_R, q_isL_S, true_and, and_true, and_self, List.length_nil, List.length_cons, Nat.zero_add, x_K, x_Kn, Int.reduceToNat, Nat.reduceAdd, Nat.reduceMul, Nat.reduceLeDiff, Nat.reduceLT, Nat.zero_le, Int.reduceAdd, Int.reduceSub, Int.reduceMul, Int.reduceNeg, q_add_e, q_sub_e, q_mul_e, q_neg_e, q_upd_s, q_upd_n, zr_shr0, zr_shr1, zr_shr2, zr_shr3, zr_shr4, zr_and, zr_dyn8, zr_or, zr_shl, q_cpy_n, y_cpy26]
      exact hq
    | succ j ih =>
      intro k hk
      have e2 : F_u (fun i => if i < k then 0 else M (a + 1) i) k 0 = (fun i => if i < k + 1 then 0 else M (a + 1) i) := by
        funext i
        unfold F_u
        by_cases c : i = k
        · rw [if_pos c, if_pos (by omega)]
        · rw [if_neg c]
          by_cases c2 : i < k
          · rw [if_pos (show i < k + 1 by omega)]
            exact if_pos c2
          · rw [if_neg (show ¬i < k + 1 by omega)]
            exact if_neg c2
      rw [b_X2_become_12]
      simp (disch := omega) only [b_X2_become_0, x_loadR_0, x_loadS_0, x_loadI_1, p_2_1, x_loadI_2, p_2_2, x_iconst, x_storeI_3, x_loadI_3, y_ic_ge_t, y_ic_ge_f, b_X2_become_18, f_2_0, y_iast_60, x_iinc_3, x_goto, b_X2_become_31, x_vret, q_isL_I, q_isL_R, q_isL_S, true_and, and_true, and_self, List.length_nil, List.length_cons, Nat.zero_add, x_K, x_Kn, Int.reduceToNat, Nat.reduceAdd, Nat.reduceMul, Nat.reduceLeDiff, Nat.reduceLT, Nat.zero_le, Int.reduceAdd, Int.reduceSub, Int.reduceMul, Int.reduceNeg, q_add_e, q_sub_e, q_mul_e, q_neg_e, q_upd_s, q_upd_n, zr_shr0, zr_shr1, zr_shr2, zr_shr3, zr_shr4, zr_and, zr_dyn8, zr_or, zr_shl, q_cpy_n, y_cpy26, Int.toNat_natCast, q_shM_u, e2]
      exact ih (k + 1) (by omega)
  have e0 : q_upd (q_upd M a 1 so) a 2 n = q_shM M a so n (fun i => if i < 0 then 0 else M (a + 1) i) := by
    funext b i
    unfold q_shM
    by_cases c : b = a + 1 ∧ i < 40
    · rw [if_pos c, q_upd_n (by omega), q_upd_n (by omega), c.1]
      exact (if_neg (Nat.not_lt_zero i)).symm
    · rw [if_neg c]
      by_cases c1 : b = a ∧ i = 1
      · rw [if_pos c1, c1.1, c1.2, q_upd_n (by omega), q_upd_s]
      · rw [if_neg c1]
        by_cases c2 : b = a ∧ i = 2
        · rw [if_pos c2, c2.1, c2.2, q_upd_s]
        · rw [if_neg c2, q_upd_n (by omega), q_upd_n (by omega)]
  simp (disch := omega) only [b_X2_become_0, x_loadR_0, x_loadS_0, x_loadI_1, p_2_1, x_loadI_2, p_2_2, x_iconst, x_storeI_3, x_loadI_3, y_ic_ge_t, y_ic_ge_f, b_X2_become_18, f_2_0, y_iast_60, x_iinc_3, x_goto, b_X2_become_31, x_vret, q_isL_I, q_isL_R, q_isL_S, true_and, and_true, and_self, List.length_nil, List.length_cons, Nat.zero_add, x_K, x_Kn, Int.reduceToNat, Nat.reduceAdd, Nat.reduceMul, Nat.reduceLeDiff, Nat.reduceLT, Nat.zero_le, Int.reduceAdd, Int.reduceSub, Int.reduceMul, Int.reduceNeg, q_add_e, q_sub_e, q_mul_e, q_neg_e, q_upd_s, q_upd_n, zr_shr0, zr_shr1, zr_shr2, zr_shr3, zr_shr4, zr_and, zr_dyn8, zr_or, zr_shl, q_cpy_n, y_cpy26]
  rw [e0]
  exact loop 40 0 (by omega)
/-- a number as a row of a sort keeps it -/
def F_cvt (so v : Int) : Int := if so = 0 then q_i2b v else if so = 1 then q_i2s v else v
theorem sp_write {d : Nat} {g : q_G} {M : q_M} {a : Nat} {i v : Int} {Q : Option q_V → q_G → q_M → Prop} (hi : 0 ≤ i) (hi2 : i < M a 2) (h40 : M a 2 ≤ 40) (hq : Q none g (q_upd M (a + 1) i.toNat (F_cvt (M a 1) v))) : q_S 1 d 45 [qR 2 a, qI i, qI v] g M Q := by
  rw [s_X2_write]
  unfold F_cvt at hq
  by_cases c0 : M a 1 = 0
  · rw [if_pos c0] at hq
    simp (disch := omega) only [b_X2_write_0, x_loadI_1, y_if_lt_t, y_if_lt_f, b_X2_write_4, x_loadR_0, x_loadS_0, f_2_2, y_ic_ge_t, y_ic_ge_f, b_X2_write_12, f_2_0, f_2_1, y_if_ne_t, y_if_ne_f, b_X2_write_24, x_loadI_2, x_i2b, x_goto, b_X2_write_29, x_iconst, y_ic_ne_t, y_ic_ne_f, b_X2_write_37, x_i2s, b_X2_write_42, b_X2_write_43, y_iast_60, b_X2_write_44, x_vret, q_isL_I, q_isL_R, q_isL_S, true_and, and_true, and_self, List.length_nil, List.length_cons, Nat.zero_add, x_K, x_Kn, Int.reduceToNat, Nat.reduceAdd, Nat.reduceMul, Nat.reduceLeDiff, Nat.reduceLT, Nat.zero_le, Int.reduceAdd, Int.reduceSub, Int.reduceMul, Int.reduceNeg, q_add_e, q_sub_e, q_mul_e, q_neg_e, q_upd_s, q_upd_n, zr_shr0, zr_shr1, zr_shr2, zr_shr3, zr_shr4, zr_and, zr_dyn8, zr_or, zr_shl, q_cpy_n, y_cpy26]
    exact hq
  · rw [if_neg c0] at hq
    by_cases c1 : M a 1 = 1
    · rw [if_pos c1] at hq
      simp (disch := omega) only [b_X2_write_0, x_loadI_1, y_if_lt_t, y_if_lt_f, b_X2_write_4, x_loadR_0, x_loadS_0, f_2_2, y_ic_ge_t, y_ic_ge_f, b_X2_write_12, f_2_0, f_2_1, y_if_ne_t, y_if_ne_f, b_X2_write_24, x_loadI_2, x_i2b, x_goto, b_X2_write_29, x_iconst, y_ic_ne_t, y_ic_ne_f, b_X2_write_37, x_i2s, b_X2_write_42, b_X2_write_43, y_iast_60, b_X2_write_44, x_vret, q_isL_I, q_isL_R, q_isL_S, true_and, and_true, and_self, List.length_nil, List.length_cons, Nat.zero_add, x_K, x_Kn, Int.reduceToNat, Nat.reduceAdd, Nat.reduceMul, Nat.reduceLeDiff, Nat.reduceLT, Nat.zero_le, Int.reduceAdd, Int.reduceSub, Int.reduceMul, Int.reduceNeg, q_add_e, q_sub_e, q_mul_e, q_neg_e, q_upd_s, q_upd_n, zr_shr0, zr_shr1, zr_shr2, zr_shr3, zr_shr4, zr_and, zr_dyn8, zr_or, zr_shl, q_cpy_n, y_cpy26]
      exact hq
    · rw [if_neg c1] at hq
      simp (disch := omega) only [b_X2_write_0, x_loadI_1, y_if_lt_t, y_if_lt_f, b_X2_write_4, x_loadR_0, x_loadS_0, f_2_2, y_ic_ge_t, y_ic_ge_f, b_X2_write_12, f_2_0, f_2_1, y_if_ne_t, y_if_ne_f, b_X2_write_24, x_loadI_2, x_i2b, x_goto, b_X2_write_29, x_iconst, y_ic_ne_t, y_ic_ne_f, b_X2_write_37, x_i2s, b_X2_write_42, b_X2_write_43, y_iast_60, b_X2_write_44, x_vret, q_isL_I, q_isL_R, q_isL_S, true_and, and_true, and_self, List.length_nil, List.length_cons, Nat.zero_add, x_K, x_Kn, Int.reduceToNat, Nat.reduceAdd, Nat.reduceMul, Nat.reduceLeDiff, Nat.reduceLT, Nat.zero_le, Int.reduceAdd, Int.reduceSub, Int.reduceMul, Int.reduceNeg, q_add_e, q_sub_e, q_mul_e, q_neg_e, q_upd_s, q_upd_n, zr_shr0, zr_shr1, zr_shr2, zr_shr3, zr_shr4, zr_and, zr_dyn8, zr_or, zr_shl, q_cpy_n, y_cpy26]
      exact hq
/-! THE CLASS'S ENTRIES: sheet, cell -/
def A_sheet (s so n : Int) : Int := if ¬(0 ≤ s ∧ s < 4) ∨ so < -1 ∨ 2 < so then -2 else if so = -1 then 1 else if 40 < n then -2 else if n < 0 then -14 else 1
def q_sheetM (M : q_M) (s so n : Int) : q_M := if A_sheet s so n = 1 then q_shM M (6 + (86 + 2 * s.toNat)) so (if so = -1 then 0 else n) (fun _ => 0) else M
set_option maxHeartbeats 4000000 in
theorem sp_sheet {d : Nat} {g : q_G} {M : q_M} {s so n : Int} {Q : Option q_V → q_G → q_M → Prop} (hq : Q (some (qI (A_sheet s so n))) g (q_sheetM M s so n)) : q_S 1 (d + 1) 93 [qR 5 0, qI s, qI so, qI n] g M Q := by
  rw [s_X5_sheet]
  unfold q_sheetM at hq
  have bec : ∀ (nx : Nat) (ops : List Instr) (ls st : List q_V) (n2 : Int), (q_T 1 (d + 1) qP_X5_sheet nx ops ls st g (q_shM M (6 + (86 + 2 * s.toNat)) so n2 (fun _ => 0)) Q) → q_S 1 d 44 [qR 2 (6 + (86 + 2 * s.toNat)), qI so, qI n2] g M (q_K 1 (d + 1) qP_X5_sheet nx ops ls st Q) := fun nx ops ls st n2 h => sp_become h
  by_cases c1 : 0 ≤ s ∧ s < 4
  · rcases (show so < -1 ∨ so = -1 ∨ (0 ≤ so ∧ so ≤ 2) ∨ 2 < so by omega) with c2 | c2 | c2 | c2
    · have eA : A_sheet s so n = -2 := by unfold A_sheet; rw [if_pos (by omega)]
      rw [eA, if_neg (by omega)] at hq
      simp (disch := omega) only [b_X5_sheet_0, x_loadI_1, y_if_eq_t, y_if_eq_f, b_X5_sheet_7, x_loadI_2, x_iconst, y_ic_lt_t, y_ic_lt_f, b_X5_sheet_12, y_ic_le_t, y_ic_le_f, b_X5_sheet_17, x_ret0, b_X5_sheet_20, y_ic_ne_t, y_ic_ne_f, b_X5_sheet_25, x_loadR_0, x_loadS_0, f_5_7, y_aald9, b_X5_sheet_38, x_loadI_3, b_X5_sheet_44, b_X5_sheet_47, y_if_ge_t, y_if_ge_f, b_X5_sheet_51, b_X5_sheet_54, q_isL_I, q_isL_R, q_isL_S, true_and, and_true, and_self, List.length_nil, List.length_cons, Nat.zero_add, x_K, x_Kn, Int.reduceToNat, Nat.reduceAdd, Nat.reduceMul, Nat.reduceLeDiff, Nat.reduceLT, Nat.zero_le, Int.reduceAdd, Int.reduceSub, Int.reduceMul, Int.reduceNeg, q_add_e, q_sub_e, q_mul_e, q_neg_e, q_upd_s, q_upd_n, zr_shr0, zr_shr1, zr_shr2, zr_shr3, zr_shr4, zr_and, zr_dyn8, zr_or, zr_shl, q_cpy_n, y_cpy26, c_X5_isSheet, sp_isSheet, c1, and_self, if_true]
      exact hq
    · have eA : A_sheet s so n = 1 := by unfold A_sheet; rw [if_neg (by omega), if_pos c2]
      rw [eA, if_pos rfl, if_pos c2] at hq
      simp (disch := omega) only [b_X5_sheet_0, x_loadI_1, y_if_eq_t, y_if_eq_f, b_X5_sheet_7, x_loadI_2, x_iconst, y_ic_lt_t, y_ic_lt_f, b_X5_sheet_12, y_ic_le_t, y_ic_le_f, b_X5_sheet_17, x_ret0, b_X5_sheet_20, y_ic_ne_t, y_ic_ne_f, b_X5_sheet_25, x_loadR_0, x_loadS_0, f_5_7, y_aald9, b_X5_sheet_38, x_loadI_3, b_X5_sheet_44, b_X5_sheet_47, y_if_ge_t, y_if_ge_f, b_X5_sheet_51, b_X5_sheet_54, q_isL_I, q_isL_R, q_isL_S, true_and, and_true, and_self, List.length_nil, List.length_cons, Nat.zero_add, x_K, x_Kn, Int.reduceToNat, Nat.reduceAdd, Nat.reduceMul, Nat.reduceLeDiff, Nat.reduceLT, Nat.zero_le, Int.reduceAdd, Int.reduceSub, Int.reduceMul, Int.reduceNeg, q_add_e, q_sub_e, q_mul_e, q_neg_e, q_upd_s, q_upd_n, zr_shr0, zr_shr1, zr_shr2, zr_shr3, zr_shr4, zr_and, zr_dyn8, zr_or, zr_shl, q_cpy_n, y_cpy26, c_X5_isSheet, sp_isSheet, c1, and_self, if_true, c_X2_become]
      refine bec _ _ _ _ _ ?_
      simp (disch := omega) only [b_X5_sheet_0, x_loadI_1, y_if_eq_t, y_if_eq_f, b_X5_sheet_7, x_loadI_2, x_iconst, y_ic_lt_t, y_ic_lt_f, b_X5_sheet_12, y_ic_le_t, y_ic_le_f, b_X5_sheet_17, x_ret0, b_X5_sheet_20, y_ic_ne_t, y_ic_ne_f, b_X5_sheet_25, x_loadR_0, x_loadS_0, f_5_7, y_aald9, b_X5_sheet_38, x_loadI_3, b_X5_sheet_44, b_X5_sheet_47, y_if_ge_t, y_if_ge_f, b_X5_sheet_51, b_X5_sheet_54, q_isL_I, q_isL_R, q_isL_S, true_and, and_true, and_self, List.length_nil, List.length_cons, Nat.zero_add, x_K, x_Kn, Int.reduceToNat, Nat.reduceAdd, Nat.reduceMul, Nat.reduceLeDiff, Nat.reduceLT, Nat.zero_le, Int.reduceAdd, Int.reduceSub, Int.reduceMul, Int.reduceNeg, q_add_e, q_sub_e, q_mul_e, q_neg_e, q_upd_s, q_upd_n, zr_shr0, zr_shr1, zr_shr2, zr_shr3, zr_shr4, zr_and, zr_dyn8, zr_or, zr_shl, q_cpy_n, y_cpy26]
      exact hq
    · by_cases c3 : 40 < n
      · have eA : A_sheet s so n = -2 := by unfold A_sheet; rw [if_neg (by omega), if_neg (by omega), if_pos c3]
        rw [eA, if_neg (by omega)] at hq
        simp (disch := omega) only [b_X5_sheet_0, x_loadI_1, y_if_eq_t, y_if_eq_f, b_X5_sheet_7, x_loadI_2, x_iconst, y_ic_lt_t, y_ic_lt_f, b_X5_sheet_12, y_ic_le_t, y_ic_le_f, b_X5_sheet_17, x_ret0, b_X5_sheet_20, y_ic_ne_t, y_ic_ne_f, b_X5_sheet_25, x_loadR_0, x_loadS_0, f_5_7, y_aald9, b_X5_sheet_38, x_loadI_3, b_X5_sheet_44, b_X5_sheet_47, y_if_ge_t, y_if_ge_f, b_X5_sheet_51, b_X5_sheet_54, q_isL_I, q_isL_R, q_isL_S, true_and, and_true, and_self, List.length_nil, List.length_cons, Nat.zero_add, x_K, x_Kn, Int.reduceToNat, Nat.reduceAdd, Nat.reduceMul, Nat.reduceLeDiff, Nat.reduceLT, Nat.zero_le, Int.reduceAdd, Int.reduceSub, Int.reduceMul, Int.reduceNeg, q_add_e, q_sub_e, q_mul_e, q_neg_e, q_upd_s, q_upd_n, zr_shr0, zr_shr1, zr_shr2, zr_shr3, zr_shr4, zr_and, zr_dyn8, zr_or, zr_shl, q_cpy_n, y_cpy26, c_X5_isSheet, sp_isSheet, c1, and_self, if_true]
        exact hq
      · by_cases c4 : n < 0
        · have eA : A_sheet s so n = -14 := by unfold A_sheet; rw [if_neg (by omega), if_neg (by omega), if_neg c3, if_pos c4]
          rw [eA, if_neg (by omega)] at hq
          simp (disch := omega) only [b_X5_sheet_0, x_loadI_1, y_if_eq_t, y_if_eq_f, b_X5_sheet_7, x_loadI_2, x_iconst, y_ic_lt_t, y_ic_lt_f, b_X5_sheet_12, y_ic_le_t, y_ic_le_f, b_X5_sheet_17, x_ret0, b_X5_sheet_20, y_ic_ne_t, y_ic_ne_f, b_X5_sheet_25, x_loadR_0, x_loadS_0, f_5_7, y_aald9, b_X5_sheet_38, x_loadI_3, b_X5_sheet_44, b_X5_sheet_47, y_if_ge_t, y_if_ge_f, b_X5_sheet_51, b_X5_sheet_54, q_isL_I, q_isL_R, q_isL_S, true_and, and_true, and_self, List.length_nil, List.length_cons, Nat.zero_add, x_K, x_Kn, Int.reduceToNat, Nat.reduceAdd, Nat.reduceMul, Nat.reduceLeDiff, Nat.reduceLT, Nat.zero_le, Int.reduceAdd, Int.reduceSub, Int.reduceMul, Int.reduceNeg, q_add_e, q_sub_e, q_mul_e, q_neg_e, q_upd_s, q_upd_n, zr_shr0, zr_shr1, zr_shr2, zr_shr3, zr_shr4, zr_and, zr_dyn8, zr_or, zr_shl, q_cpy_n, y_cpy26, c_X5_isSheet, sp_isSheet, c1, and_self, if_true]
          exact hq
        · have eA : A_sheet s so n = 1 := by unfold A_sheet; rw [if_neg (by omega), if_neg (by omega), if_neg c3, if_neg c4]
          rw [eA, if_pos rfl, if_neg (show ¬so = -1 by omega)] at hq
          simp (disch := omega) only [b_X5_sheet_0, x_loadI_1, y_if_eq_t, y_if_eq_f, b_X5_sheet_7, x_loadI_2, x_iconst, y_ic_lt_t, y_ic_lt_f, b_X5_sheet_12, y_ic_le_t, y_ic_le_f, b_X5_sheet_17, x_ret0, b_X5_sheet_20, y_ic_ne_t, y_ic_ne_f, b_X5_sheet_25, x_loadR_0, x_loadS_0, f_5_7, y_aald9, b_X5_sheet_38, x_loadI_3, b_X5_sheet_44, b_X5_sheet_47, y_if_ge_t, y_if_ge_f, b_X5_sheet_51, b_X5_sheet_54, q_isL_I, q_isL_R, q_isL_S, true_and, and_true, and_self, List.length_nil, List.length_cons, Nat.zero_add, x_K, x_Kn, Int.reduceToNat, Nat.reduceAdd, Nat.reduceMul, Nat.reduceLeDiff, Nat.reduceLT, Nat.zero_le, Int.reduceAdd, Int.reduceSub, Int.reduceMul, Int.reduceNeg, q_add_e, q_sub_e, q_mul_e, q_neg_e, q_upd_s, q_upd_n, zr_shr0, zr_shr1, zr_shr2, zr_shr3, zr_shr4, zr_and, zr_dyn8, zr_or, zr_shl, q_cpy_n, y_cpy26, c_X5_isSheet, sp_isSheet, c1, and_self, if_true, c_X2_become]
          refine bec _ _ _ _ _ ?_
          simp (disch := omega) only [b_X5_sheet_0, x_loadI_1, y_if_eq_t, y_if_eq_f, b_X5_sheet_7, x_loadI_2, x_iconst, y_ic_lt_t, y_ic_lt_f, b_X5_sheet_12, y_ic_le_t, y_ic_le_f, b_X5_sheet_17, x_ret0, b_X5_sheet_20, y_ic_ne_t, y_ic_ne_f, b_X5_sheet_25, x_loadR_0, x_loadS_0, f_5_7, y_aald9, b_X5_sheet_38, x_loadI_3, b_X5_sheet_44, b_X5_sheet_47, y_if_ge_t, y_if_ge_f, b_X5_sheet_51, b_X5_sheet_54, q_isL_I, q_isL_R, q_isL_S, true_and, and_true, and_self, List.length_nil, List.length_cons, Nat.zero_add, x_K, x_Kn, Int.reduceToNat, Nat.reduceAdd, Nat.reduceMul, Nat.reduceLeDiff, Nat.reduceLT, Nat.zero_le, Int.reduceAdd, Int.reduceSub, Int.reduceMul, Int.reduceNeg, q_add_e, q_sub_e, q_mul_e, q_neg_e, q_upd_s, q_upd_n, zr_shr0, zr_shr1, zr_shr2, zr_shr3, zr_shr4, zr_and, zr_dyn8, zr_or, zr_shl, q_cpy_n, y_cpy26]
          exact hq
    · have eA : A_sheet s so n = -2 := by unfold A_sheet; rw [if_pos (by omega)]
      rw [eA, if_neg (by omega)] at hq
      simp (disch := omega) only [b_X5_sheet_0, x_loadI_1, y_if_eq_t, y_if_eq_f, b_X5_sheet_7, x_loadI_2, x_iconst, y_ic_lt_t, y_ic_lt_f, b_X5_sheet_12, y_ic_le_t, y_ic_le_f, b_X5_sheet_17, x_ret0, b_X5_sheet_20, y_ic_ne_t, y_ic_ne_f, b_X5_sheet_25, x_loadR_0, x_loadS_0, f_5_7, y_aald9, b_X5_sheet_38, x_loadI_3, b_X5_sheet_44, b_X5_sheet_47, y_if_ge_t, y_if_ge_f, b_X5_sheet_51, b_X5_sheet_54, q_isL_I, q_isL_R, q_isL_S, true_and, and_true, and_self, List.length_nil, List.length_cons, Nat.zero_add, x_K, x_Kn, Int.reduceToNat, Nat.reduceAdd, Nat.reduceMul, Nat.reduceLeDiff, Nat.reduceLT, Nat.zero_le, Int.reduceAdd, Int.reduceSub, Int.reduceMul, Int.reduceNeg, q_add_e, q_sub_e, q_mul_e, q_neg_e, q_upd_s, q_upd_n, zr_shr0, zr_shr1, zr_shr2, zr_shr3, zr_shr4, zr_and, zr_dyn8, zr_or, zr_shl, q_cpy_n, y_cpy26, c_X5_isSheet, sp_isSheet, c1, and_self, if_true]
      exact hq
  · have eA : A_sheet s so n = -2 := by unfold A_sheet; rw [if_pos (Or.inl c1)]
    rw [eA, if_neg (by omega)] at hq
    simp (disch := omega) only [b_X5_sheet_0, x_loadI_1, y_if_eq_t, y_if_eq_f, b_X5_sheet_7, x_loadI_2, x_iconst, y_ic_lt_t, y_ic_lt_f, b_X5_sheet_12, y_ic_le_t, y_ic_le_f, b_X5_sheet_17, x_ret0, b_X5_sheet_20, y_ic_ne_t, y_ic_ne_f, b_X5_sheet_25, x_loadR_0, x_loadS_0, f_5_7, y_aald9, b_X5_sheet_38, x_loadI_3, b_X5_sheet_44, b_X5_sheet_47, y_if_ge_t, y_if_ge_f, b_X5_sheet_51, b_X5_sheet_54, q_isL_I, q_isL_R, q_isL_S, true_and, and_true, and_self, List.length_nil, List.length_cons, Nat.zero_add, x_K, x_Kn, Int.reduceToNat, Nat.reduceAdd, Nat.reduceMul, Nat.reduceLeDiff, Nat.reduceLT, Nat.zero_le, Int.reduceAdd, Int.reduceSub, Int.reduceMul, Int.reduceNeg, q_add_e, q_sub_e, q_mul_e, q_neg_e, q_upd_s, q_upd_n, zr_shr0, zr_shr1, zr_shr2, zr_shr3, zr_shr4, zr_and, zr_dyn8, zr_or, zr_shl, q_cpy_n, y_cpy26, c_X5_isSheet, sp_isSheet, c1, if_false]
    exact hq
def A_cell (M : q_M) (s i : Int) : Int := if ¬(0 ≤ s ∧ s < 4) then -2 else if M (6 + (86 + 2 * s.toNat)) 1 = -1 then -11 else if i < 0 ∨ M (6 + (86 + 2 * s.toNat)) 2 ≤ i then -12 else 1
def q_cellM (M : q_M) (s i v : Int) : q_M := if A_cell M s i = 1 then q_upd M (6 + (86 + 2 * s.toNat) + 1) i.toNat (F_cvt (M (6 + (86 + 2 * s.toNat)) 1) v) else M
set_option maxHeartbeats 4000000 in
theorem sp_cell {d : Nat} {g : q_G} {M : q_M} {s i v : Int} {Q : Option q_V → q_G → q_M → Prop} (hs : q_shB M) (hq : Q (some (qI (A_cell M s i))) g (q_cellM M s i v)) : q_S 1 (d + 1) 94 [qR 5 0, qI s, qI i, qI v] g M Q := by
  rw [s_X5_cell]
  unfold q_cellM A_cell at hq
  by_cases c1 : 0 ≤ s ∧ s < 4
  · rw [if_neg (fun z => z c1)] at hq
    have hb := hs s.toNat (by omega)
    by_cases c2 : M (6 + (86 + 2 * s.toNat)) 1 = -1
    · rw [if_pos c2, if_neg (by omega)] at hq
      simp (disch := omega) only [b_X5_cell_0, x_loadI_1, y_if_ne_t, y_if_ne_f, b_X5_cell_7, x_iconst, x_ret0, b_X5_cell_10, x_loadR_0, x_loadS_0, f_5_7, y_aald9, y_if_eq_t, y_if_eq_f, b_X5_cell_22, b_X5_cell_25, x_loadI_2, y_if_lt_t, y_if_lt_f, b_X5_cell_29, f_2_2, y_ic_lt_t, y_ic_lt_f, b_X5_cell_42, b_X5_cell_45, x_loadI_3, q_isL_I, q_isL_R, q_isL_S, true_and, and_true, and_self, List.length_nil, List.length_cons, Nat.zero_add, x_K, x_Kn, Int.reduceToNat, Nat.reduceAdd, Nat.reduceMul, Nat.reduceLeDiff, Nat.reduceLT, Nat.zero_le, Int.reduceAdd, Int.reduceSub, Int.reduceMul, Int.reduceNeg, q_add_e, q_sub_e, q_mul_e, q_neg_e, q_upd_s, q_upd_n, zr_shr0, zr_shr1, zr_shr2, zr_shr3, zr_shr4, zr_and, zr_dyn8, zr_or, zr_shl, q_cpy_n, y_cpy26, c_X5_isSheet, sp_isSheet, c1, and_self, if_true, c_X2_isMissing, sp_isMissing, c2]
      exact hq
    · rw [if_neg c2] at hq
      by_cases c3 : i < 0
      · rw [if_pos (Or.inl c3), if_neg (by omega)] at hq
        simp (disch := omega) only [b_X5_cell_0, x_loadI_1, y_if_ne_t, y_if_ne_f, b_X5_cell_7, x_iconst, x_ret0, b_X5_cell_10, x_loadR_0, x_loadS_0, f_5_7, y_aald9, y_if_eq_t, y_if_eq_f, b_X5_cell_22, b_X5_cell_25, x_loadI_2, y_if_lt_t, y_if_lt_f, b_X5_cell_29, f_2_2, y_ic_lt_t, y_ic_lt_f, b_X5_cell_42, b_X5_cell_45, x_loadI_3, q_isL_I, q_isL_R, q_isL_S, true_and, and_true, and_self, List.length_nil, List.length_cons, Nat.zero_add, x_K, x_Kn, Int.reduceToNat, Nat.reduceAdd, Nat.reduceMul, Nat.reduceLeDiff, Nat.reduceLT, Nat.zero_le, Int.reduceAdd, Int.reduceSub, Int.reduceMul, Int.reduceNeg, q_add_e, q_sub_e, q_mul_e, q_neg_e, q_upd_s, q_upd_n, zr_shr0, zr_shr1, zr_shr2, zr_shr3, zr_shr4, zr_and, zr_dyn8, zr_or, zr_shl, q_cpy_n, y_cpy26, c_X5_isSheet, sp_isSheet, c1, and_self, if_true, c_X2_isMissing, sp_isMissing, c2, if_false]
        exact hq
      · by_cases c4 : M (6 + (86 + 2 * s.toNat)) 2 ≤ i
        · rw [if_pos (Or.inr c4), if_neg (by omega)] at hq
          simp (disch := omega) only [b_X5_cell_0, x_loadI_1, y_if_ne_t, y_if_ne_f, b_X5_cell_7, x_iconst, x_ret0, b_X5_cell_10, x_loadR_0, x_loadS_0, f_5_7, y_aald9, y_if_eq_t, y_if_eq_f, b_X5_cell_22, b_X5_cell_25, x_loadI_2, y_if_lt_t, y_if_lt_f, b_X5_cell_29, f_2_2, y_ic_lt_t, y_ic_lt_f, b_X5_cell_42, b_X5_cell_45, x_loadI_3, q_isL_I, q_isL_R, q_isL_S, true_and, and_true, and_self, List.length_nil, List.length_cons, Nat.zero_add, x_K, x_Kn, Int.reduceToNat, Nat.reduceAdd, Nat.reduceMul, Nat.reduceLeDiff, Nat.reduceLT, Nat.zero_le, Int.reduceAdd, Int.reduceSub, Int.reduceMul, Int.reduceNeg, q_add_e, q_sub_e, q_mul_e, q_neg_e, q_upd_s, q_upd_n, zr_shr0, zr_shr1, zr_shr2, zr_shr3, zr_shr4, zr_and, zr_dyn8, zr_or, zr_shl, q_cpy_n, y_cpy26, c_X5_isSheet, sp_isSheet, c1, and_self, if_true, c_X2_isMissing, sp_isMissing, c2, if_false]
          exact hq
        · rw [if_neg (by omega), if_pos rfl] at hq
          have wr : ∀ (nx : Nat) (ops : List Instr) (ls st : List q_V), (q_T 1 (d + 1) qP_X5_cell nx ops ls st g (q_upd M (6 + (86 + 2 * s.toNat) + 1) i.toNat (F_cvt (M (6 + (86 + 2 * s.toNat)) 1) v)) Q) → q_S 1 d 45 [qR 2 (6 + (86 + 2 * s.toNat)), qI i, qI v] g M (q_K 1 (d + 1) qP_X5_cell nx ops ls st Q) := fun nx ops ls st h => sp_write (by omega) (by omega) (by omega) h
          simp (disch := omega) only [b_X5_cell_0, x_loadI_1, y_if_ne_t, y_if_ne_f, b_X5_cell_7, x_iconst, x_ret0, b_X5_cell_10, x_loadR_0, x_loadS_0, f_5_7, y_aald9, y_if_eq_t, y_if_eq_f, b_X5_cell_22, b_X5_cell_25, x_loadI_2, y_if_lt_t, y_if_lt_f, b_X5_cell_29, f_2_2, y_ic_lt_t, y_ic_lt_f, b_X5_cell_42, b_X5_cell_45, x_loadI_3, q_isL_I, q_isL_R, q_isL_S, true_and, and_true, and_self, List.length_nil, List.length_cons, Nat.zero_add, x_K, x_Kn, Int.reduceToNat, Nat.reduceAdd, Nat.reduceMul, Nat.reduceLeDiff, Nat.reduceLT, Nat.zero_le, Int.reduceAdd, Int.reduceSub, Int.reduceMul, Int.reduceNeg, q_add_e, q_sub_e, q_mul_e, q_neg_e, q_upd_s, q_upd_n, zr_shr0, zr_shr1, zr_shr2, zr_shr3, zr_shr4, zr_and, zr_dyn8, zr_or, zr_shl, q_cpy_n, y_cpy26, c_X5_isSheet, sp_isSheet, c1, and_self, if_true, c_X2_isMissing, sp_isMissing, c2, if_false, c_X2_write]
          refine wr _ _ _ _ ?_
          simp (disch := omega) only [b_X5_cell_0, x_loadI_1, y_if_ne_t, y_if_ne_f, b_X5_cell_7, x_iconst, x_ret0, b_X5_cell_10, x_loadR_0, x_loadS_0, f_5_7, y_aald9, y_if_eq_t, y_if_eq_f, b_X5_cell_22, b_X5_cell_25, x_loadI_2, y_if_lt_t, y_if_lt_f, b_X5_cell_29, f_2_2, y_ic_lt_t, y_ic_lt_f, b_X5_cell_42, b_X5_cell_45, x_loadI_3, q_isL_I, q_isL_R, q_isL_S, true_and, and_true, and_self, List.length_nil, List.length_cons, Nat.zero_add, x_K, x_Kn, Int.reduceToNat, Nat.reduceAdd, Nat.reduceMul, Nat.reduceLeDiff, Nat.reduceLT, Nat.zero_le, Int.reduceAdd, Int.reduceSub, Int.reduceMul, Int.reduceNeg, q_add_e, q_sub_e, q_mul_e, q_neg_e, q_upd_s, q_upd_n, zr_shr0, zr_shr1, zr_shr2, zr_shr3, zr_shr4, zr_and, zr_dyn8, zr_or, zr_shl, q_cpy_n, y_cpy26]
          exact hq
  · rw [if_pos c1, if_neg (by omega)] at hq
    simp (disch := omega) only [b_X5_cell_0, x_loadI_1, y_if_ne_t, y_if_ne_f, b_X5_cell_7, x_iconst, x_ret0, b_X5_cell_10, x_loadR_0, x_loadS_0, f_5_7, y_aald9, y_if_eq_t, y_if_eq_f, b_X5_cell_22, b_X5_cell_25, x_loadI_2, y_if_lt_t, y_if_lt_f, b_X5_cell_29, f_2_2, y_ic_lt_t, y_ic_lt_f, b_X5_cell_42, b_X5_cell_45, x_loadI_3, q_isL_I, q_isL_R, q_isL_S, true_and, and_true, and_self, List.length_nil, List.length_cons, Nat.zero_add, x_K, x_Kn, Int.reduceToNat, Nat.reduceAdd, Nat.reduceMul, Nat.reduceLeDiff, Nat.reduceLT, Nat.zero_le, Int.reduceAdd, Int.reduceSub, Int.reduceMul, Int.reduceNeg, q_add_e, q_sub_e, q_mul_e, q_neg_e, q_upd_s, q_upd_n, zr_shr0, zr_shr1, zr_shr2, zr_shr3, zr_shr4, zr_and, zr_dyn8, zr_or, zr_shl, q_cpy_n, y_cpy26, c_X5_isSheet, sp_isSheet, c1, if_false]
    exact hq
end
section
/-! THE CLASS'S ENTRIES: film, image, back, force -/
theorem q_i2b_b : ∀ k : Nat, k < 100 → q_i2b (k : Int) = k := by decide +kernel
theorem q_i2b_e {x : Int} (h0 : 0 ≤ x) (h1 : x ≤ 99) : q_i2b x = x := by
  have h := q_i2b_b x.toNat (by omega)
  rw [show ((x.toNat : Nat) : Int) = x by omega] at h
  exact h
theorem q_tq_upd {M M2 : q_M} {a i : Nat} {v : Int} (h : q_tq M M2) : q_tq (q_upd M a i v) (q_upd M2 a i v) := by
  intro b j h1 h2 h3 h4
  by_cases c : b = a ∧ j = i
  · obtain ⟨rfl, rfl⟩ := c
    rw [q_upd_s, q_upd_s]
  · rw [q_upd_n (by omega), q_upd_n (by omega)]
    exact h b j h1 h2 h3 h4
/-- where stone p lies behind 1, .. k years -/
def F_flm (V : Nat → (Nat → Int) → Int) (S : q_M) (p k : Nat) : Nat → Int := fun i => if i < k then F_ys V S (i + 1) 2 p else 0
theorem F_flm_u {V : Nat → (Nat → Int) → Int} {S : q_M} {p k : Nat} : F_u (F_flm V S p k) k (F_ys V S (k + 1) 2 p) = F_flm V S p (k + 1) := by
  funext i
  unfold F_u F_flm
  by_cases c : i = k
  · rw [if_pos c, if_pos (by omega), c]
  · rw [if_neg c]
    by_cases c2 : i < k
    · rw [if_pos c2, if_pos (by omega)]
    · rw [if_neg c2, if_neg (by omega)]
def A_film (M : q_M) (s p n : Int) : Int := if ¬(0 ≤ s ∧ s < 4) then -2 else if ¬(0 ≤ p ∧ p < M 12 5) then -5 else if ¬(0 ≤ n ∧ n ≤ 20) then -7 else n
def q_filmM (V : Nat → (Nat → Int) → Int) (M : q_M) (s p n : Int) : q_M := if (0 ≤ s ∧ s < 4) ∧ (0 ≤ p ∧ p < M 12 5) ∧ (0 ≤ n ∧ n ≤ 20) then q_shM M (6 + (86 + 2 * s.toNat)) 0 n (F_flm V (cW M 11) p.toNat n.toNat) else M
set_option maxHeartbeats 4000000 in
theorem sp_film {V : Nat → (Nat → Int) → Int} {d : Nat} {g : q_G} {M : q_M} {ta : Nat} {s p n : Int} {Q : Option q_V → q_G → q_M → Prop} (C : q_ci V M ta) (hq : ∀ M2 : q_M, q_tq (q_filmM V M s p n) M2 → Q (some (qI (A_film M s p n))) g M2) : q_S 1 (d + 6) 88 [qR 5 0, qI s, qI p, qI n] g M Q := by
  have h12 := q_ci_n C
  have h9 := q_ci_y C
  have hta := C.1
  unfold q_tas at hta
  rw [s_X5_film]
  by_cases c1 : 0 ≤ s ∧ s < 4
  · by_cases c2 : 0 ≤ p ∧ p < M 12 5
    · by_cases c3 : 0 ≤ n ∧ n ≤ 20
      · rw [show A_film M s p n = n by (unfold A_film; rw [if_neg (fun z => z c1), if_neg (fun z => z c2), if_neg (fun z => z c3)]), show q_filmM V M s p n = q_shM M (6 + (86 + 2 * s.toNat)) 0 n (F_flm V (cW M 11) p.toNat n.toNat) from if_pos ⟨c1, c2, c3⟩] at hq
        obtain ⟨S, rfl⟩ : ∃ S : Nat, s = S := ⟨s.toNat, by omega⟩
        obtain ⟨N, rfl⟩ : ∃ N : Nat, p = N := ⟨p.toNat, by omega⟩
        obtain ⟨K, rfl⟩ : ∃ K : Nat, n = K := ⟨n.toNat, by omega⟩
        simp only [Int.toNat_natCast] at hq
        have loop : ∀ j k : Nat, k + j = K → ∀ M1 : q_M, q_wl V M1 38 ta → cW M1 38 = F_ys V (cW M 11) k → q_z5 M1 38 → M1 38 9 + j ≤ 2000 → M1 (38 + 1) 5 = M 12 5 → q_tq (q_shM M (6 + (86 + 2 * S)) 0 K (F_flm V (cW M 11) N k)) M1 → q_T 1 (d + 6) qP_X5_film 59 [] [qR 5 0, qI S, qI N, qI K, qI k] [] g M1 Q := by
          intro j
          induction j with
          | zero =>
            intro k hk M1 hw hc hz hy hn hf
            have e : k = K := by omega
            subst e
            rw [b_X5_film_59]
            simp (disch := omega) only [b_X5_film_0, x_loadI_1, y_if_ne_t, y_if_ne_f, b_X5_film_7, x_iconst, x_ret0, b_X5_film_10, x_loadR_0, x_loadS_0, x_loadI_2, b_X5_film_18, b_X5_film_21, x_loadI_3, y_if_lt_t, y_if_lt_f, b_X5_film_25, y_ic_le_t, y_ic_le_f, b_X5_film_31, b_X5_film_34, f_5_4, f_5_3, f_5_7, y_aald9, x_storeI_4, x_loadI_4, y_ic_ge_t, y_ic_ge_f, b_X5_film_65, x_popI, x_popR, f_4_6, y_iald_26, x_iinc_4, x_goto, b_X5_film_99, q_isL_I, q_isL_R, q_isL_S, true_and, and_true, and_self, List.length_nil, List.length_cons, Nat.zero_add, x_K, x_Kn, Int.reduceToNat, Nat.reduceAdd, Nat.reduceMul, Nat.reduceLeDiff, Nat.reduceLT, Nat.zero_le, Int.reduceAdd, Int.reduceSub, Int.reduceMul, Int.reduceNeg, q_add_e, q_sub_e, q_mul_e, q_neg_e, q_upd_s, q_upd_n, zr_shr0, zr_shr1, zr_shr2, zr_shr3, zr_shr4, zr_and, zr_dyn8, zr_or, zr_shl, q_cpy_n, y_cpy26]
            exact hq M1 hf
          | succ j ih =>
            intro k hk M1 hw hc hz hy hn hf
            rw [b_X5_film_59]
            simp (disch := omega) only [b_X5_film_0, x_loadI_1, y_if_ne_t, y_if_ne_f, b_X5_film_7, x_iconst, x_ret0, b_X5_film_10, x_loadR_0, x_loadS_0, x_loadI_2, b_X5_film_18, b_X5_film_21, x_loadI_3, y_if_lt_t, y_if_lt_f, b_X5_film_25, y_ic_le_t, y_ic_le_f, b_X5_film_31, b_X5_film_34, f_5_4, f_5_3, f_5_7, y_aald9, x_storeI_4, x_loadI_4, y_ic_ge_t, y_ic_ge_f, b_X5_film_65, x_popI, x_popR, f_4_6, y_iald_26, x_iinc_4, x_goto, b_X5_film_99, q_isL_I, q_isL_R, q_isL_S, true_and, and_true, and_self, List.length_nil, List.length_cons, Nat.zero_add, x_K, x_Kn, Int.reduceToNat, Nat.reduceAdd, Nat.reduceMul, Nat.reduceLeDiff, Nat.reduceLT, Nat.zero_le, Int.reduceAdd, Int.reduceSub, Int.reduceMul, Int.reduceNeg, q_add_e, q_sub_e, q_mul_e, q_neg_e, q_upd_s, q_upd_n, zr_shr0, zr_shr1, zr_shr2, zr_shr3, zr_shr4, zr_and, zr_dyn8, zr_or, zr_shl, q_cpy_n, y_cpy26, c_X4_passYear]
            refine sp_passYear hw hz.1 (by omega) (fun M2 h1 h2 h3 => ?_)
            have hy2 := F_year_y h2
            have h4 := q_tq_tr hf (q_tq_th C.1 (q_th_yn h3))
            have e5 : M2 (38 + 1) 5 = M1 (38 + 1) 5 := h3 _ 5 (by omega) (by omega) (by omega) (by omega)
            have hc2 : cW M2 38 = F_ys V (cW M 11) (k + 1) := by rw [h2, hc]; rfl
            have ea : F_ys V (cW M 11) (k + 1) 2 N = M2 62 N := by rw [← hc2]; exact cW_2 (by rw [e5, hn]; omega)
            have a1 : M2 (6 + (86 + 2 * S)) 1 = 0 := (h4 _ 1 (by omega) (by omega) (by omega) (by omega)).trans q_shM_1
            have a2 : M2 (6 + (86 + 2 * S)) 2 = K := (h4 _ 2 (by omega) (by omega) (by omega) (by omega)).trans q_shM_2
            have hb : 0 ≤ M2 62 N ∧ M2 62 N ≤ 99 := h1.1.2.2.2.2.1 N
            have wr : ∀ (nx : Nat) (ops : List Instr) (ls st : List q_V), (q_T 1 (d + 6) qP_X5_film nx ops ls st g (q_upd M2 (6 + (86 + 2 * S) + 1) k (M2 62 N)) Q) → q_S 1 (d + 5) 45 [qR 2 (6 + (86 + 2 * S)), qI k, qI (M2 62 N)] g M2 (q_K 1 (d + 6) qP_X5_film nx ops ls st Q) := fun nx ops ls st h => sp_write (by omega) (by omega) (by omega) (by
              rw [a1, show F_cvt 0 (M2 62 N) = q_i2b (M2 62 N) from if_pos rfl, q_i2b_e hb.1 hb.2, Int.toNat_natCast]
              exact h)
            simp (disch := omega) only [b_X5_film_0, x_loadI_1, y_if_ne_t, y_if_ne_f, b_X5_film_7, x_iconst, x_ret0, b_X5_film_10, x_loadR_0, x_loadS_0, x_loadI_2, b_X5_film_18, b_X5_film_21, x_loadI_3, y_if_lt_t, y_if_lt_f, b_X5_film_25, y_ic_le_t, y_ic_le_f, b_X5_film_31, b_X5_film_34, f_5_4, f_5_3, f_5_7, y_aald9, x_storeI_4, x_loadI_4, y_ic_ge_t, y_ic_ge_f, b_X5_film_65, x_popI, x_popR, f_4_6, y_iald_26, x_iinc_4, x_goto, b_X5_film_99, q_isL_I, q_isL_R, q_isL_S, true_and, and_true, and_self, List.length_nil, List.length_cons, Nat.zero_add, x_K, x_Kn, Int.reduceToNat, Nat.reduceAdd, Nat.reduceMul, Nat.reduceLeDiff, Nat.reduceLT, Nat.zero_le, Int.reduceAdd, Int.reduceSub, Int.reduceMul, Int.reduceNeg, q_add_e, q_sub_e, q_mul_e, q_neg_e, q_upd_s, q_upd_n, zr_shr0, zr_shr1, zr_shr2, zr_shr3, zr_shr4, zr_and, zr_dyn8, zr_or, zr_shl, q_cpy_n, y_cpy26, c_X2_write, Int.toNat_natCast]
            refine wr _ _ _ _ ?_
            simp (disch := omega) only [b_X5_film_0, x_loadI_1, y_if_ne_t, y_if_ne_f, b_X5_film_7, x_iconst, x_ret0, b_X5_film_10, x_loadR_0, x_loadS_0, x_loadI_2, b_X5_film_18, b_X5_film_21, x_loadI_3, y_if_lt_t, y_if_lt_f, b_X5_film_25, y_ic_le_t, y_ic_le_f, b_X5_film_31, b_X5_film_34, f_5_4, f_5_3, f_5_7, y_aald9, x_storeI_4, x_loadI_4, y_ic_ge_t, y_ic_ge_f, b_X5_film_65, x_popI, x_popR, f_4_6, y_iald_26, x_iinc_4, x_goto, b_X5_film_99, q_isL_I, q_isL_R, q_isL_S, true_and, and_true, and_self, List.length_nil, List.length_cons, Nat.zero_add, x_K, x_Kn, Int.reduceToNat, Nat.reduceAdd, Nat.reduceMul, Nat.reduceLeDiff, Nat.reduceLT, Nat.zero_le, Int.reduceAdd, Int.reduceSub, Int.reduceMul, Int.reduceNeg, q_add_e, q_sub_e, q_mul_e, q_neg_e, q_upd_s, q_upd_n, zr_shr0, zr_shr1, zr_shr2, zr_shr3, zr_shr4, zr_and, zr_dyn8, zr_or, zr_shl, q_cpy_n, y_cpy26]
            have h5 := q_tq_upd (a := 6 + (86 + 2 * S) + 1) (i := k) (v := M2 62 N) h4
            rw [q_shM_u (by omega), ← ea, F_flm_u, ea] at h5
            refine ih (k + 1) (by omega) _ (q_wl_eq (fun a i ha => q_upd_n (by omega)) h1) ?_ (q_z5_eq (fun a q1 q2 => (q_upd_n (by omega)).trans (h3 a 5 (by omega) (by omega) (by omega) (by omega))) hz) ?_ ?_ h5
            · rw [← hc2]
              exact cW_same (fun a i ha => q_upd_n (by omega))
            · rw [q_upd_n (by omega)]
              omega
            · rw [q_upd_n (by omega)]
              exact e5.trans hn
        have bec : ∀ (M2 : q_M) (nx : Nat) (ops : List Instr) (ls st : List q_V), (q_T 1 (d + 6) qP_X5_film nx ops ls st g (q_shM M2 (6 + (86 + 2 * S)) 0 K (fun _ => 0)) Q) → q_S 1 (d + 5) 44 [qR 2 (6 + (86 + 2 * S)), qI 0, qI K] g M2 (q_K 1 (d + 6) qP_X5_film nx ops ls st Q) := fun M2 nx ops ls st h => sp_become h
        simp (disch := omega) only [b_X5_film_0, x_loadI_1, y_if_ne_t, y_if_ne_f, b_X5_film_7, x_iconst, x_ret0, b_X5_film_10, x_loadR_0, x_loadS_0, x_loadI_2, b_X5_film_18, b_X5_film_21, x_loadI_3, y_if_lt_t, y_if_lt_f, b_X5_film_25, y_ic_le_t, y_ic_le_f, b_X5_film_31, b_X5_film_34, f_5_4, f_5_3, f_5_7, y_aald9, x_storeI_4, x_loadI_4, y_ic_ge_t, y_ic_ge_f, b_X5_film_65, x_popI, x_popR, f_4_6, y_iald_26, x_iinc_4, x_goto, b_X5_film_99, q_isL_I, q_isL_R, q_isL_S, true_and, and_true, and_self, List.length_nil, List.length_cons, Nat.zero_add, x_K, x_Kn, Int.reduceToNat, Nat.reduceAdd, Nat.reduceMul, Nat.reduceLeDiff, Nat.reduceLT, Nat.zero_le, Int.reduceAdd, Int.reduceSub, Int.reduceMul, Int.reduceNeg, q_add_e, q_sub_e, q_mul_e, q_neg_e, q_upd_s, q_upd_n, zr_shr0, zr_shr1, zr_shr2, zr_shr3, zr_shr4, zr_and, zr_dyn8, zr_or, zr_shl, q_cpy_n, y_cpy26, c_X5_isSheet, sp_isSheet, c1, c_X5_isStone, sp_isStone, c2, and_self, if_true, c_X4_copyFrom]
        refine sp_think C q_tq_rf (fun M2 h2 => ?_)
        obtain ⟨t1, t2, t3, t4, t5, t6⟩ := h2
        simp (disch := omega) only [b_X5_film_0, x_loadI_1, y_if_ne_t, y_if_ne_f, b_X5_film_7, x_iconst, x_ret0, b_X5_film_10, x_loadR_0, x_loadS_0, x_loadI_2, b_X5_film_18, b_X5_film_21, x_loadI_3, y_if_lt_t, y_if_lt_f, b_X5_film_25, y_ic_le_t, y_ic_le_f, b_X5_film_31, b_X5_film_34, f_5_4, f_5_3, f_5_7, y_aald9, x_storeI_4, x_loadI_4, y_ic_ge_t, y_ic_ge_f, b_X5_film_65, x_popI, x_popR, f_4_6, y_iald_26, x_iinc_4, x_goto, b_X5_film_99, q_isL_I, q_isL_R, q_isL_S, true_and, and_true, and_self, List.length_nil, List.length_cons, Nat.zero_add, x_K, x_Kn, Int.reduceToNat, Nat.reduceAdd, Nat.reduceMul, Nat.reduceLeDiff, Nat.reduceLT, Nat.zero_le, Int.reduceAdd, Int.reduceSub, Int.reduceMul, Int.reduceNeg, q_add_e, q_sub_e, q_mul_e, q_neg_e, q_upd_s, q_upd_n, zr_shr0, zr_shr1, zr_shr2, zr_shr3, zr_shr4, zr_and, zr_dyn8, zr_or, zr_shl, q_cpy_n, y_cpy26, c_X2_become, Int.toNat_natCast]
        refine bec _ _ _ _ _ ?_
        simp (disch := omega) only [b_X5_film_0, x_loadI_1, y_if_ne_t, y_if_ne_f, b_X5_film_7, x_iconst, x_ret0, b_X5_film_10, x_loadR_0, x_loadS_0, x_loadI_2, b_X5_film_18, b_X5_film_21, x_loadI_3, y_if_lt_t, y_if_lt_f, b_X5_film_25, y_ic_le_t, y_ic_le_f, b_X5_film_31, b_X5_film_34, f_5_4, f_5_3, f_5_7, y_aald9, x_storeI_4, x_loadI_4, y_ic_ge_t, y_ic_ge_f, b_X5_film_65, x_popI, x_popR, f_4_6, y_iald_26, x_iinc_4, x_goto, b_X5_film_99, q_isL_I, q_isL_R, q_isL_S, true_and, and_true, and_self, List.length_nil, List.length_cons, Nat.zero_add, x_K, x_Kn, Int.reduceToNat, Nat.reduceAdd, Nat.reduceMul, Nat.reduceLeDiff, Nat.reduceLT, Nat.zero_le, Int.reduceAdd, Int.reduceSub, Int.reduceMul, Int.reduceNeg, q_add_e, q_sub_e, q_mul_e, q_neg_e, q_upd_s, q_upd_n, zr_shr0, zr_shr1, zr_shr2, zr_shr3, zr_shr4, zr_and, zr_dyn8, zr_or, zr_shl, q_cpy_n, y_cpy26]
        refine loop K 0 (by omega) _ (q_wl_eq (fun a i ha => q_shM_n (by omega) (by omega)) t1) ?_ (q_z5_eq (fun a q1 q2 => q_shM_n (by omega) (by omega)) t3) ?_ ?_ ?_
        · rw [show F_ys V (cW M 11) 0 = cW M 11 from rfl, ← t2]
          exact cW_same (fun a i ha => q_shM_n (by omega) (by omega))
        · rw [q_shM_n (by omega) (by omega)]
          omega
        · rw [q_shM_n (by omega) (by omega)]
          exact t5
        · intro b i h1 h2 h3 h4
          have e := t6 b i h1 h2 h3 h4
          unfold q_shM F_flm
          by_cases k1 : b = 6 + (86 + 2 * S) + 1 ∧ i < 40
          · rw [if_pos k1, if_pos k1, if_neg (by omega)]
          · rw [if_neg k1, if_neg k1, e]
      · rw [show A_film M s p n = -7 by (unfold A_film; rw [if_neg (fun z => z c1), if_neg (fun z => z c2), if_pos c3]), show q_filmM V M s p n = M from if_neg (fun z => c3 z.2.2)] at hq
        rcases (show n < 0 ∨ 20 < n by omega) with e | e
        · simp (disch := omega) only [b_X5_film_0, x_loadI_1, y_if_ne_t, y_if_ne_f, b_X5_film_7, x_iconst, x_ret0, b_X5_film_10, x_loadR_0, x_loadS_0, x_loadI_2, b_X5_film_18, b_X5_film_21, x_loadI_3, y_if_lt_t, y_if_lt_f, b_X5_film_25, y_ic_le_t, y_ic_le_f, b_X5_film_31, b_X5_film_34, f_5_4, f_5_3, f_5_7, y_aald9, x_storeI_4, x_loadI_4, y_ic_ge_t, y_ic_ge_f, b_X5_film_65, x_popI, x_popR, f_4_6, y_iald_26, x_iinc_4, x_goto, b_X5_film_99, q_isL_I, q_isL_R, q_isL_S, true_and, and_true, and_self, List.length_nil, List.length_cons, Nat.zero_add, x_K, x_Kn, Int.reduceToNat, Nat.reduceAdd, Nat.reduceMul, Nat.reduceLeDiff, Nat.reduceLT, Nat.zero_le, Int.reduceAdd, Int.reduceSub, Int.reduceMul, Int.reduceNeg, q_add_e, q_sub_e, q_mul_e, q_neg_e, q_upd_s, q_upd_n, zr_shr0, zr_shr1, zr_shr2, zr_shr3, zr_shr4, zr_and, zr_dyn8, zr_or, zr_shl, q_cpy_n, y_cpy26, c_X5_isSheet, sp_isSheet, c1, c_X5_isStone, sp_isStone, c2, and_self, if_true]
          exact hq M q_tq_rf
        · simp (disch := omega) only [b_X5_film_0, x_loadI_1, y_if_ne_t, y_if_ne_f, b_X5_film_7, x_iconst, x_ret0, b_X5_film_10, x_loadR_0, x_loadS_0, x_loadI_2, b_X5_film_18, b_X5_film_21, x_loadI_3, y_if_lt_t, y_if_lt_f, b_X5_film_25, y_ic_le_t, y_ic_le_f, b_X5_film_31, b_X5_film_34, f_5_4, f_5_3, f_5_7, y_aald9, x_storeI_4, x_loadI_4, y_ic_ge_t, y_ic_ge_f, b_X5_film_65, x_popI, x_popR, f_4_6, y_iald_26, x_iinc_4, x_goto, b_X5_film_99, q_isL_I, q_isL_R, q_isL_S, true_and, and_true, and_self, List.length_nil, List.length_cons, Nat.zero_add, x_K, x_Kn, Int.reduceToNat, Nat.reduceAdd, Nat.reduceMul, Nat.reduceLeDiff, Nat.reduceLT, Nat.zero_le, Int.reduceAdd, Int.reduceSub, Int.reduceMul, Int.reduceNeg, q_add_e, q_sub_e, q_mul_e, q_neg_e, q_upd_s, q_upd_n, zr_shr0, zr_shr1, zr_shr2, zr_shr3, zr_shr4, zr_and, zr_dyn8, zr_or, zr_shl, q_cpy_n, y_cpy26, c_X5_isSheet, sp_isSheet, c1, c_X5_isStone, sp_isStone, c2, and_self, if_true]
          exact hq M q_tq_rf
    · rw [show A_film M s p n = -5 by (unfold A_film; rw [if_neg (fun z => z c1), if_pos c2]), show q_filmM V M s p n = M from if_neg (fun z => c2 z.2.1)] at hq
      simp (disch := omega) only [b_X5_film_0, x_loadI_1, y_if_ne_t, y_if_ne_f, b_X5_film_7, x_iconst, x_ret0, b_X5_film_10, x_loadR_0, x_loadS_0, x_loadI_2, b_X5_film_18, b_X5_film_21, x_loadI_3, y_if_lt_t, y_if_lt_f, b_X5_film_25, y_ic_le_t, y_ic_le_f, b_X5_film_31, b_X5_film_34, f_5_4, f_5_3, f_5_7, y_aald9, x_storeI_4, x_loadI_4, y_ic_ge_t, y_ic_ge_f, b_X5_film_65, x_popI, x_popR, f_4_6, y_iald_26, x_iinc_4, x_goto, b_X5_film_99, q_isL_I, q_isL_R, q_isL_S, true_and, and_true, and_self, List.length_nil, List.length_cons, Nat.zero_add, x_K, x_Kn, Int.reduceToNat, Nat.reduceAdd, Nat.reduceMul, Nat.reduceLeDiff, Nat.reduceLT, Nat.zero_le, Int.reduceAdd, Int.reduceSub, Int.reduceMul, Int.reduceNeg, q_add_e, q_sub_e, q_mul_e, q_neg_e, q_upd_s, q_upd_n, zr_shr0, zr_shr1, zr_shr2, zr_shr3, zr_shr4, zr_and, zr_dyn8, zr_or, zr_shl, q_cpy_n, y_cpy26, c_X5_isSheet, sp_isSheet, c1, c_X5_isStone, sp_isStone, c2, and_self, if_true, if_false]
      exact hq M q_tq_rf
  · rw [show A_film M s p n = -2 by (unfold A_film; rw [if_pos c1]), show q_filmM V M s p n = M from if_neg (fun z => c1 z.1)] at hq
    simp (disch := omega) only [b_X5_film_0, x_loadI_1, y_if_ne_t, y_if_ne_f, b_X5_film_7, x_iconst, x_ret0, b_X5_film_10, x_loadR_0, x_loadS_0, x_loadI_2, b_X5_film_18, b_X5_film_21, x_loadI_3, y_if_lt_t, y_if_lt_f, b_X5_film_25, y_ic_le_t, y_ic_le_f, b_X5_film_31, b_X5_film_34, f_5_4, f_5_3, f_5_7, y_aald9, x_storeI_4, x_loadI_4, y_ic_ge_t, y_ic_ge_f, b_X5_film_65, x_popI, x_popR, f_4_6, y_iald_26, x_iinc_4, x_goto, b_X5_film_99, q_isL_I, q_isL_R, q_isL_S, true_and, and_true, and_self, List.length_nil, List.length_cons, Nat.zero_add, x_K, x_Kn, Int.reduceToNat, Nat.reduceAdd, Nat.reduceMul, Nat.reduceLeDiff, Nat.reduceLT, Nat.zero_le, Int.reduceAdd, Int.reduceSub, Int.reduceMul, Int.reduceNeg, q_add_e, q_sub_e, q_mul_e, q_neg_e, q_upd_s, q_upd_n, zr_shr0, zr_shr1, zr_shr2, zr_shr3, zr_shr4, zr_and, zr_dyn8, zr_or, zr_shl, q_cpy_n, y_cpy26, c_X5_isSheet, sp_isSheet, c1, if_false]
    exact hq M q_tq_rf
theorem sp_image {V : Nat → (Nat → Int) → Int} {d : Nat} {g : q_G} {M : q_M} {ta : Nat} {Q : Option q_V → q_G → q_M → Prop} (hw : q_wl V M 11 ta) (hq : ∀ M2 : q_M, q_cpd 65 11 M M2 → Q (some (qI (M 12 5))) g (q_upd M2 0 6 1)) : q_S 1 (d + 2) 91 [qR 5 0] g M Q := by
  have copy : ∀ (nx : Nat) (ops : List Instr) (ls st : List q_V), (∀ M2 : q_M, q_cpd 65 11 M M2 → q_T 1 (d + 2) qP_X5_image nx ops ls st g M2 Q) → q_S 1 (d + 1) 49 [qR 4 65, qR 4 11] g M (q_K 1 (d + 2) qP_X5_image nx ops ls st Q) := fun nx ops ls st h => sp_copyFrom (by omega) hw.2.2.2.1 hw.2.2.2.2.1 h
  rw [s_X5_image]
  simp (disch := omega) only [b_X5_image_0, x_loadR_0, x_loadS_0, f_5_5, f_5_3, x_iconst, p_5_6, f_4_0, f_0_5, x_ret0, q_isL_I, q_isL_R, q_isL_S, true_and, and_true, and_self, List.length_nil, List.length_cons, Nat.zero_add, x_K, x_Kn, Int.reduceToNat, Nat.reduceAdd, Nat.reduceMul, Nat.reduceLeDiff, Nat.reduceLT, Nat.zero_le, Int.reduceAdd, Int.reduceSub, Int.reduceMul, Int.reduceNeg, q_add_e, q_sub_e, q_mul_e, q_neg_e, q_upd_s, q_upd_n, zr_shr0, zr_shr1, zr_shr2, zr_shr3, zr_shr4, zr_and, zr_dyn8, zr_or, zr_shl, q_cpy_n, y_cpy26, c_X4_copyFrom]
  refine copy _ _ _ _ (fun M2 h2 => ?_)
  have e5 : M2 66 5 = M 12 5 := h2.2.1
  simp (disch := omega) only [b_X5_image_0, x_loadR_0, x_loadS_0, f_5_5, f_5_3, x_iconst, p_5_6, f_4_0, f_0_5, x_ret0, q_isL_I, q_isL_R, q_isL_S, true_and, and_true, and_self, List.length_nil, List.length_cons, Nat.zero_add, x_K, x_Kn, Int.reduceToNat, Nat.reduceAdd, Nat.reduceMul, Nat.reduceLeDiff, Nat.reduceLT, Nat.zero_le, Int.reduceAdd, Int.reduceSub, Int.reduceMul, Int.reduceNeg, q_add_e, q_sub_e, q_mul_e, q_neg_e, q_upd_s, q_upd_n, zr_shr0, zr_shr1, zr_shr2, zr_shr3, zr_shr4, zr_and, zr_dyn8, zr_or, zr_shl, q_cpy_n, y_cpy26, or_true, e5]
  exact hq M2 h2
theorem sp_backF {d : Nat} {g : q_G} {M : q_M} {Q : Option q_V → q_G → q_M → Prop} (h : M 0 6 = 0) (hq : Q (some (qI (-3))) g M) : q_S 1 d 92 [qR 5 0] g M Q := by
  rw [s_X5_back]
  simp (disch := omega) only [b_X5_back_0, x_loadR_0, x_loadS_0, f_5_6, y_if_ne_t, y_if_ne_f, b_X5_back_7, x_iconst, x_ret0, b_X5_back_10, f_5_3, f_5_5, f_4_0, f_0_5, q_isL_I, q_isL_R, q_isL_S, true_and, and_true, and_self, List.length_nil, List.length_cons, Nat.zero_add, x_K, x_Kn, Int.reduceToNat, Nat.reduceAdd, Nat.reduceMul, Nat.reduceLeDiff, Nat.reduceLT, Nat.zero_le, Int.reduceAdd, Int.reduceSub, Int.reduceMul, Int.reduceNeg, q_add_e, q_sub_e, q_mul_e, q_neg_e, q_upd_s, q_upd_n, zr_shr0, zr_shr1, zr_shr2, zr_shr3, zr_shr4, zr_and, zr_dyn8, zr_or, zr_shl, q_cpy_n, y_cpy26]
  exact hq
theorem sp_back {V : Nat → (Nat → Int) → Int} {d : Nat} {g : q_G} {M : q_M} {ta : Nat} {Q : Option q_V → q_G → q_M → Prop} (h : M 0 6 ≠ 0) (hla : M 65 10 = ta) (hta : ta < 2147483648) (hq : ∀ M2 : q_M, q_cpd 11 65 M M2 → Q (some (qI (M 66 5))) g M2) : q_S 1 (d + 2) 92 [qR 5 0] g M Q := by
  have copy : ∀ (nx : Nat) (ops : List Instr) (ls st : List q_V), (∀ M2 : q_M, q_cpd 11 65 M M2 → q_T 1 (d + 2) qP_X5_back nx ops ls st g M2 Q) → q_S 1 (d + 1) 49 [qR 4 11, qR 4 65] g M (q_K 1 (d + 2) qP_X5_back nx ops ls st Q) := fun nx ops ls st h => sp_copyFrom (by omega) hla hta h
  rw [s_X5_back]
  simp (disch := omega) only [b_X5_back_0, x_loadR_0, x_loadS_0, f_5_6, y_if_ne_t, y_if_ne_f, b_X5_back_7, x_iconst, x_ret0, b_X5_back_10, f_5_3, f_5_5, f_4_0, f_0_5, q_isL_I, q_isL_R, q_isL_S, true_and, and_true, and_self, List.length_nil, List.length_cons, Nat.zero_add, x_K, x_Kn, Int.reduceToNat, Nat.reduceAdd, Nat.reduceMul, Nat.reduceLeDiff, Nat.reduceLT, Nat.zero_le, Int.reduceAdd, Int.reduceSub, Int.reduceMul, Int.reduceNeg, q_add_e, q_sub_e, q_mul_e, q_neg_e, q_upd_s, q_upd_n, zr_shr0, zr_shr1, zr_shr2, zr_shr3, zr_shr4, zr_and, zr_dyn8, zr_or, zr_shl, q_cpy_n, y_cpy26, c_X4_copyFrom]
  refine copy _ _ _ _ (fun M2 h2 => ?_)
  have e5 : M2 12 5 = M 66 5 := h2.2.1
  simp (disch := omega) only [b_X5_back_0, x_loadR_0, x_loadS_0, f_5_6, y_if_ne_t, y_if_ne_f, b_X5_back_7, x_iconst, x_ret0, b_X5_back_10, f_5_3, f_5_5, f_4_0, f_0_5, q_isL_I, q_isL_R, q_isL_S, true_and, and_true, and_self, List.length_nil, List.length_cons, Nat.zero_add, x_K, x_Kn, Int.reduceToNat, Nat.reduceAdd, Nat.reduceMul, Nat.reduceLeDiff, Nat.reduceLT, Nat.zero_le, Int.reduceAdd, Int.reduceSub, Int.reduceMul, Int.reduceNeg, q_add_e, q_sub_e, q_mul_e, q_neg_e, q_upd_s, q_upd_n, zr_shr0, zr_shr1, zr_shr2, zr_shr3, zr_shr4, zr_and, zr_dyn8, zr_or, zr_shl, q_cpy_n, y_cpy26, e5]
  exact hq M2 h2
theorem sp_forceF {d tm : Nat} {g : q_G} {M : q_M} {t : Int} {Q : Option q_V → q_G → q_M → Prop} (htm : M 0 2 = tm) (h : ¬(0 ≤ t ∧ t < tm)) (hq : Q (some (qI (-2))) g M) : q_S 1 d 68 [qR 5 0, qI t] g M Q := by
  rw [s_X5_force]
  rcases (show t < 0 ∨ (0 ≤ t ∧ (tm : Int) ≤ t) by omega) with e | e
  · simp (disch := omega) only [b_X5_force_0, x_loadI_1, y_if_lt_t, y_if_lt_f, b_X5_force_4, x_loadR_0, x_loadS_0, f_5_2, y_ic_lt_t, y_ic_lt_f, b_X5_force_12, x_iconst, x_ret0, b_X5_force_15, f_5_3, f_4_10, f_3_0, x_storeI_2, f_5_1, y_aald8, p_4_10, x_loadI_2, q_isL_I, q_isL_R, q_isL_S, true_and, and_true, and_self, List.length_nil, List.length_cons, Nat.zero_add, x_K, x_Kn, Int.reduceToNat, Nat.reduceAdd, Nat.reduceMul, Nat.reduceLeDiff, Nat.reduceLT, Nat.zero_le, Int.reduceAdd, Int.reduceSub, Int.reduceMul, Int.reduceNeg, q_add_e, q_sub_e, q_mul_e, q_neg_e, q_upd_s, q_upd_n, zr_shr0, zr_shr1, zr_shr2, zr_shr3, zr_shr4, zr_and, zr_dyn8, zr_or, zr_shl, q_cpy_n, y_cpy26]
    exact hq
  · simp (disch := omega) only [b_X5_force_0, x_loadI_1, y_if_lt_t, y_if_lt_f, b_X5_force_4, x_loadR_0, x_loadS_0, f_5_2, y_ic_lt_t, y_ic_lt_f, b_X5_force_12, x_iconst, x_ret0, b_X5_force_15, f_5_3, f_4_10, f_3_0, x_storeI_2, f_5_1, y_aald8, p_4_10, x_loadI_2, q_isL_I, q_isL_R, q_isL_S, true_and, and_true, and_self, List.length_nil, List.length_cons, Nat.zero_add, x_K, x_Kn, Int.reduceToNat, Nat.reduceAdd, Nat.reduceMul, Nat.reduceLeDiff, Nat.reduceLT, Nat.zero_le, Int.reduceAdd, Int.reduceSub, Int.reduceMul, Int.reduceNeg, q_add_e, q_sub_e, q_mul_e, q_neg_e, q_upd_s, q_upd_n, zr_shr0, zr_shr1, zr_shr2, zr_shr3, zr_shr4, zr_and, zr_dyn8, zr_or, zr_shl, q_cpy_n, y_cpy26]
    exact hq
theorem sp_force {Vt : Nat → Nat → (Nat → Int) → Int} {d tm t l : Nat} {g : q_G} {M : q_M} {Q : Option q_V → q_G → q_M → Prop} (T : q_txs Vt tm M) (ht : t < tm) (hl : l < tm) (hla : M 11 10 = q_ta l) (hq : Q (some (qI l)) g (q_upd M 11 10 (q_ta t : Nat))) : q_S 1 d 68 [qR 5 0, qI t] g M Q := by
  obtain ⟨h1, h2, h3, h4⟩ := T
  obtain ⟨a1, a2, a3, a4⟩ := h4 t ht
  obtain ⟨b1, b2, b3, b4⟩ := h4 l hl
  have hta := q_ta_tas (t := t) (by omega)
  unfold q_tas at hta
  have hlt : q_ta t < 2147483648 := by omega
  have hy := q_dynT (k := 3) hla
  have hy2 := q_dynT (k := 3) a1
  rw [s_X5_force]
  simp (disch := omega) only [b_X5_force_0, x_loadI_1, y_if_lt_t, y_if_lt_f, b_X5_force_4, x_loadR_0, x_loadS_0, f_5_2, y_ic_lt_t, y_ic_lt_f, b_X5_force_12, x_iconst, x_ret0, b_X5_force_15, f_5_3, f_4_10, f_3_0, x_storeI_2, f_5_1, y_aald8, p_4_10, x_loadI_2, q_isL_I, q_isL_R, q_isL_S, true_and, and_true, and_self, List.length_nil, List.length_cons, Nat.zero_add, x_K, x_Kn, Int.reduceToNat, Nat.reduceAdd, Nat.reduceMul, Nat.reduceLeDiff, Nat.reduceLT, Nat.zero_le, Int.reduceAdd, Int.reduceSub, Int.reduceMul, Int.reduceNeg, q_add_e, q_sub_e, q_mul_e, q_neg_e, q_upd_s, q_upd_n, zr_shr0, zr_shr1, zr_shr2, zr_shr3, zr_shr4, zr_and, zr_dyn8, zr_or, zr_shl, q_cpy_n, y_cpy26, hy, hy2, b2, Int.toNat_natCast, hlt]
  exact hq
end
section
/-! THE CLASS'S ENTRIES: copy, stonesBy, taken -/
def A_copy (M : q_M) (s i o j n : Int) : Int :=
  if ¬((0 ≤ s ∧ s < 4) ∧ (0 ≤ o ∧ o < 4)) then -2
  else if M (6 + (86 + 2 * s.toNat)) 1 = -1 ∨ M (6 + (86 + 2 * o.toNat)) 1 = -1 then -11
  else if M (6 + (86 + 2 * s.toNat)) 1 ≠ M (6 + (86 + 2 * o.toNat)) 1 then -13
  else if n < 0 ∨ i < 0 ∨ j < 0 ∨ M (6 + (86 + 2 * s.toNat)) 2 - n < i ∨ M (6 + (86 + 2 * o.toNat)) 2 - n < j then -12 else n
def q_copyM (M : q_M) (s i o j n : Int) : q_M := if 0 ≤ A_copy M s i o j n then q_cpy M (6 + (86 + 2 * s.toNat) + 1) i.toNat (6 + (86 + 2 * o.toNat) + 1) j.toNat n.toNat else M
set_option maxHeartbeats 4000000 in
theorem sp_copy {d : Nat} {g : q_G} {M : q_M} {s i o j n : Int} {Q : Option q_V → q_G → q_M → Prop} (hs : q_shB M) (hn : n ≤ 2147483647) (hq : Q (some (qI (A_copy M s i o j n))) g (q_copyM M s i o j n)) : q_S 1 (d + 1) 95 [qR 5 0, qI s, qI i, qI o, qI j, qI n] g M Q := by
  rw [s_X5_copy]
  unfold q_copyM at hq
  by_cases c1 : 0 ≤ s ∧ s < 4
  · by_cases c2 : 0 ≤ o ∧ o < 4
    · have hb := hs s.toNat (by omega)
      have hb2 := hs o.toNat (by omega)
      by_cases c3 : M (6 + (86 + 2 * s.toNat)) 1 = -1
      · rw [show A_copy M s i o j n = -11 by (unfold A_copy; rw [if_neg (fun z => z ⟨c1, c2⟩), if_pos (Or.inl c3)]), if_neg (by omega)] at hq
        simp (disch := omega) only [b_X5_copy_0, x_loadI_1, y_if_eq_t, y_if_eq_f, b_X5_copy_7, x_loadI_3, y_if_ne_t, y_if_ne_f, b_X5_copy_14, x_iconst, x_ret0, b_X5_copy_17, x_loadR_0, x_loadS_0, f_5_7, y_aald9, x_storeR_6, x_storeR_7, x_loadR_6, x_loadS_6, b_X5_copy_41, x_loadR_7, x_loadS_7, b_X5_copy_49, b_X5_copy_52, f_2_1, y_ic_eq_t, y_ic_eq_f, b_X5_copy_65, b_X5_copy_68, x_loadI_5, y_if_lt_t, y_if_lt_f, b_X5_copy_73, x_loadI_2, b_X5_copy_77, x_loadI_4, b_X5_copy_82, f_2_2, x_isub, y_ic_gt_t, y_ic_gt_f, b_X5_copy_94, y_ic_le_t, y_ic_le_f, b_X5_copy_107, b_X5_copy_110, f_2_0, y_cpy26, q_isL_I, q_isL_R, q_isL_S, true_and, and_true, and_self, List.length_nil, List.length_cons, Nat.zero_add, x_K, x_Kn, Int.reduceToNat, Nat.reduceAdd, Nat.reduceMul, Nat.reduceLeDiff, Nat.reduceLT, Nat.zero_le, Int.reduceAdd, Int.reduceSub, Int.reduceMul, Int.reduceNeg, q_add_e, q_sub_e, q_mul_e, q_neg_e, q_upd_s, q_upd_n, zr_shr0, zr_shr1, zr_shr2, zr_shr3, zr_shr4, zr_and, zr_dyn8, zr_or, zr_shl, q_cpy_n, y_cpy26, c_X5_isSheet, sp_isSheet, c1, c2, and_self, if_true, c_X2_isMissing, sp_isMissing, c3]
        exact hq
      · by_cases c4 : M (6 + (86 + 2 * o.toNat)) 1 = -1
        · rw [show A_copy M s i o j n = -11 by (unfold A_copy; rw [if_neg (fun z => z ⟨c1, c2⟩), if_pos (Or.inr c4)]), if_neg (by omega)] at hq
          simp (disch := omega) only [b_X5_copy_0, x_loadI_1, y_if_eq_t, y_if_eq_f, b_X5_copy_7, x_loadI_3, y_if_ne_t, y_if_ne_f, b_X5_copy_14, x_iconst, x_ret0, b_X5_copy_17, x_loadR_0, x_loadS_0, f_5_7, y_aald9, x_storeR_6, x_storeR_7, x_loadR_6, x_loadS_6, b_X5_copy_41, x_loadR_7, x_loadS_7, b_X5_copy_49, b_X5_copy_52, f_2_1, y_ic_eq_t, y_ic_eq_f, b_X5_copy_65, b_X5_copy_68, x_loadI_5, y_if_lt_t, y_if_lt_f, b_X5_copy_73, x_loadI_2, b_X5_copy_77, x_loadI_4, b_X5_copy_82, f_2_2, x_isub, y_ic_gt_t, y_ic_gt_f, b_X5_copy_94, y_ic_le_t, y_ic_le_f, b_X5_copy_107, b_X5_copy_110, f_2_0, y_cpy26, q_isL_I, q_isL_R, q_isL_S, true_and, and_true, and_self, List.length_nil, List.length_cons, Nat.zero_add, x_K, x_Kn, Int.reduceToNat, Nat.reduceAdd, Nat.reduceMul, Nat.reduceLeDiff, Nat.reduceLT, Nat.zero_le, Int.reduceAdd, Int.reduceSub, Int.reduceMul, Int.reduceNeg, q_add_e, q_sub_e, q_mul_e, q_neg_e, q_upd_s, q_upd_n, zr_shr0, zr_shr1, zr_shr2, zr_shr3, zr_shr4, zr_and, zr_dyn8, zr_or, zr_shl, q_cpy_n, y_cpy26, c_X5_isSheet, sp_isSheet, c1, c2, and_self, if_true, c_X2_isMissing, sp_isMissing, c3, c4, if_false]
          exact hq
        · by_cases c5 : M (6 + (86 + 2 * s.toNat)) 1 ≠ M (6 + (86 + 2 * o.toNat)) 1
          · rw [show A_copy M s i o j n = -13 by (unfold A_copy; rw [if_neg (fun z => z ⟨c1, c2⟩), if_neg (fun z => z.elim c3 c4), if_pos c5]), if_neg (by omega)] at hq
            simp (disch := omega) only [b_X5_copy_0, x_loadI_1, y_if_eq_t, y_if_eq_f, b_X5_copy_7, x_loadI_3, y_if_ne_t, y_if_ne_f, b_X5_copy_14, x_iconst, x_ret0, b_X5_copy_17, x_loadR_0, x_loadS_0, f_5_7, y_aald9, x_storeR_6, x_storeR_7, x_loadR_6, x_loadS_6, b_X5_copy_41, x_loadR_7, x_loadS_7, b_X5_copy_49, b_X5_copy_52, f_2_1, y_ic_eq_t, y_ic_eq_f, b_X5_copy_65, b_X5_copy_68, x_loadI_5, y_if_lt_t, y_if_lt_f, b_X5_copy_73, x_loadI_2, b_X5_copy_77, x_loadI_4, b_X5_copy_82, f_2_2, x_isub, y_ic_gt_t, y_ic_gt_f, b_X5_copy_94, y_ic_le_t, y_ic_le_f, b_X5_copy_107, b_X5_copy_110, f_2_0, y_cpy26, q_isL_I, q_isL_R, q_isL_S, true_and, and_true, and_self, List.length_nil, List.length_cons, Nat.zero_add, x_K, x_Kn, Int.reduceToNat, Nat.reduceAdd, Nat.reduceMul, Nat.reduceLeDiff, Nat.reduceLT, Nat.zero_le, Int.reduceAdd, Int.reduceSub, Int.reduceMul, Int.reduceNeg, q_add_e, q_sub_e, q_mul_e, q_neg_e, q_upd_s, q_upd_n, zr_shr0, zr_shr1, zr_shr2, zr_shr3, zr_shr4, zr_and, zr_dyn8, zr_or, zr_shl, q_cpy_n, y_cpy26, c_X5_isSheet, sp_isSheet, c1, c2, and_self, if_true, c_X2_isMissing, sp_isMissing, c3, c4, if_false]
            exact hq
          · by_cases c6 : n < 0 ∨ i < 0 ∨ j < 0 ∨ M (6 + (86 + 2 * s.toNat)) 2 - n < i ∨ M (6 + (86 + 2 * o.toNat)) 2 - n < j
            · rw [show A_copy M s i o j n = -12 by (unfold A_copy; rw [if_neg (fun z => z ⟨c1, c2⟩), if_neg (fun z => z.elim c3 c4), if_neg c5, if_pos c6]), if_neg (by omega)] at hq
              rcases (show n < 0 ∨ (0 ≤ n ∧ i < 0) ∨ (0 ≤ n ∧ 0 ≤ i ∧ j < 0) ∨ (0 ≤ n ∧ 0 ≤ i ∧ 0 ≤ j ∧ M (6 + (86 + 2 * s.toNat)) 2 - n < i) ∨ (0 ≤ n ∧ 0 ≤ i ∧ 0 ≤ j ∧ i ≤ M (6 + (86 + 2 * s.toNat)) 2 - n ∧ M (6 + (86 + 2 * o.toNat)) 2 - n < j) by omega) with e | e | e | e | e
              · simp (disch := omega) only [b_X5_copy_0, x_loadI_1, y_if_eq_t, y_if_eq_f, b_X5_copy_7, x_loadI_3, y_if_ne_t, y_if_ne_f, b_X5_copy_14, x_iconst, x_ret0, b_X5_copy_17, x_loadR_0, x_loadS_0, f_5_7, y_aald9, x_storeR_6, x_storeR_7, x_loadR_6, x_loadS_6, b_X5_copy_41, x_loadR_7, x_loadS_7, b_X5_copy_49, b_X5_copy_52, f_2_1, y_ic_eq_t, y_ic_eq_f, b_X5_copy_65, b_X5_copy_68, x_loadI_5, y_if_lt_t, y_if_lt_f, b_X5_copy_73, x_loadI_2, b_X5_copy_77, x_loadI_4, b_X5_copy_82, f_2_2, x_isub, y_ic_gt_t, y_ic_gt_f, b_X5_copy_94, y_ic_le_t, y_ic_le_f, b_X5_copy_107, b_X5_copy_110, f_2_0, y_cpy26, q_isL_I, q_isL_R, q_isL_S, true_and, and_true, and_self, List.length_nil, List.length_cons, Nat.zero_add, x_K, x_Kn, Int.reduceToNat, Nat.reduceAdd, Nat.reduceMul, Nat.reduceLeDiff, Nat.reduceLT, Nat.zero_le, Int.reduceAdd, Int.reduceSub, Int.reduceMul, Int.reduceNeg, q_add_e, q_sub_e, q_mul_e, q_neg_e, q_upd_s, q_upd_n, zr_shr0, zr_shr1, zr_shr2, zr_shr3, zr_shr4, zr_and, zr_dyn8, zr_or, zr_shl, q_cpy_n, y_cpy26, c_X5_isSheet, sp_isSheet, c1, c2, and_self, if_true, c_X2_isMissing, sp_isMissing, c3, c4, if_false]
                exact hq
              · simp (disch := omega) only [b_X5_copy_0, x_loadI_1, y_if_eq_t, y_if_eq_f, b_X5_copy_7, x_loadI_3, y_if_ne_t, y_if_ne_f, b_X5_copy_14, x_iconst, x_ret0, b_X5_copy_17, x_loadR_0, x_loadS_0, f_5_7, y_aald9, x_storeR_6, x_storeR_7, x_loadR_6, x_loadS_6, b_X5_copy_41, x_loadR_7, x_loadS_7, b_X5_copy_49, b_X5_copy_52, f_2_1, y_ic_eq_t, y_ic_eq_f, b_X5_copy_65, b_X5_copy_68, x_loadI_5, y_if_lt_t, y_if_lt_f, b_X5_copy_73, x_loadI_2, b_X5_copy_77, x_loadI_4, b_X5_copy_82, f_2_2, x_isub, y_ic_gt_t, y_ic_gt_f, b_X5_copy_94, y_ic_le_t, y_ic_le_f, b_X5_copy_107, b_X5_copy_110, f_2_0, y_cpy26, q_isL_I, q_isL_R, q_isL_S, true_and, and_true, and_self, List.length_nil, List.length_cons, Nat.zero_add, x_K, x_Kn, Int.reduceToNat, Nat.reduceAdd, Nat.reduceMul, Nat.reduceLeDiff, Nat.reduceLT, Nat.zero_le, Int.reduceAdd, Int.reduceSub, Int.reduceMul, Int.reduceNeg, q_add_e, q_sub_e, q_mul_e, q_neg_e, q_upd_s, q_upd_n, zr_shr0, zr_shr1, zr_shr2, zr_shr3, zr_shr4, zr_and, zr_dyn8, zr_or, zr_shl, q_cpy_n, y_cpy26, c_X5_isSheet, sp_isSheet, c1, c2, and_self, if_true, c_X2_isMissing, sp_isMissing, c3, c4, if_false]
                exact hq
              · simp (disch := omega) only [b_X5_copy_0, x_loadI_1, y_if_eq_t, y_if_eq_f, b_X5_copy_7, x_loadI_3, y_if_ne_t, y_if_ne_f, b_X5_copy_14, x_iconst, x_ret0, b_X5_copy_17, x_loadR_0, x_loadS_0, f_5_7, y_aald9, x_storeR_6, x_storeR_7, x_loadR_6, x_loadS_6, b_X5_copy_41, x_loadR_7, x_loadS_7, b_X5_copy_49, b_X5_copy_52, f_2_1, y_ic_eq_t, y_ic_eq_f, b_X5_copy_65, b_X5_copy_68, x_loadI_5, y_if_lt_t, y_if_lt_f, b_X5_copy_73, x_loadI_2, b_X5_copy_77, x_loadI_4, b_X5_copy_82, f_2_2, x_isub, y_ic_gt_t, y_ic_gt_f, b_X5_copy_94, y_ic_le_t, y_ic_le_f, b_X5_copy_107, b_X5_copy_110, f_2_0, y_cpy26, q_isL_I, q_isL_R, q_isL_S, true_and, and_true, and_self, List.length_nil, List.length_cons, Nat.zero_add, x_K, x_Kn, Int.reduceToNat, Nat.reduceAdd, Nat.reduceMul, Nat.reduceLeDiff, Nat.reduceLT, Nat.zero_le, Int.reduceAdd, Int.reduceSub, Int.reduceMul, Int.reduceNeg, q_add_e, q_sub_e, q_mul_e, q_neg_e, q_upd_s, q_upd_n, zr_shr0, zr_shr1, zr_shr2, zr_shr3, zr_shr4, zr_and, zr_dyn8, zr_or, zr_shl, q_cpy_n, y_cpy26, c_X5_isSheet, sp_isSheet, c1, c2, and_self, if_true, c_X2_isMissing, sp_isMissing, c3, c4, if_false]
                exact hq
              · simp (disch := omega) only [b_X5_copy_0, x_loadI_1, y_if_eq_t, y_if_eq_f, b_X5_copy_7, x_loadI_3, y_if_ne_t, y_if_ne_f, b_X5_copy_14, x_iconst, x_ret0, b_X5_copy_17, x_loadR_0, x_loadS_0, f_5_7, y_aald9, x_storeR_6, x_storeR_7, x_loadR_6, x_loadS_6, b_X5_copy_41, x_loadR_7, x_loadS_7, b_X5_copy_49, b_X5_copy_52, f_2_1, y_ic_eq_t, y_ic_eq_f, b_X5_copy_65, b_X5_copy_68, x_loadI_5, y_if_lt_t, y_if_lt_f, b_X5_copy_73, x_loadI_2, b_X5_copy_77, x_loadI_4, b_X5_copy_82, f_2_2, x_isub, y_ic_gt_t, y_ic_gt_f, b_X5_copy_94, y_ic_le_t, y_ic_le_f, b_X5_copy_107, b_X5_copy_110, f_2_0, y_cpy26, q_isL_I, q_isL_R, q_isL_S, true_and, and_true, and_self, List.length_nil, List.length_cons, Nat.zero_add, x_K, x_Kn, Int.reduceToNat, Nat.reduceAdd, Nat.reduceMul, Nat.reduceLeDiff, Nat.reduceLT, Nat.zero_le, Int.reduceAdd, Int.reduceSub, Int.reduceMul, Int.reduceNeg, q_add_e, q_sub_e, q_mul_e, q_neg_e, q_upd_s, q_upd_n, zr_shr0, zr_shr1, zr_shr2, zr_shr3, zr_shr4, zr_and, zr_dyn8, zr_or, zr_shl, q_cpy_n, y_cpy26, c_X5_isSheet, sp_isSheet, c1, c2, and_self, if_true, c_X2_isMissing, sp_isMissing, c3, c4, if_false]
                exact hq
              · simp (disch := omega) only [b_X5_copy_0, x_loadI_1, y_if_eq_t, y_if_eq_f, b_X5_copy_7, x_loadI_3, y_if_ne_t, y_if_ne_f, b_X5_copy_14, x_iconst, x_ret0, b_X5_copy_17, x_loadR_0, x_loadS_0, f_5_7, y_aald9, x_storeR_6, x_storeR_7, x_loadR_6, x_loadS_6, b_X5_copy_41, x_loadR_7, x_loadS_7, b_X5_copy_49, b_X5_copy_52, f_2_1, y_ic_eq_t, y_ic_eq_f, b_X5_copy_65, b_X5_copy_68, x_loadI_5, y_if_lt_t, y_if_lt_f, b_X5_copy_73, x_loadI_2, b_X5_copy_77, x_loadI_4, b_X5_copy_82, f_2_2, x_isub, y_ic_gt_t, y_ic_gt_f, b_X5_copy_94, y_ic_le_t, y_ic_le_f, b_X5_copy_107, b_X5_copy_110, f_2_0, y_cpy26, q_isL_I, q_isL_R, q_isL_S, true_and, and_true, and_self, List.length_nil, List.length_cons, Nat.zero_add, x_K, x_Kn, Int.reduceToNat, Nat.reduceAdd, Nat.reduceMul, Nat.reduceLeDiff, Nat.reduceLT, Nat.zero_le, Int.reduceAdd, Int.reduceSub, Int.reduceMul, Int.reduceNeg, q_add_e, q_sub_e, q_mul_e, q_neg_e, q_upd_s, q_upd_n, zr_shr0, zr_shr1, zr_shr2, zr_shr3, zr_shr4, zr_and, zr_dyn8, zr_or, zr_shl, q_cpy_n, y_cpy26, c_X5_isSheet, sp_isSheet, c1, c2, and_self, if_true, c_X2_isMissing, sp_isMissing, c3, c4, if_false]
                exact hq
            · rw [show A_copy M s i o j n = n by (unfold A_copy; rw [if_neg (fun z => z ⟨c1, c2⟩), if_neg (fun z => z.elim c3 c4), if_neg c5, if_neg c6]), if_pos (by omega)] at hq
              have hl60 : ∀ a : Nat, q_len 60 a M = 40 := fun _ => rfl
              have hA60 : q_isA 60 = true := rfl
              have k1 : 0 ≤ i ∧ 0 ≤ j ∧ 0 ≤ n ∧ i + n ≤ 40 ∧ j + n ≤ 40 := by omega
              simp (disch := omega) only [b_X5_copy_0, x_loadI_1, y_if_eq_t, y_if_eq_f, b_X5_copy_7, x_loadI_3, y_if_ne_t, y_if_ne_f, b_X5_copy_14, x_iconst, x_ret0, b_X5_copy_17, x_loadR_0, x_loadS_0, f_5_7, y_aald9, x_storeR_6, x_storeR_7, x_loadR_6, x_loadS_6, b_X5_copy_41, x_loadR_7, x_loadS_7, b_X5_copy_49, b_X5_copy_52, f_2_1, y_ic_eq_t, y_ic_eq_f, b_X5_copy_65, b_X5_copy_68, x_loadI_5, y_if_lt_t, y_if_lt_f, b_X5_copy_73, x_loadI_2, b_X5_copy_77, x_loadI_4, b_X5_copy_82, f_2_2, x_isub, y_ic_gt_t, y_ic_gt_f, b_X5_copy_94, y_ic_le_t, y_ic_le_f, b_X5_copy_107, b_X5_copy_110, f_2_0, q_isL_I, q_isL_R, q_isL_S, true_and, and_true, and_self, List.length_nil, List.length_cons, Nat.zero_add, x_K, x_Kn, Int.reduceToNat, Nat.reduceAdd, Nat.reduceMul, Nat.reduceLeDiff, Nat.reduceLT, Nat.zero_le, Int.reduceAdd, Int.reduceSub, Int.reduceMul, Int.reduceNeg, q_add_e, q_sub_e, q_mul_e, q_neg_e, q_upd_s, q_upd_n, zr_shr0, zr_shr1, zr_shr2, zr_shr3, zr_shr4, zr_and, zr_dyn8, zr_or, zr_shl, q_cpy_n, c_X5_isSheet, sp_isSheet, c1, c2, and_self, if_true, c_X2_isMissing, sp_isMissing, c3, c4, if_false, x_cpy, hl60, hA60, k1, Nat.zero_le]
              exact hq
    · rw [show A_copy M s i o j n = -2 by (unfold A_copy; rw [if_pos (fun z => c2 z.2)]), if_neg (by omega)] at hq
      simp (disch := omega) only [b_X5_copy_0, x_loadI_1, y_if_eq_t, y_if_eq_f, b_X5_copy_7, x_loadI_3, y_if_ne_t, y_if_ne_f, b_X5_copy_14, x_iconst, x_ret0, b_X5_copy_17, x_loadR_0, x_loadS_0, f_5_7, y_aald9, x_storeR_6, x_storeR_7, x_loadR_6, x_loadS_6, b_X5_copy_41, x_loadR_7, x_loadS_7, b_X5_copy_49, b_X5_copy_52, f_2_1, y_ic_eq_t, y_ic_eq_f, b_X5_copy_65, b_X5_copy_68, x_loadI_5, y_if_lt_t, y_if_lt_f, b_X5_copy_73, x_loadI_2, b_X5_copy_77, x_loadI_4, b_X5_copy_82, f_2_2, x_isub, y_ic_gt_t, y_ic_gt_f, b_X5_copy_94, y_ic_le_t, y_ic_le_f, b_X5_copy_107, b_X5_copy_110, f_2_0, y_cpy26, q_isL_I, q_isL_R, q_isL_S, true_and, and_true, and_self, List.length_nil, List.length_cons, Nat.zero_add, x_K, x_Kn, Int.reduceToNat, Nat.reduceAdd, Nat.reduceMul, Nat.reduceLeDiff, Nat.reduceLT, Nat.zero_le, Int.reduceAdd, Int.reduceSub, Int.reduceMul, Int.reduceNeg, q_add_e, q_sub_e, q_mul_e, q_neg_e, q_upd_s, q_upd_n, zr_shr0, zr_shr1, zr_shr2, zr_shr3, zr_shr4, zr_and, zr_dyn8, zr_or, zr_shl, q_cpy_n, y_cpy26, c_X5_isSheet, sp_isSheet, c1, c2, and_self, if_true, if_false]
      exact hq
  · rw [show A_copy M s i o j n = -2 by (unfold A_copy; rw [if_pos (fun z => c1 z.1)]), if_neg (by omega)] at hq
    simp (disch := omega) only [b_X5_copy_0, x_loadI_1, y_if_eq_t, y_if_eq_f, b_X5_copy_7, x_loadI_3, y_if_ne_t, y_if_ne_f, b_X5_copy_14, x_iconst, x_ret0, b_X5_copy_17, x_loadR_0, x_loadS_0, f_5_7, y_aald9, x_storeR_6, x_storeR_7, x_loadR_6, x_loadS_6, b_X5_copy_41, x_loadR_7, x_loadS_7, b_X5_copy_49, b_X5_copy_52, f_2_1, y_ic_eq_t, y_ic_eq_f, b_X5_copy_65, b_X5_copy_68, x_loadI_5, y_if_lt_t, y_if_lt_f, b_X5_copy_73, x_loadI_2, b_X5_copy_77, x_loadI_4, b_X5_copy_82, f_2_2, x_isub, y_ic_gt_t, y_ic_gt_f, b_X5_copy_94, y_ic_le_t, y_ic_le_f, b_X5_copy_107, b_X5_copy_110, f_2_0, y_cpy26, q_isL_I, q_isL_R, q_isL_S, true_and, and_true, and_self, List.length_nil, List.length_cons, Nat.zero_add, x_K, x_Kn, Int.reduceToNat, Nat.reduceAdd, Nat.reduceMul, Nat.reduceLeDiff, Nat.reduceLT, Nat.zero_le, Int.reduceAdd, Int.reduceSub, Int.reduceMul, Int.reduceNeg, q_add_e, q_sub_e, q_mul_e, q_neg_e, q_upd_s, q_upd_n, zr_shr0, zr_shr1, zr_shr2, zr_shr3, zr_shr4, zr_and, zr_dyn8, zr_or, zr_shl, q_cpy_n, y_cpy26, c_X5_isSheet, sp_isSheet, c1, if_false]
    exact hq
theorem sp_isOfKind {d : Nat} {g : q_G} {M : q_M} {k o : Int} (Q : Option q_V → q_G → q_M → Prop) : q_S 1 d 103 [qI k, qI o] g M Q = Q (some (qI (if o = 0 ∨ k = o ∨ (o = 1 ∧ k = 3) ∨ (o = 2 ∧ k = 4) then 1 else 0))) g M := by
  refine q_S_eq (fun Q hq => ?_) Q
  rw [s_X5_isOfKind]
  by_cases c0 : o = 0
  · rw [if_pos (by omega)] at hq
    simp (disch := omega) only [b_X5_isOfKind_0, x_loadI_1, y_if_eq_t, y_if_eq_f, b_X5_isOfKind_4, x_loadI_0, y_ic_ne_t, y_ic_ne_f, b_X5_isOfKind_9, x_iconst, x_ret1_0, x_ret1_1, b_X5_isOfKind_11, b_X5_isOfKind_16, y_ic_eq_t, y_ic_eq_f, b_X5_isOfKind_21, b_X5_isOfKind_26, b_X5_isOfKind_31, x_goto, b_X5_isOfKind_35, b_X5_isOfKind_36, q_isL_I, q_isL_R, q_isL_S, true_and, and_true, and_self, List.length_nil, List.length_cons, Nat.zero_add, x_K, x_Kn, Int.reduceToNat, Nat.reduceAdd, Nat.reduceMul, Nat.reduceLeDiff, Nat.reduceLT, Nat.zero_le, Int.reduceAdd, Int.reduceSub, Int.reduceMul, Int.reduceNeg, q_add_e, q_sub_e, q_mul_e, q_neg_e, q_upd_s, q_upd_n, zr_shr0, zr_shr1, zr_shr2, zr_shr3, zr_shr4, zr_and, zr_dyn8, zr_or, zr_shl, q_cpy_n, y_cpy26]
    exact hq
  · by_cases c1 : k = o
    · rw [if_pos (by omega)] at hq
      simp (disch := omega) only [b_X5_isOfKind_0, x_loadI_1, y_if_eq_t, y_if_eq_f, b_X5_isOfKind_4, x_loadI_0, y_ic_ne_t, y_ic_ne_f, b_X5_isOfKind_9, x_iconst, x_ret1_0, x_ret1_1, b_X5_isOfKind_11, b_X5_isOfKind_16, y_ic_eq_t, y_ic_eq_f, b_X5_isOfKind_21, b_X5_isOfKind_26, b_X5_isOfKind_31, x_goto, b_X5_isOfKind_35, b_X5_isOfKind_36, q_isL_I, q_isL_R, q_isL_S, true_and, and_true, and_self, List.length_nil, List.length_cons, Nat.zero_add, x_K, x_Kn, Int.reduceToNat, Nat.reduceAdd, Nat.reduceMul, Nat.reduceLeDiff, Nat.reduceLT, Nat.zero_le, Int.reduceAdd, Int.reduceSub, Int.reduceMul, Int.reduceNeg, q_add_e, q_sub_e, q_mul_e, q_neg_e, q_upd_s, q_upd_n, zr_shr0, zr_shr1, zr_shr2, zr_shr3, zr_shr4, zr_and, zr_dyn8, zr_or, zr_shl, q_cpy_n, y_cpy26]
      exact hq
    · by_cases c2 : o = 1 ∧ k = 3
      · rw [if_pos (by omega)] at hq
        simp (disch := omega) only [b_X5_isOfKind_0, x_loadI_1, y_if_eq_t, y_if_eq_f, b_X5_isOfKind_4, x_loadI_0, y_ic_ne_t, y_ic_ne_f, b_X5_isOfKind_9, x_iconst, x_ret1_0, x_ret1_1, b_X5_isOfKind_11, b_X5_isOfKind_16, y_ic_eq_t, y_ic_eq_f, b_X5_isOfKind_21, b_X5_isOfKind_26, b_X5_isOfKind_31, x_goto, b_X5_isOfKind_35, b_X5_isOfKind_36, q_isL_I, q_isL_R, q_isL_S, true_and, and_true, and_self, List.length_nil, List.length_cons, Nat.zero_add, x_K, x_Kn, Int.reduceToNat, Nat.reduceAdd, Nat.reduceMul, Nat.reduceLeDiff, Nat.reduceLT, Nat.zero_le, Int.reduceAdd, Int.reduceSub, Int.reduceMul, Int.reduceNeg, q_add_e, q_sub_e, q_mul_e, q_neg_e, q_upd_s, q_upd_n, zr_shr0, zr_shr1, zr_shr2, zr_shr3, zr_shr4, zr_and, zr_dyn8, zr_or, zr_shl, q_cpy_n, y_cpy26]
        exact hq
      · by_cases c3 : o = 2 ∧ k = 4
        · rw [if_pos (by omega)] at hq
          simp (disch := omega) only [b_X5_isOfKind_0, x_loadI_1, y_if_eq_t, y_if_eq_f, b_X5_isOfKind_4, x_loadI_0, y_ic_ne_t, y_ic_ne_f, b_X5_isOfKind_9, x_iconst, x_ret1_0, x_ret1_1, b_X5_isOfKind_11, b_X5_isOfKind_16, y_ic_eq_t, y_ic_eq_f, b_X5_isOfKind_21, b_X5_isOfKind_26, b_X5_isOfKind_31, x_goto, b_X5_isOfKind_35, b_X5_isOfKind_36, q_isL_I, q_isL_R, q_isL_S, true_and, and_true, and_self, List.length_nil, List.length_cons, Nat.zero_add, x_K, x_Kn, Int.reduceToNat, Nat.reduceAdd, Nat.reduceMul, Nat.reduceLeDiff, Nat.reduceLT, Nat.zero_le, Int.reduceAdd, Int.reduceSub, Int.reduceMul, Int.reduceNeg, q_add_e, q_sub_e, q_mul_e, q_neg_e, q_upd_s, q_upd_n, zr_shr0, zr_shr1, zr_shr2, zr_shr3, zr_shr4, zr_and, zr_dyn8, zr_or, zr_shl, q_cpy_n, y_cpy26]
          exact hq
        · rw [if_neg (by omega)] at hq
          by_cases c4 : o = 1
          · simp (disch := omega) only [b_X5_isOfKind_0, x_loadI_1, y_if_eq_t, y_if_eq_f, b_X5_isOfKind_4, x_loadI_0, y_ic_ne_t, y_ic_ne_f, b_X5_isOfKind_9, x_iconst, x_ret1_0, x_ret1_1, b_X5_isOfKind_11, b_X5_isOfKind_16, y_ic_eq_t, y_ic_eq_f, b_X5_isOfKind_21, b_X5_isOfKind_26, b_X5_isOfKind_31, x_goto, b_X5_isOfKind_35, b_X5_isOfKind_36, q_isL_I, q_isL_R, q_isL_S, true_and, and_true, and_self, List.length_nil, List.length_cons, Nat.zero_add, x_K, x_Kn, Int.reduceToNat, Nat.reduceAdd, Nat.reduceMul, Nat.reduceLeDiff, Nat.reduceLT, Nat.zero_le, Int.reduceAdd, Int.reduceSub, Int.reduceMul, Int.reduceNeg, q_add_e, q_sub_e, q_mul_e, q_neg_e, q_upd_s, q_upd_n, zr_shr0, zr_shr1, zr_shr2, zr_shr3, zr_shr4, zr_and, zr_dyn8, zr_or, zr_shl, q_cpy_n, y_cpy26]
            exact hq
          · by_cases c5 : o = 2
            · simp (disch := omega) only [b_X5_isOfKind_0, x_loadI_1, y_if_eq_t, y_if_eq_f, b_X5_isOfKind_4, x_loadI_0, y_ic_ne_t, y_ic_ne_f, b_X5_isOfKind_9, x_iconst, x_ret1_0, x_ret1_1, b_X5_isOfKind_11, b_X5_isOfKind_16, y_ic_eq_t, y_ic_eq_f, b_X5_isOfKind_21, b_X5_isOfKind_26, b_X5_isOfKind_31, x_goto, b_X5_isOfKind_35, b_X5_isOfKind_36, q_isL_I, q_isL_R, q_isL_S, true_and, and_true, and_self, List.length_nil, List.length_cons, Nat.zero_add, x_K, x_Kn, Int.reduceToNat, Nat.reduceAdd, Nat.reduceMul, Nat.reduceLeDiff, Nat.reduceLT, Nat.zero_le, Int.reduceAdd, Int.reduceSub, Int.reduceMul, Int.reduceNeg, q_add_e, q_sub_e, q_mul_e, q_neg_e, q_upd_s, q_upd_n, zr_shr0, zr_shr1, zr_shr2, zr_shr3, zr_shr4, zr_and, zr_dyn8, zr_or, zr_shl, q_cpy_n, y_cpy26]
              exact hq
            · simp (disch := omega) only [b_X5_isOfKind_0, x_loadI_1, y_if_eq_t, y_if_eq_f, b_X5_isOfKind_4, x_loadI_0, y_ic_ne_t, y_ic_ne_f, b_X5_isOfKind_9, x_iconst, x_ret1_0, x_ret1_1, b_X5_isOfKind_11, b_X5_isOfKind_16, y_ic_eq_t, y_ic_eq_f, b_X5_isOfKind_21, b_X5_isOfKind_26, b_X5_isOfKind_31, x_goto, b_X5_isOfKind_35, b_X5_isOfKind_36, q_isL_I, q_isL_R, q_isL_S, true_and, and_true, and_self, List.length_nil, List.length_cons, Nat.zero_add, x_K, x_Kn, Int.reduceToNat, Nat.reduceAdd, Nat.reduceMul, Nat.reduceLeDiff, Nat.reduceLT, Nat.zero_le, Int.reduceAdd, Int.reduceSub, Int.reduceMul, Int.reduceNeg, q_add_e, q_sub_e, q_mul_e, q_neg_e, q_upd_s, q_upd_n, zr_shr0, zr_shr1, zr_shr2, zr_shr3, zr_shr4, zr_and, zr_dyn8, zr_or, zr_shl, q_cpy_n, y_cpy26]
              exact hq
def F_und (k o : Int) : Bool := decide (o = 0 ∨ k = o ∨ (o = 1 ∧ k = 3) ∨ (o = 2 ∧ k = 4))
def A_taken (S : q_M) (i k : Int) : Int := if k < 0 ∨ 6 < k then -2 else if i < 0 ∨ 10 ≤ i then -12 else if 5 ≤ i then (if k = 6 then S 8 (i - 5).toNat else -13) else if S 9 0 ≤ i then -11 else if k ≠ 6 ∧ F_und (S 0 i.toNat) k = true then i else -13
set_option maxHeartbeats 4000000 in
theorem sp_taken {d : Nat} {g : q_G} {M : q_M} {i k : Int} {Q : Option q_V → q_G → q_M → Prop} (h0 : 0 ≤ M 12 5) (h5 : M 12 5 ≤ 5) (hq : Q (some (qI (A_taken (cW M 11) i k))) g M) : q_S 1 (d + 1) 97 [qR 5 0, qI i, qI k] g M Q := by
  rw [s_X5_taken]
  unfold A_taken at hq
  by_cases c1 : k < 0 ∨ 6 < k
  · rw [if_pos c1] at hq
    rcases c1 with e | e
    · simp (disch := omega) only [b_X5_taken_0, x_loadI_2, y_if_lt_t, y_if_lt_f, b_X5_taken_4, x_iconst, y_ic_le_t, y_ic_le_f, b_X5_taken_10, x_ret0, b_X5_taken_13, x_loadI_1, b_X5_taken_17, y_ic_lt_t, y_ic_lt_f, b_X5_taken_23, b_X5_taken_26, b_X5_taken_31, y_ic_ne_t, y_ic_ne_f, b_X5_taken_37, x_loadR_0, x_loadS_0, f_5_3, f_4_3, x_isub, y_iald_26, x_goto, b_X5_taken_51, b_X5_taken_53, b_X5_taken_54, y_if_ne_t, y_if_ne_f, b_X5_taken_62, b_X5_taken_65, y_ic_eq_t, y_ic_eq_f, b_X5_taken_71, f_4_4, y_if_eq_t, y_if_eq_f, b_X5_taken_87, b_X5_taken_91, b_X5_taken_93, q_isL_I, q_isL_R, q_isL_S, true_and, and_true, and_self, List.length_nil, List.length_cons, Nat.zero_add, x_K, x_Kn, Int.reduceToNat, Nat.reduceAdd, Nat.reduceMul, Nat.reduceLeDiff, Nat.reduceLT, Nat.zero_le, Int.reduceAdd, Int.reduceSub, Int.reduceMul, Int.reduceNeg, q_add_e, q_sub_e, q_mul_e, q_neg_e, q_upd_s, q_upd_n, zr_shr0, zr_shr1, zr_shr2, zr_shr3, zr_shr4, zr_and, zr_dyn8, zr_or, zr_shl, q_cpy_n, y_cpy26]
      exact hq
    · simp (disch := omega) only [b_X5_taken_0, x_loadI_2, y_if_lt_t, y_if_lt_f, b_X5_taken_4, x_iconst, y_ic_le_t, y_ic_le_f, b_X5_taken_10, x_ret0, b_X5_taken_13, x_loadI_1, b_X5_taken_17, y_ic_lt_t, y_ic_lt_f, b_X5_taken_23, b_X5_taken_26, b_X5_taken_31, y_ic_ne_t, y_ic_ne_f, b_X5_taken_37, x_loadR_0, x_loadS_0, f_5_3, f_4_3, x_isub, y_iald_26, x_goto, b_X5_taken_51, b_X5_taken_53, b_X5_taken_54, y_if_ne_t, y_if_ne_f, b_X5_taken_62, b_X5_taken_65, y_ic_eq_t, y_ic_eq_f, b_X5_taken_71, f_4_4, y_if_eq_t, y_if_eq_f, b_X5_taken_87, b_X5_taken_91, b_X5_taken_93, q_isL_I, q_isL_R, q_isL_S, true_and, and_true, and_self, List.length_nil, List.length_cons, Nat.zero_add, x_K, x_Kn, Int.reduceToNat, Nat.reduceAdd, Nat.reduceMul, Nat.reduceLeDiff, Nat.reduceLT, Nat.zero_le, Int.reduceAdd, Int.reduceSub, Int.reduceMul, Int.reduceNeg, q_add_e, q_sub_e, q_mul_e, q_neg_e, q_upd_s, q_upd_n, zr_shr0, zr_shr1, zr_shr2, zr_shr3, zr_shr4, zr_and, zr_dyn8, zr_or, zr_shl, q_cpy_n, y_cpy26]
      exact hq
  · rw [if_neg c1] at hq
    by_cases c2 : i < 0 ∨ 10 ≤ i
    · rw [if_pos c2] at hq
      rcases c2 with e | e
      · simp (disch := omega) only [b_X5_taken_0, x_loadI_2, y_if_lt_t, y_if_lt_f, b_X5_taken_4, x_iconst, y_ic_le_t, y_ic_le_f, b_X5_taken_10, x_ret0, b_X5_taken_13, x_loadI_1, b_X5_taken_17, y_ic_lt_t, y_ic_lt_f, b_X5_taken_23, b_X5_taken_26, b_X5_taken_31, y_ic_ne_t, y_ic_ne_f, b_X5_taken_37, x_loadR_0, x_loadS_0, f_5_3, f_4_3, x_isub, y_iald_26, x_goto, b_X5_taken_51, b_X5_taken_53, b_X5_taken_54, y_if_ne_t, y_if_ne_f, b_X5_taken_62, b_X5_taken_65, y_ic_eq_t, y_ic_eq_f, b_X5_taken_71, f_4_4, y_if_eq_t, y_if_eq_f, b_X5_taken_87, b_X5_taken_91, b_X5_taken_93, q_isL_I, q_isL_R, q_isL_S, true_and, and_true, and_self, List.length_nil, List.length_cons, Nat.zero_add, x_K, x_Kn, Int.reduceToNat, Nat.reduceAdd, Nat.reduceMul, Nat.reduceLeDiff, Nat.reduceLT, Nat.zero_le, Int.reduceAdd, Int.reduceSub, Int.reduceMul, Int.reduceNeg, q_add_e, q_sub_e, q_mul_e, q_neg_e, q_upd_s, q_upd_n, zr_shr0, zr_shr1, zr_shr2, zr_shr3, zr_shr4, zr_and, zr_dyn8, zr_or, zr_shl, q_cpy_n, y_cpy26]
        exact hq
      · simp (disch := omega) only [b_X5_taken_0, x_loadI_2, y_if_lt_t, y_if_lt_f, b_X5_taken_4, x_iconst, y_ic_le_t, y_ic_le_f, b_X5_taken_10, x_ret0, b_X5_taken_13, x_loadI_1, b_X5_taken_17, y_ic_lt_t, y_ic_lt_f, b_X5_taken_23, b_X5_taken_26, b_X5_taken_31, y_ic_ne_t, y_ic_ne_f, b_X5_taken_37, x_loadR_0, x_loadS_0, f_5_3, f_4_3, x_isub, y_iald_26, x_goto, b_X5_taken_51, b_X5_taken_53, b_X5_taken_54, y_if_ne_t, y_if_ne_f, b_X5_taken_62, b_X5_taken_65, y_ic_eq_t, y_ic_eq_f, b_X5_taken_71, f_4_4, y_if_eq_t, y_if_eq_f, b_X5_taken_87, b_X5_taken_91, b_X5_taken_93, q_isL_I, q_isL_R, q_isL_S, true_and, and_true, and_self, List.length_nil, List.length_cons, Nat.zero_add, x_K, x_Kn, Int.reduceToNat, Nat.reduceAdd, Nat.reduceMul, Nat.reduceLeDiff, Nat.reduceLT, Nat.zero_le, Int.reduceAdd, Int.reduceSub, Int.reduceMul, Int.reduceNeg, q_add_e, q_sub_e, q_mul_e, q_neg_e, q_upd_s, q_upd_n, zr_shr0, zr_shr1, zr_shr2, zr_shr3, zr_shr4, zr_and, zr_dyn8, zr_or, zr_shl, q_cpy_n, y_cpy26]
        exact hq
    · rw [if_neg c2] at hq
      by_cases c3 : 5 ≤ i
      · rw [if_pos c3] at hq
        by_cases c4 : k = 6
        · rw [if_pos c4, cW_8 (by omega)] at hq
          simp (disch := omega) only [b_X5_taken_0, x_loadI_2, y_if_lt_t, y_if_lt_f, b_X5_taken_4, x_iconst, y_ic_le_t, y_ic_le_f, b_X5_taken_10, x_ret0, b_X5_taken_13, x_loadI_1, b_X5_taken_17, y_ic_lt_t, y_ic_lt_f, b_X5_taken_23, b_X5_taken_26, b_X5_taken_31, y_ic_ne_t, y_ic_ne_f, b_X5_taken_37, x_loadR_0, x_loadS_0, f_5_3, f_4_3, x_isub, y_iald_26, x_goto, b_X5_taken_51, b_X5_taken_53, b_X5_taken_54, y_if_ne_t, y_if_ne_f, b_X5_taken_62, b_X5_taken_65, y_ic_eq_t, y_ic_eq_f, b_X5_taken_71, f_4_4, y_if_eq_t, y_if_eq_f, b_X5_taken_87, b_X5_taken_91, b_X5_taken_93, q_isL_I, q_isL_R, q_isL_S, true_and, and_true, and_self, List.length_nil, List.length_cons, Nat.zero_add, x_K, x_Kn, Int.reduceToNat, Nat.reduceAdd, Nat.reduceMul, Nat.reduceLeDiff, Nat.reduceLT, Nat.zero_le, Int.reduceAdd, Int.reduceSub, Int.reduceMul, Int.reduceNeg, q_add_e, q_sub_e, q_mul_e, q_neg_e, q_upd_s, q_upd_n, zr_shr0, zr_shr1, zr_shr2, zr_shr3, zr_shr4, zr_and, zr_dyn8, zr_or, zr_shl, q_cpy_n, y_cpy26]
          exact hq
        · rw [if_neg c4] at hq
          simp (disch := omega) only [b_X5_taken_0, x_loadI_2, y_if_lt_t, y_if_lt_f, b_X5_taken_4, x_iconst, y_ic_le_t, y_ic_le_f, b_X5_taken_10, x_ret0, b_X5_taken_13, x_loadI_1, b_X5_taken_17, y_ic_lt_t, y_ic_lt_f, b_X5_taken_23, b_X5_taken_26, b_X5_taken_31, y_ic_ne_t, y_ic_ne_f, b_X5_taken_37, x_loadR_0, x_loadS_0, f_5_3, f_4_3, x_isub, y_iald_26, x_goto, b_X5_taken_51, b_X5_taken_53, b_X5_taken_54, y_if_ne_t, y_if_ne_f, b_X5_taken_62, b_X5_taken_65, y_ic_eq_t, y_ic_eq_f, b_X5_taken_71, f_4_4, y_if_eq_t, y_if_eq_f, b_X5_taken_87, b_X5_taken_91, b_X5_taken_93, q_isL_I, q_isL_R, q_isL_S, true_and, and_true, and_self, List.length_nil, List.length_cons, Nat.zero_add, x_K, x_Kn, Int.reduceToNat, Nat.reduceAdd, Nat.reduceMul, Nat.reduceLeDiff, Nat.reduceLT, Nat.zero_le, Int.reduceAdd, Int.reduceSub, Int.reduceMul, Int.reduceNeg, q_add_e, q_sub_e, q_mul_e, q_neg_e, q_upd_s, q_upd_n, zr_shr0, zr_shr1, zr_shr2, zr_shr3, zr_shr4, zr_and, zr_dyn8, zr_or, zr_shl, q_cpy_n, y_cpy26]
          exact hq
      · rw [if_neg c3, cW_90] at hq
        by_cases c4 : M (11 + 1) 5 ≤ i
        · rw [if_pos c4] at hq
          have c5 : ¬(0 ≤ i ∧ i < M 12 5) := fun z => by have := z.2; have e : M (11 + 1) 5 = M 12 5 := rfl; omega
          simp (disch := omega) only [b_X5_taken_0, x_loadI_2, y_if_lt_t, y_if_lt_f, b_X5_taken_4, x_iconst, y_ic_le_t, y_ic_le_f, b_X5_taken_10, x_ret0, b_X5_taken_13, x_loadI_1, b_X5_taken_17, y_ic_lt_t, y_ic_lt_f, b_X5_taken_23, b_X5_taken_26, b_X5_taken_31, y_ic_ne_t, y_ic_ne_f, b_X5_taken_37, x_loadR_0, x_loadS_0, f_5_3, f_4_3, x_isub, y_iald_26, x_goto, b_X5_taken_51, b_X5_taken_53, b_X5_taken_54, y_if_ne_t, y_if_ne_f, b_X5_taken_62, b_X5_taken_65, y_ic_eq_t, y_ic_eq_f, b_X5_taken_71, f_4_4, y_if_eq_t, y_if_eq_f, b_X5_taken_87, b_X5_taken_91, b_X5_taken_93, q_isL_I, q_isL_R, q_isL_S, true_and, and_true, and_self, List.length_nil, List.length_cons, Nat.zero_add, x_K, x_Kn, Int.reduceToNat, Nat.reduceAdd, Nat.reduceMul, Nat.reduceLeDiff, Nat.reduceLT, Nat.zero_le, Int.reduceAdd, Int.reduceSub, Int.reduceMul, Int.reduceNeg, q_add_e, q_sub_e, q_mul_e, q_neg_e, q_upd_s, q_upd_n, zr_shr0, zr_shr1, zr_shr2, zr_shr3, zr_shr4, zr_and, zr_dyn8, zr_or, zr_shl, q_cpy_n, y_cpy26, c_X5_isStone, sp_isStone, c5, if_false]
          exact hq
        · rw [if_neg c4, cW_0 (by omega)] at hq
          have c5 : 0 ≤ i ∧ i < M 12 5 := ⟨by omega, by have e : M (11 + 1) 5 = M 12 5 := rfl; omega⟩
          by_cases c6 : k = 6
          · rw [if_neg (fun z => z.1 c6)] at hq
            simp (disch := omega) only [b_X5_taken_0, x_loadI_2, y_if_lt_t, y_if_lt_f, b_X5_taken_4, x_iconst, y_ic_le_t, y_ic_le_f, b_X5_taken_10, x_ret0, b_X5_taken_13, x_loadI_1, b_X5_taken_17, y_ic_lt_t, y_ic_lt_f, b_X5_taken_23, b_X5_taken_26, b_X5_taken_31, y_ic_ne_t, y_ic_ne_f, b_X5_taken_37, x_loadR_0, x_loadS_0, f_5_3, f_4_3, x_isub, y_iald_26, x_goto, b_X5_taken_51, b_X5_taken_53, b_X5_taken_54, y_if_ne_t, y_if_ne_f, b_X5_taken_62, b_X5_taken_65, y_ic_eq_t, y_ic_eq_f, b_X5_taken_71, f_4_4, y_if_eq_t, y_if_eq_f, b_X5_taken_87, b_X5_taken_91, b_X5_taken_93, q_isL_I, q_isL_R, q_isL_S, true_and, and_true, and_self, List.length_nil, List.length_cons, Nat.zero_add, x_K, x_Kn, Int.reduceToNat, Nat.reduceAdd, Nat.reduceMul, Nat.reduceLeDiff, Nat.reduceLT, Nat.zero_le, Int.reduceAdd, Int.reduceSub, Int.reduceMul, Int.reduceNeg, q_add_e, q_sub_e, q_mul_e, q_neg_e, q_upd_s, q_upd_n, zr_shr0, zr_shr1, zr_shr2, zr_shr3, zr_shr4, zr_and, zr_dyn8, zr_or, zr_shl, q_cpy_n, y_cpy26, c_X5_isStone, sp_isStone, c5, and_self, if_true]
            exact hq
          · by_cases c7 : k = 0 ∨ M (11 + 22) i.toNat = k ∨ (k = 1 ∧ M (11 + 22) i.toNat = 3) ∨ (k = 2 ∧ M (11 + 22) i.toNat = 4)
            · rw [if_pos ⟨c6, decide_eq_true c7⟩] at hq
              have c8 : k = 0 ∨ M 33 i.toNat = k ∨ (k = 1 ∧ M 33 i.toNat = 3) ∨ (k = 2 ∧ M 33 i.toNat = 4) := c7
              simp (disch := omega) only [b_X5_taken_0, x_loadI_2, y_if_lt_t, y_if_lt_f, b_X5_taken_4, x_iconst, y_ic_le_t, y_ic_le_f, b_X5_taken_10, x_ret0, b_X5_taken_13, x_loadI_1, b_X5_taken_17, y_ic_lt_t, y_ic_lt_f, b_X5_taken_23, b_X5_taken_26, b_X5_taken_31, y_ic_ne_t, y_ic_ne_f, b_X5_taken_37, x_loadR_0, x_loadS_0, f_5_3, f_4_3, x_isub, y_iald_26, x_goto, b_X5_taken_51, b_X5_taken_53, b_X5_taken_54, y_if_ne_t, y_if_ne_f, b_X5_taken_62, b_X5_taken_65, y_ic_eq_t, y_ic_eq_f, b_X5_taken_71, f_4_4, y_if_eq_t, y_if_eq_f, b_X5_taken_87, b_X5_taken_91, b_X5_taken_93, q_isL_I, q_isL_R, q_isL_S, true_and, and_true, and_self, List.length_nil, List.length_cons, Nat.zero_add, x_K, x_Kn, Int.reduceToNat, Nat.reduceAdd, Nat.reduceMul, Nat.reduceLeDiff, Nat.reduceLT, Nat.zero_le, Int.reduceAdd, Int.reduceSub, Int.reduceMul, Int.reduceNeg, q_add_e, q_sub_e, q_mul_e, q_neg_e, q_upd_s, q_upd_n, zr_shr0, zr_shr1, zr_shr2, zr_shr3, zr_shr4, zr_and, zr_dyn8, zr_or, zr_shl, q_cpy_n, y_cpy26, c_X5_isStone, sp_isStone, c5, and_self, if_true, c_X5_isOfKind, sp_isOfKind, c8]
              exact hq
            · rw [if_neg (fun z => c7 (of_decide_eq_true z.2))] at hq
              have c8 : ¬(k = 0 ∨ M 33 i.toNat = k ∨ (k = 1 ∧ M 33 i.toNat = 3) ∨ (k = 2 ∧ M 33 i.toNat = 4)) := c7
              simp (disch := omega) only [b_X5_taken_0, x_loadI_2, y_if_lt_t, y_if_lt_f, b_X5_taken_4, x_iconst, y_ic_le_t, y_ic_le_f, b_X5_taken_10, x_ret0, b_X5_taken_13, x_loadI_1, b_X5_taken_17, y_ic_lt_t, y_ic_lt_f, b_X5_taken_23, b_X5_taken_26, b_X5_taken_31, y_ic_ne_t, y_ic_ne_f, b_X5_taken_37, x_loadR_0, x_loadS_0, f_5_3, f_4_3, x_isub, y_iald_26, x_goto, b_X5_taken_51, b_X5_taken_53, b_X5_taken_54, y_if_ne_t, y_if_ne_f, b_X5_taken_62, b_X5_taken_65, y_ic_eq_t, y_ic_eq_f, b_X5_taken_71, f_4_4, y_if_eq_t, y_if_eq_f, b_X5_taken_87, b_X5_taken_91, b_X5_taken_93, q_isL_I, q_isL_R, q_isL_S, true_and, and_true, and_self, List.length_nil, List.length_cons, Nat.zero_add, x_K, x_Kn, Int.reduceToNat, Nat.reduceAdd, Nat.reduceMul, Nat.reduceLeDiff, Nat.reduceLT, Nat.zero_le, Int.reduceAdd, Int.reduceSub, Int.reduceMul, Int.reduceNeg, q_add_e, q_sub_e, q_mul_e, q_neg_e, q_upd_s, q_upd_n, zr_shr0, zr_shr1, zr_shr2, zr_shr3, zr_shr4, zr_and, zr_dyn8, zr_or, zr_shl, q_cpy_n, y_cpy26, c_X5_isStone, sp_isStone, c5, and_self, if_true, c_X5_isOfKind, sp_isOfKind, c8, if_false]
              exact hq
end
