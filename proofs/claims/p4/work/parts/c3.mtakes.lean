/-! THE MODEL: who is last, whom a building takes; its world with one cell set -/
theorem F_ones_bits {f : Nat → Int} {b : Int} : ∀ n : Nat, n ≤ 5 → F_ones (F_bits f b n) = F_cnt f b n
  | 0, _ => by simp only [F_bits, F_cnt]; decide
  | 1, _ => by simp only [F_bits, F_cnt]; (repeat' split) <;> decide
  | 2, _ => by simp only [F_bits, F_cnt]; (repeat' split) <;> decide
  | 3, _ => by simp only [F_bits, F_cnt]; (repeat' split) <;> decide
  | 4, _ => by simp only [F_bits, F_cnt]; (repeat' split) <;> decide
  | 5, _ => by simp only [F_bits, F_cnt]; (repeat' split) <;> decide
  | n + 6, h => absurd h (by omega)
theorem mp_full {d : Nat} {g : q_G} {M : q_M} {b : Nat} (hb : b < 5) (h0 : 0 ≤ M 100 0) (h5 : M 100 0 ≤ 5) (Q : Option q_V → q_G → q_M → Prop) : q_S 1 (d + 1) 148 [qR 6 100, qI b] g M Q = Q (some (qI (if M 103 (4 * b + 1) ≤ F_cnt (mIn M) b (M 100 0).toNat then 1 else 0))) g M := by
  refine q_S_eq (fun Q hq => ?_) Q
  have e := F_ones_bits (f := mIn M) (b := b) (M 100 0).toNat (by omega)
  rw [s_X6_isFullSite]
  by_cases c : M 103 (4 * b + 1) ≤ F_cnt (mIn M) b (M 100 0).toNat
  · rw [if_pos c] at hq
    simp (disch := omega) only [b_X6_isFullSite_0, x_loadR_0, x_loadS_0, x_loadI_1, f_6_3, x_iconst, x_imul, x_iadd, y_iald_40, y_ic_lt_t, y_ic_lt_f, b_X6_isFullSite_21, x_goto, b_X6_isFullSite_25, b_X6_isFullSite_26, x_ret1_0, x_ret1_1, q_isL_I, q_isL_R, q_isL_S, true_and, and_true, and_self, List.length_nil, List.length_cons, Nat.zero_add, x_K, x_Kn, Int.reduceToNat, Nat.reduceAdd, Nat.reduceMul, Nat.reduceLeDiff, Nat.reduceLT, Nat.zero_le, Int.reduceAdd, Int.reduceSub, Int.reduceMul, Int.reduceNeg, q_add_e, q_sub_e, q_mul_e, q_neg_e, q_upd_s, q_upd_n, zr_shr0, zr_shr1, zr_shr2, zr_shr3, zr_shr4, zr_and, zr_dyn8, zr_or, zr_shl, q_cpy_n, y_cpy26, c_X6_whoIn, mp_whoIn, c_X6_onesOf, mp_onesOf, e, tn_41]
    exact hq
  · rw [if_neg c] at hq
    simp (disch := omega) only [b_X6_isFullSite_0, x_loadR_0, x_loadS_0, x_loadI_1, f_6_3, x_iconst, x_imul, x_iadd, y_iald_40, y_ic_lt_t, y_ic_lt_f, b_X6_isFullSite_21, x_goto, b_X6_isFullSite_25, b_X6_isFullSite_26, x_ret1_0, x_ret1_1, q_isL_I, q_isL_R, q_isL_S, true_and, and_true, and_self, List.length_nil, List.length_cons, Nat.zero_add, x_K, x_Kn, Int.reduceToNat, Nat.reduceAdd, Nat.reduceMul, Nat.reduceLeDiff, Nat.reduceLT, Nat.zero_le, Int.reduceAdd, Int.reduceSub, Int.reduceMul, Int.reduceNeg, q_add_e, q_sub_e, q_mul_e, q_neg_e, q_upd_s, q_upd_n, zr_shr0, zr_shr1, zr_shr2, zr_shr3, zr_shr4, zr_and, zr_dyn8, zr_or, zr_shl, q_cpy_n, y_cpy26, c_X6_whoIn, mp_whoIn, c_X6_onesOf, mp_onesOf, e, tn_41]
    exact hq
set_option maxHeartbeats 4000000 in
theorem mp_last {V : Nat → (Nat → Int) → Int} {d : Nat} {g : q_G} {M : q_M} {b : Nat} {Q : Option q_V → q_G → q_M → Prop} (hm : q_ml V M) (hb : b < 5) (hq : ∀ M2 : q_M, q_mf M M2 → Q (some (qI (m_no (F_last (mIn M) (fun q => F_wants V (mW M) q b) b (M 100 0).toNat)))) g M2) : q_S 1 (d + 4) 147 [qR 6 100, qI b] g M Q := by
  have r0 := hm.1.1
  rw [s_X6_lastIn]
  have loop : ∀ j k : Nat, k + j = (M 100 0).toNat → ∀ (M1 : q_M) (l5 l6 : q_V), q_isL l5 = false → q_isL l6 = false → q_mf M M1 → q_T 1 (d + 4) qP_X6_lastIn 7 [] [qR 6 100, qI b, qI (m_no (F_last (mIn M) (fun q => F_wants V (mW M) q b) b k)), qI (if F_last (mIn M) (fun q => F_wants V (mW M) q b) b k = 5 then 0 else F_wants V (mW M) (F_last (mIn M) (fun q => F_wants V (mW M) q b) b k) b), qI k, l5, l6] [] g M1 Q := by
    intro j
    induction j with
    | zero =>
      intro k hk M1 l5 l6 hl5 hl6 hf
      have e : k = (M 100 0).toNat := by omega
      have e0 : M1 100 0 = M 100 0 := hf _ _ (by omega) (by omega)
      rw [← e] at hq
      rw [b_X6_lastIn_7]
      simp (disch := omega) only [b_X6_lastIn_0, x_iconst, x_storeI_2, x_storeI_3, x_storeI_4, x_loadI_4, x_loadR_0, x_loadS_0, f_6_0, y_ic_ge_t, y_ic_ge_f, b_X6_lastIn_16, f_6_4, x_imul, x_iadd, y_iald_35, x_loadI_1, y_ic_ne_t, y_ic_ne_f, b_X6_lastIn_31, x_storeI_5, x_loadI_2, y_ic_eq_t, y_ic_eq_f, b_X6_lastIn_45, x_loadI_5, x_loadI_3, y_ic_gt_t, y_ic_gt_f, b_X6_lastIn_51, x_goto, b_X6_lastIn_55, b_X6_lastIn_56, x_storeI_6, x_loadI_6, y_if_eq_t, y_if_eq_f, b_X6_lastIn_63, b_X6_lastIn_68, b_X6_lastIn_69, b_X6_lastIn_75, b_X6_lastIn_80, b_X6_lastIn_81, b_X6_lastIn_82, x_iinc_4, b_X6_lastIn_88, x_ret0, q_isL_I, q_isL_R, q_isL_S, true_and, and_true, and_self, List.length_nil, List.length_cons, Nat.zero_add, x_K, x_Kn, Int.reduceToNat, Nat.reduceAdd, Nat.reduceMul, Nat.reduceLeDiff, Nat.reduceLT, Nat.zero_le, Int.reduceAdd, Int.reduceSub, Int.reduceMul, Int.reduceNeg, q_add_e, q_sub_e, q_mul_e, q_neg_e, q_upd_s, q_upd_n, zr_shr0, zr_shr1, zr_shr2, zr_shr3, zr_shr4, zr_and, zr_dyn8, zr_or, zr_shl, q_cpy_n, y_cpy26]
      exact hq M1 hf
    | succ j ih =>
      intro k hk M1 l5 l6 hl5 hl6 hf
      have e0 : M1 100 0 = M 100 0 := hf _ _ (by omega) (by omega)
      have e1 : M1 104 (3 * k + 2) = M 104 (3 * k + 2) := hf _ _ (by omega) (by omega)
      have h1 := F_last_1 (mIn M) (fun q => F_wants V (mW M) q b) b k
      have ih2 := ih (k + 1) (by omega)
      rw [F_last] at ih2
      have wants : ∀ (nx : Nat) (ops : List Instr) (ls st : List q_V), (∀ M2 : q_M, q_mf M M2 → q_T 1 (d + 4) qP_X6_lastIn nx ops ls (qI (F_wants V (mW M) k b) :: st) g M2 Q) → q_S 1 (d + 3) 142 [qR 6 100, qI k, qI b] g M1 (q_K 1 (d + 4) qP_X6_lastIn nx ops ls st Q) := fun nx ops ls st h => mp_wants (q_mf_ml hf hm) (by rw [e0]; omega) hb (fun M2 h2 => by rw [q_mf_mW hf]; exact h M2 (q_mf_tr hf h2))
      rw [b_X6_lastIn_7]
      generalize hF : F_last (mIn M) (fun q => F_wants V (mW M) q b) b k = F at h1 ih2 ⊢
      have ek : m_no k = (k : Int) := if_neg (by omega)
      by_cases c : M 104 (3 * k + 2) = b
      · have ci : mIn M k = b := by unfold mIn; rw [if_neg (by omega)]; exact c
        simp (disch := omega) only [b_X6_lastIn_0, x_iconst, x_storeI_2, x_storeI_3, x_storeI_4, x_loadI_4, x_loadR_0, x_loadS_0, f_6_0, y_ic_ge_t, y_ic_ge_f, b_X6_lastIn_16, f_6_4, x_imul, x_iadd, y_iald_35, x_loadI_1, y_ic_ne_t, y_ic_ne_f, b_X6_lastIn_31, x_storeI_5, x_loadI_2, y_ic_eq_t, y_ic_eq_f, b_X6_lastIn_45, x_loadI_5, x_loadI_3, y_ic_gt_t, y_ic_gt_f, b_X6_lastIn_51, x_goto, b_X6_lastIn_55, b_X6_lastIn_56, x_storeI_6, x_loadI_6, y_if_eq_t, y_if_eq_f, b_X6_lastIn_63, b_X6_lastIn_68, b_X6_lastIn_69, b_X6_lastIn_75, b_X6_lastIn_80, b_X6_lastIn_81, b_X6_lastIn_82, x_iinc_4, b_X6_lastIn_88, x_ret0, q_isL_I, q_isL_R, q_isL_S, true_and, and_true, and_self, List.length_nil, List.length_cons, Nat.zero_add, x_K, x_Kn, Int.reduceToNat, Nat.reduceAdd, Nat.reduceMul, Nat.reduceLeDiff, Nat.reduceLT, Nat.zero_le, Int.reduceAdd, Int.reduceSub, Int.reduceMul, Int.reduceNeg, q_add_e, q_sub_e, q_mul_e, q_neg_e, q_upd_s, q_upd_n, zr_shr0, zr_shr1, zr_shr2, zr_shr3, zr_shr4, zr_and, zr_dyn8, zr_or, zr_shl, q_cpy_n, y_cpy26, tn_32, hl5, hl6, c_X6_wantedOf]
        refine wants _ _ _ _ (fun M2 h2 => ?_)
        by_cases c5 : F = 5
        · subst c5
          rw [if_pos ⟨ci, Or.inl rfl⟩, if_neg (show ¬k = 5 by omega)] at ih2
          simp only [ek] at ih2
          simp (disch := omega) only [b_X6_lastIn_0, x_iconst, x_storeI_2, x_storeI_3, x_storeI_4, x_loadI_4, x_loadR_0, x_loadS_0, f_6_0, y_ic_ge_t, y_ic_ge_f, b_X6_lastIn_16, f_6_4, x_imul, x_iadd, y_iald_35, x_loadI_1, y_ic_ne_t, y_ic_ne_f, b_X6_lastIn_31, x_storeI_5, x_loadI_2, y_ic_eq_t, y_ic_eq_f, b_X6_lastIn_45, x_loadI_5, x_loadI_3, y_ic_gt_t, y_ic_gt_f, b_X6_lastIn_51, x_goto, b_X6_lastIn_55, b_X6_lastIn_56, x_storeI_6, x_loadI_6, y_if_eq_t, y_if_eq_f, b_X6_lastIn_63, b_X6_lastIn_68, b_X6_lastIn_69, b_X6_lastIn_75, b_X6_lastIn_80, b_X6_lastIn_81, b_X6_lastIn_82, x_iinc_4, b_X6_lastIn_88, x_ret0, q_isL_I, q_isL_R, q_isL_S, true_and, and_true, and_self, List.length_nil, List.length_cons, Nat.zero_add, x_K, x_Kn, Int.reduceToNat, Nat.reduceAdd, Nat.reduceMul, Nat.reduceLeDiff, Nat.reduceLT, Nat.zero_le, Int.reduceAdd, Int.reduceSub, Int.reduceMul, Int.reduceNeg, q_add_e, q_sub_e, q_mul_e, q_neg_e, q_upd_s, q_upd_n, zr_shr0, zr_shr1, zr_shr2, zr_shr3, zr_shr4, zr_and, zr_dyn8, zr_or, zr_shl, q_cpy_n, y_cpy26, hl5, hl6, m_no, if_true]
          exact ih2 M2 _ _ rfl rfl h2
        · have em : m_no F = (F : Int) := if_neg c5
          by_cases cw : F_wants V (mW M) k b ≤ F_wants V (mW M) F b
          · rw [if_pos ⟨ci, Or.inr cw⟩, if_neg (show ¬k = 5 by omega)] at ih2
            simp only [ek] at ih2
            simp (disch := omega) only [b_X6_lastIn_0, x_iconst, x_storeI_2, x_storeI_3, x_storeI_4, x_loadI_4, x_loadR_0, x_loadS_0, f_6_0, y_ic_ge_t, y_ic_ge_f, b_X6_lastIn_16, f_6_4, x_imul, x_iadd, y_iald_35, x_loadI_1, y_ic_ne_t, y_ic_ne_f, b_X6_lastIn_31, x_storeI_5, x_loadI_2, y_ic_eq_t, y_ic_eq_f, b_X6_lastIn_45, x_loadI_5, x_loadI_3, y_ic_gt_t, y_ic_gt_f, b_X6_lastIn_51, x_goto, b_X6_lastIn_55, b_X6_lastIn_56, x_storeI_6, x_loadI_6, y_if_eq_t, y_if_eq_f, b_X6_lastIn_63, b_X6_lastIn_68, b_X6_lastIn_69, b_X6_lastIn_75, b_X6_lastIn_80, b_X6_lastIn_81, b_X6_lastIn_82, x_iinc_4, b_X6_lastIn_88, x_ret0, q_isL_I, q_isL_R, q_isL_S, true_and, and_true, and_self, List.length_nil, List.length_cons, Nat.zero_add, x_K, x_Kn, Int.reduceToNat, Nat.reduceAdd, Nat.reduceMul, Nat.reduceLeDiff, Nat.reduceLT, Nat.zero_le, Int.reduceAdd, Int.reduceSub, Int.reduceMul, Int.reduceNeg, q_add_e, q_sub_e, q_mul_e, q_neg_e, q_upd_s, q_upd_n, zr_shr0, zr_shr1, zr_shr2, zr_shr3, zr_shr4, zr_and, zr_dyn8, zr_or, zr_shl, q_cpy_n, y_cpy26, hl5, hl6, em, c5, if_false]
            exact ih2 M2 _ _ rfl rfl h2
          · rw [if_neg (fun z => z.2.elim c5 cw), if_neg c5] at ih2
            simp (disch := omega) only [b_X6_lastIn_0, x_iconst, x_storeI_2, x_storeI_3, x_storeI_4, x_loadI_4, x_loadR_0, x_loadS_0, f_6_0, y_ic_ge_t, y_ic_ge_f, b_X6_lastIn_16, f_6_4, x_imul, x_iadd, y_iald_35, x_loadI_1, y_ic_ne_t, y_ic_ne_f, b_X6_lastIn_31, x_storeI_5, x_loadI_2, y_ic_eq_t, y_ic_eq_f, b_X6_lastIn_45, x_loadI_5, x_loadI_3, y_ic_gt_t, y_ic_gt_f, b_X6_lastIn_51, x_goto, b_X6_lastIn_55, b_X6_lastIn_56, x_storeI_6, x_loadI_6, y_if_eq_t, y_if_eq_f, b_X6_lastIn_63, b_X6_lastIn_68, b_X6_lastIn_69, b_X6_lastIn_75, b_X6_lastIn_80, b_X6_lastIn_81, b_X6_lastIn_82, x_iinc_4, b_X6_lastIn_88, x_ret0, q_isL_I, q_isL_R, q_isL_S, true_and, and_true, and_self, List.length_nil, List.length_cons, Nat.zero_add, x_K, x_Kn, Int.reduceToNat, Nat.reduceAdd, Nat.reduceMul, Nat.reduceLeDiff, Nat.reduceLT, Nat.zero_le, Int.reduceAdd, Int.reduceSub, Int.reduceMul, Int.reduceNeg, q_add_e, q_sub_e, q_mul_e, q_neg_e, q_upd_s, q_upd_n, zr_shr0, zr_shr1, zr_shr2, zr_shr3, zr_shr4, zr_and, zr_dyn8, zr_or, zr_shl, q_cpy_n, y_cpy26, hl5, hl6, em, c5, if_false]
            rw [em] at ih2
            exact ih2 M2 _ _ rfl rfl h2
      · have ci : ¬mIn M k = b := by unfold mIn; split <;> omega
        rw [if_neg (fun z => ci z.1)] at ih2
        simp (disch := omega) only [b_X6_lastIn_0, x_iconst, x_storeI_2, x_storeI_3, x_storeI_4, x_loadI_4, x_loadR_0, x_loadS_0, f_6_0, y_ic_ge_t, y_ic_ge_f, b_X6_lastIn_16, f_6_4, x_imul, x_iadd, y_iald_35, x_loadI_1, y_ic_ne_t, y_ic_ne_f, b_X6_lastIn_31, x_storeI_5, x_loadI_2, y_ic_eq_t, y_ic_eq_f, b_X6_lastIn_45, x_loadI_5, x_loadI_3, y_ic_gt_t, y_ic_gt_f, b_X6_lastIn_51, x_goto, b_X6_lastIn_55, b_X6_lastIn_56, x_storeI_6, x_loadI_6, y_if_eq_t, y_if_eq_f, b_X6_lastIn_63, b_X6_lastIn_68, b_X6_lastIn_69, b_X6_lastIn_75, b_X6_lastIn_80, b_X6_lastIn_81, b_X6_lastIn_82, x_iinc_4, b_X6_lastIn_88, x_ret0, q_isL_I, q_isL_R, q_isL_S, true_and, and_true, and_self, List.length_nil, List.length_cons, Nat.zero_add, x_K, x_Kn, Int.reduceToNat, Nat.reduceAdd, Nat.reduceMul, Nat.reduceLeDiff, Nat.reduceLT, Nat.zero_le, Int.reduceAdd, Int.reduceSub, Int.reduceMul, Int.reduceNeg, q_add_e, q_sub_e, q_mul_e, q_neg_e, q_upd_s, q_upd_n, zr_shr0, zr_shr1, zr_shr2, zr_shr3, zr_shr4, zr_and, zr_dyn8, zr_or, zr_shl, q_cpy_n, y_cpy26, tn_32, hl5, hl6]
        exact ih2 M1 _ _ hl5 hl6 hf
  simp (disch := omega) only [b_X6_lastIn_0, x_iconst, x_storeI_2, x_storeI_3, x_storeI_4, x_loadI_4, x_loadR_0, x_loadS_0, f_6_0, y_ic_ge_t, y_ic_ge_f, b_X6_lastIn_16, f_6_4, x_imul, x_iadd, y_iald_35, x_loadI_1, y_ic_ne_t, y_ic_ne_f, b_X6_lastIn_31, x_storeI_5, x_loadI_2, y_ic_eq_t, y_ic_eq_f, b_X6_lastIn_45, x_loadI_5, x_loadI_3, y_ic_gt_t, y_ic_gt_f, b_X6_lastIn_51, x_goto, b_X6_lastIn_55, b_X6_lastIn_56, x_storeI_6, x_loadI_6, y_if_eq_t, y_if_eq_f, b_X6_lastIn_63, b_X6_lastIn_68, b_X6_lastIn_69, b_X6_lastIn_75, b_X6_lastIn_80, b_X6_lastIn_81, b_X6_lastIn_82, x_iinc_4, b_X6_lastIn_88, x_ret0, q_isL_I, q_isL_R, q_isL_S, true_and, and_true, and_self, List.length_nil, List.length_cons, Nat.zero_add, x_K, x_Kn, Int.reduceToNat, Nat.reduceAdd, Nat.reduceMul, Nat.reduceLeDiff, Nat.reduceLT, Nat.zero_le, Int.reduceAdd, Int.reduceSub, Int.reduceMul, Int.reduceNeg, q_add_e, q_sub_e, q_mul_e, q_neg_e, q_upd_s, q_upd_n, zr_shr0, zr_shr1, zr_shr2, zr_shr3, zr_shr4, zr_and, zr_dyn8, zr_or, zr_shl, q_cpy_n, y_cpy26]
  exact loop (M 100 0).toNat 0 (by omega) M _ _ rfl rfl q_mf_rf
set_option maxHeartbeats 4000000 in
theorem mp_takes {V : Nat → (Nat → Int) → Int} {d : Nat} {g : q_G} {M : q_M} {p b : Nat} {Q : Option q_V → q_G → q_M → Prop} (hm : q_ml V M) (hp : p < (M 100 0).toNat) (hb : b < 5) (hq : ∀ M2 : q_M, q_mf M M2 → Q (some (qI (if F_takes (mIn M) (fun q => F_wants V (mW M) q b) (M 103 (4 * b + 1)) b (M 100 0).toNat p = true then 1 else 0))) g M2) : q_S 1 (d + 5) 149 [qR 6 100, qI b, qI p] g M Q := by
  have r0 := hm.1.1
  have h1 := F_last_1 (mIn M) (fun q => F_wants V (mW M) q b) b (M 100 0).toNat
  rw [s_X6_doesTake]
  unfold F_takes at hq
  by_cases c1 : F_cnt (mIn M) b (M 100 0).toNat < M 103 (4 * b + 1)
  · rw [if_pos c1, if_pos rfl] at hq
    have c2 : ¬M 103 (4 * b + 1) ≤ F_cnt (mIn M) b (M 100 0).toNat := by omega
    simp (disch := omega) only [b_X6_doesTake_0, x_loadR_0, x_loadS_0, x_loadI_1, y_if_ne_t, y_if_ne_f, b_X6_doesTake_8, x_iconst, x_ret1_0, x_ret1_1, b_X6_doesTake_10, x_storeI_3, x_loadI_3, y_ic_ne_t, y_ic_ne_f, b_X6_doesTake_21, b_X6_doesTake_23, x_loadI_2, x_storeI_4, x_storeI_5, x_loadI_4, x_loadI_5, y_ic_gt_t, y_ic_gt_f, b_X6_doesTake_46, b_X6_doesTake_53, y_ic_ge_t, y_ic_ge_f, b_X6_doesTake_58, x_goto, b_X6_doesTake_62, b_X6_doesTake_63, q_isL_I, q_isL_R, q_isL_S, true_and, and_true, and_self, List.length_nil, List.length_cons, Nat.zero_add, x_K, x_Kn, Int.reduceToNat, Nat.reduceAdd, Nat.reduceMul, Nat.reduceLeDiff, Nat.reduceLT, Nat.zero_le, Int.reduceAdd, Int.reduceSub, Int.reduceMul, Int.reduceNeg, q_add_e, q_sub_e, q_mul_e, q_neg_e, q_upd_s, q_upd_n, zr_shr0, zr_shr1, zr_shr2, zr_shr3, zr_shr4, zr_and, zr_dyn8, zr_or, zr_shl, q_cpy_n, y_cpy26, c_X6_isFullSite, mp_full, c2, if_false]
    exact hq M q_mf_rf
  · rw [if_neg c1] at hq
    have c2 : M 103 (4 * b + 1) ≤ F_cnt (mIn M) b (M 100 0).toNat := by omega
    have last : ∀ (nx : Nat) (ops : List Instr) (ls st : List q_V), (∀ M2 : q_M, q_mf M M2 → q_T 1 (d + 5) qP_X6_doesTake nx ops ls (qI (m_no (F_last (mIn M) (fun q => F_wants V (mW M) q b) b (M 100 0).toNat)) :: st) g M2 Q) → q_S 1 (d + 4) 147 [qR 6 100, qI b] g M (q_K 1 (d + 5) qP_X6_doesTake nx ops ls st Q) := fun nx ops ls st h => mp_last hm hb h
    have wants : ∀ (M1 : q_M) (k : Nat) (nx : Nat) (ops : List Instr) (ls st : List q_V), q_mf M M1 → k < (M 100 0).toNat → (∀ M2 : q_M, q_mf M M2 → q_T 1 (d + 5) qP_X6_doesTake nx ops ls (qI (F_wants V (mW M) k b) :: st) g M2 Q) → q_S 1 (d + 4) 142 [qR 6 100, qI k, qI b] g M1 (q_K 1 (d + 5) qP_X6_doesTake nx ops ls st Q) := fun M1 k nx ops ls st hf hk h => mp_wants (q_mf_ml hf hm) (by rw [hf 100 0 (by omega) (by omega)]; exact hk) hb (fun M2 h2 => by rw [q_mf_mW hf]; exact h M2 (q_mf_tr hf h2))
    simp (disch := omega) only [b_X6_doesTake_0, x_loadR_0, x_loadS_0, x_loadI_1, y_if_ne_t, y_if_ne_f, b_X6_doesTake_8, x_iconst, x_ret1_0, x_ret1_1, b_X6_doesTake_10, x_storeI_3, x_loadI_3, y_ic_ne_t, y_ic_ne_f, b_X6_doesTake_21, b_X6_doesTake_23, x_loadI_2, x_storeI_4, x_storeI_5, x_loadI_4, x_loadI_5, y_ic_gt_t, y_ic_gt_f, b_X6_doesTake_46, b_X6_doesTake_53, y_ic_ge_t, y_ic_ge_f, b_X6_doesTake_58, x_goto, b_X6_doesTake_62, b_X6_doesTake_63, q_isL_I, q_isL_R, q_isL_S, true_and, and_true, and_self, List.length_nil, List.length_cons, Nat.zero_add, x_K, x_Kn, Int.reduceToNat, Nat.reduceAdd, Nat.reduceMul, Nat.reduceLeDiff, Nat.reduceLT, Nat.zero_le, Int.reduceAdd, Int.reduceSub, Int.reduceMul, Int.reduceNeg, q_add_e, q_sub_e, q_mul_e, q_neg_e, q_upd_s, q_upd_n, zr_shr0, zr_shr1, zr_shr2, zr_shr3, zr_shr4, zr_and, zr_dyn8, zr_or, zr_shl, q_cpy_n, y_cpy26, c_X6_isFullSite, mp_full, c2, if_true, c_X6_lastIn]
    refine last _ _ _ _ (fun M2 h2 => ?_)
    generalize F_last (mIn M) (fun q => F_wants V (mW M) q b) b (M 100 0).toNat = F at h1 hq ⊢
    by_cases c5 : F = 5
    · subst c5
      rw [if_pos rfl, if_neg (by decide)] at hq
      simp (disch := omega) only [b_X6_doesTake_0, x_loadR_0, x_loadS_0, x_loadI_1, y_if_ne_t, y_if_ne_f, b_X6_doesTake_8, x_iconst, x_ret1_0, x_ret1_1, b_X6_doesTake_10, x_storeI_3, x_loadI_3, y_ic_ne_t, y_ic_ne_f, b_X6_doesTake_21, b_X6_doesTake_23, x_loadI_2, x_storeI_4, x_storeI_5, x_loadI_4, x_loadI_5, y_ic_gt_t, y_ic_gt_f, b_X6_doesTake_46, b_X6_doesTake_53, y_ic_ge_t, y_ic_ge_f, b_X6_doesTake_58, x_goto, b_X6_doesTake_62, b_X6_doesTake_63, q_isL_I, q_isL_R, q_isL_S, true_and, and_true, and_self, List.length_nil, List.length_cons, Nat.zero_add, x_K, x_Kn, Int.reduceToNat, Nat.reduceAdd, Nat.reduceMul, Nat.reduceLeDiff, Nat.reduceLT, Nat.zero_le, Int.reduceAdd, Int.reduceSub, Int.reduceMul, Int.reduceNeg, q_add_e, q_sub_e, q_mul_e, q_neg_e, q_upd_s, q_upd_n, zr_shr0, zr_shr1, zr_shr2, zr_shr3, zr_shr4, zr_and, zr_dyn8, zr_or, zr_shl, q_cpy_n, y_cpy26, m_no, if_true]
      exact hq M2 h2
    · have em : m_no F = (F : Int) := if_neg c5
      rw [if_neg c5] at hq
      simp (disch := omega) only [b_X6_doesTake_0, x_loadR_0, x_loadS_0, x_loadI_1, y_if_ne_t, y_if_ne_f, b_X6_doesTake_8, x_iconst, x_ret1_0, x_ret1_1, b_X6_doesTake_10, x_storeI_3, x_loadI_3, y_ic_ne_t, y_ic_ne_f, b_X6_doesTake_21, b_X6_doesTake_23, x_loadI_2, x_storeI_4, x_storeI_5, x_loadI_4, x_loadI_5, y_ic_gt_t, y_ic_gt_f, b_X6_doesTake_46, b_X6_doesTake_53, y_ic_ge_t, y_ic_ge_f, b_X6_doesTake_58, x_goto, b_X6_doesTake_62, b_X6_doesTake_63, q_isL_I, q_isL_R, q_isL_S, true_and, and_true, and_self, List.length_nil, List.length_cons, Nat.zero_add, x_K, x_Kn, Int.reduceToNat, Nat.reduceAdd, Nat.reduceMul, Nat.reduceLeDiff, Nat.reduceLT, Nat.zero_le, Int.reduceAdd, Int.reduceSub, Int.reduceMul, Int.reduceNeg, q_add_e, q_sub_e, q_mul_e, q_neg_e, q_upd_s, q_upd_n, zr_shr0, zr_shr1, zr_shr2, zr_shr3, zr_shr4, zr_and, zr_dyn8, zr_or, zr_shl, q_cpy_n, y_cpy26, em, c_X6_wantedOf]
      refine wants _ _ _ _ _ _ h2 hp (fun M3 h3 => ?_)
      simp (disch := omega) only [b_X6_doesTake_0, x_loadR_0, x_loadS_0, x_loadI_1, y_if_ne_t, y_if_ne_f, b_X6_doesTake_8, x_iconst, x_ret1_0, x_ret1_1, b_X6_doesTake_10, x_storeI_3, x_loadI_3, y_ic_ne_t, y_ic_ne_f, b_X6_doesTake_21, b_X6_doesTake_23, x_loadI_2, x_storeI_4, x_storeI_5, x_loadI_4, x_loadI_5, y_ic_gt_t, y_ic_gt_f, b_X6_doesTake_46, b_X6_doesTake_53, y_ic_ge_t, y_ic_ge_f, b_X6_doesTake_58, x_goto, b_X6_doesTake_62, b_X6_doesTake_63, q_isL_I, q_isL_R, q_isL_S, true_and, and_true, and_self, List.length_nil, List.length_cons, Nat.zero_add, x_K, x_Kn, Int.reduceToNat, Nat.reduceAdd, Nat.reduceMul, Nat.reduceLeDiff, Nat.reduceLT, Nat.zero_le, Int.reduceAdd, Int.reduceSub, Int.reduceMul, Int.reduceNeg, q_add_e, q_sub_e, q_mul_e, q_neg_e, q_upd_s, q_upd_n, zr_shr0, zr_shr1, zr_shr2, zr_shr3, zr_shr4, zr_and, zr_dyn8, zr_or, zr_shl, q_cpy_n, y_cpy26, c_X6_wantedOf]
      refine wants _ _ _ _ _ _ h3 (by omega) (fun M4 h4 => ?_)
      by_cases c6 : F_wants V (mW M) F b < F_wants V (mW M) p b ∨ (F_wants V (mW M) p b = F_wants V (mW M) F b ∧ p < F)
      · rw [if_pos (decide_eq_true c6)] at hq
        rcases c6 with c7 | ⟨c7, c8⟩
        · simp (disch := omega) only [b_X6_doesTake_0, x_loadR_0, x_loadS_0, x_loadI_1, y_if_ne_t, y_if_ne_f, b_X6_doesTake_8, x_iconst, x_ret1_0, x_ret1_1, b_X6_doesTake_10, x_storeI_3, x_loadI_3, y_ic_ne_t, y_ic_ne_f, b_X6_doesTake_21, b_X6_doesTake_23, x_loadI_2, x_storeI_4, x_storeI_5, x_loadI_4, x_loadI_5, y_ic_gt_t, y_ic_gt_f, b_X6_doesTake_46, b_X6_doesTake_53, y_ic_ge_t, y_ic_ge_f, b_X6_doesTake_58, x_goto, b_X6_doesTake_62, b_X6_doesTake_63, q_isL_I, q_isL_R, q_isL_S, true_and, and_true, and_self, List.length_nil, List.length_cons, Nat.zero_add, x_K, x_Kn, Int.reduceToNat, Nat.reduceAdd, Nat.reduceMul, Nat.reduceLeDiff, Nat.reduceLT, Nat.zero_le, Int.reduceAdd, Int.reduceSub, Int.reduceMul, Int.reduceNeg, q_add_e, q_sub_e, q_mul_e, q_neg_e, q_upd_s, q_upd_n, zr_shr0, zr_shr1, zr_shr2, zr_shr3, zr_shr4, zr_and, zr_dyn8, zr_or, zr_shl, q_cpy_n, y_cpy26]
          exact hq M4 h4
        · simp (disch := omega) only [b_X6_doesTake_0, x_loadR_0, x_loadS_0, x_loadI_1, y_if_ne_t, y_if_ne_f, b_X6_doesTake_8, x_iconst, x_ret1_0, x_ret1_1, b_X6_doesTake_10, x_storeI_3, x_loadI_3, y_ic_ne_t, y_ic_ne_f, b_X6_doesTake_21, b_X6_doesTake_23, x_loadI_2, x_storeI_4, x_storeI_5, x_loadI_4, x_loadI_5, y_ic_gt_t, y_ic_gt_f, b_X6_doesTake_46, b_X6_doesTake_53, y_ic_ge_t, y_ic_ge_f, b_X6_doesTake_58, x_goto, b_X6_doesTake_62, b_X6_doesTake_63, q_isL_I, q_isL_R, q_isL_S, true_and, and_true, and_self, List.length_nil, List.length_cons, Nat.zero_add, x_K, x_Kn, Int.reduceToNat, Nat.reduceAdd, Nat.reduceMul, Nat.reduceLeDiff, Nat.reduceLT, Nat.zero_le, Int.reduceAdd, Int.reduceSub, Int.reduceMul, Int.reduceNeg, q_add_e, q_sub_e, q_mul_e, q_neg_e, q_upd_s, q_upd_n, zr_shr0, zr_shr1, zr_shr2, zr_shr3, zr_shr4, zr_and, zr_dyn8, zr_or, zr_shl, q_cpy_n, y_cpy26]
          exact hq M4 h4
      · rw [if_neg (fun z => c6 (of_decide_eq_true z))] at hq
        by_cases c7 : F_wants V (mW M) p b = F_wants V (mW M) F b
        · simp (disch := omega) only [b_X6_doesTake_0, x_loadR_0, x_loadS_0, x_loadI_1, y_if_ne_t, y_if_ne_f, b_X6_doesTake_8, x_iconst, x_ret1_0, x_ret1_1, b_X6_doesTake_10, x_storeI_3, x_loadI_3, y_ic_ne_t, y_ic_ne_f, b_X6_doesTake_21, b_X6_doesTake_23, x_loadI_2, x_storeI_4, x_storeI_5, x_loadI_4, x_loadI_5, y_ic_gt_t, y_ic_gt_f, b_X6_doesTake_46, b_X6_doesTake_53, y_ic_ge_t, y_ic_ge_f, b_X6_doesTake_58, x_goto, b_X6_doesTake_62, b_X6_doesTake_63, q_isL_I, q_isL_R, q_isL_S, true_and, and_true, and_self, List.length_nil, List.length_cons, Nat.zero_add, x_K, x_Kn, Int.reduceToNat, Nat.reduceAdd, Nat.reduceMul, Nat.reduceLeDiff, Nat.reduceLT, Nat.zero_le, Int.reduceAdd, Int.reduceSub, Int.reduceMul, Int.reduceNeg, q_add_e, q_sub_e, q_mul_e, q_neg_e, q_upd_s, q_upd_n, zr_shr0, zr_shr1, zr_shr2, zr_shr3, zr_shr4, zr_and, zr_dyn8, zr_or, zr_shl, q_cpy_n, y_cpy26]
          exact hq M4 h4
        · simp (disch := omega) only [b_X6_doesTake_0, x_loadR_0, x_loadS_0, x_loadI_1, y_if_ne_t, y_if_ne_f, b_X6_doesTake_8, x_iconst, x_ret1_0, x_ret1_1, b_X6_doesTake_10, x_storeI_3, x_loadI_3, y_ic_ne_t, y_ic_ne_f, b_X6_doesTake_21, b_X6_doesTake_23, x_loadI_2, x_storeI_4, x_storeI_5, x_loadI_4, x_loadI_5, y_ic_gt_t, y_ic_gt_f, b_X6_doesTake_46, b_X6_doesTake_53, y_ic_ge_t, y_ic_ge_f, b_X6_doesTake_58, x_goto, b_X6_doesTake_62, b_X6_doesTake_63, q_isL_I, q_isL_R, q_isL_S, true_and, and_true, and_self, List.length_nil, List.length_cons, Nat.zero_add, x_K, x_Kn, Int.reduceToNat, Nat.reduceAdd, Nat.reduceMul, Nat.reduceLeDiff, Nat.reduceLT, Nat.zero_le, Int.reduceAdd, Int.reduceSub, Int.reduceMul, Int.reduceNeg, q_add_e, q_sub_e, q_mul_e, q_neg_e, q_upd_s, q_upd_n, zr_shr0, zr_shr1, zr_shr2, zr_shr3, zr_shr4, zr_and, zr_dyn8, zr_or, zr_shl, q_cpy_n, y_cpy26]
          exact hq M4 h4
theorem mW_up2 {M : q_M} {p : Nat} {v : Int} (hp : p < (M 100 0).toNat) : mW (q_upd M 104 (3 * p) v) = q_upd (mW M) 2 p v := by
  funext f i
  by_cases hf : f = 2 ∧ i = p
  · obtain ⟨rfl, rfl⟩ := hf
    rw [q_upd_s, mW_2 (by rw [q_upd_n (by omega)]; exact hp), q_upd_s]
  · rw [q_upd_n (by omega)]
    unfold mW mIn
    split <;> simp (disch := omega) only [q_upd_n]
theorem mW_up3 {M : q_M} {p : Nat} {v : Int} (hp : p < (M 100 0).toNat) : mW (q_upd M 104 (3 * p + 1) v) = q_upd (mW M) 3 p v := by
  funext f i
  by_cases hf : f = 3 ∧ i = p
  · obtain ⟨rfl, rfl⟩ := hf
    rw [q_upd_s, mW_3 (by rw [q_upd_n (by omega)]; exact hp), q_upd_s]
  · rw [q_upd_n (by omega)]
    unfold mW mIn
    split <;> simp (disch := omega) only [q_upd_n]
theorem mW_up4 {M : q_M} {p : Nat} {v : Int} (hp : p < (M 100 0).toNat) : mW (q_upd M 104 (3 * p + 2) v) = q_upd (mW M) 4 p (if v = -1 then 5 else v) := by
  funext f i
  by_cases hf : f = 4 ∧ i = p
  · obtain ⟨rfl, rfl⟩ := hf
    rw [q_upd_s, mW_4 (by rw [q_upd_n (by omega)]; exact hp)]
    unfold mIn
    rw [q_upd_s]
  · rw [q_upd_n (by omega)]
    unfold mW mIn
    split <;> simp (disch := omega) only [q_upd_n]
theorem mW_up5 {M : q_M} {b : Nat} {v : Int} (hb : b < 5) : mW (q_upd M 103 (4 * b) v) = q_upd (mW M) 5 b v := by
  funext f i
  by_cases hf : f = 5 ∧ i = b
  · obtain ⟨rfl, rfl⟩ := hf
    rw [q_upd_s, mW_5 hb, q_upd_s]
  · rw [q_upd_n (by omega)]
    unfold mW mIn
    split <;> simp (disch := omega) only [q_upd_n]
theorem mW_up6 {M : q_M} {b : Nat} {v : Int} (hb : b < 5) : mW (q_upd M 103 (4 * b + 1) v) = q_upd (mW M) 6 b v := by
  funext f i
  by_cases hf : f = 6 ∧ i = b
  · obtain ⟨rfl, rfl⟩ := hf
    rw [q_upd_s, mW_6 hb, q_upd_s]
  · rw [q_upd_n (by omega)]
    unfold mW mIn
    split <;> simp (disch := omega) only [q_upd_n]
theorem mW_up7 {M : q_M} {b : Nat} {v : Int} (hb : b < 5) : mW (q_upd M 103 (4 * b + 2) v) = q_upd (mW M) 7 b v := by
  funext f i
  by_cases hf : f = 7 ∧ i = b
  · obtain ⟨rfl, rfl⟩ := hf
    rw [q_upd_s, mW_7 hb, q_upd_s]
  · rw [q_upd_n (by omega)]
    unfold mW mIn
    split <;> simp (disch := omega) only [q_upd_n]
theorem mW_up8 {M : q_M} {b : Nat} {v : Int} (hb : b < 5) : mW (q_upd M 103 (4 * b + 3) v) = q_upd (mW M) 8 b v := by
  funext f i
  by_cases hf : f = 8 ∧ i = b
  · obtain ⟨rfl, rfl⟩ := hf
    rw [q_upd_s, mW_8 hb, q_upd_s]
  · rw [q_upd_n (by omega)]
    unfold mW mIn
    split <;> simp (disch := omega) only [q_upd_n]
theorem mW_up9 {M : q_M} {v : Int} : mW (q_upd M 100 5 v) = q_upd (mW M) 9 1 v := by
  funext f i
  by_cases hf : f = 9 ∧ i = 1
  · obtain ⟨rfl, rfl⟩ := hf
    rw [q_upd_s, mW_91, q_upd_s]
  · rw [q_upd_n (by omega)]
    unfold mW mIn
    split <;> simp (disch := omega) only [q_upd_n]
theorem mW_up0 {M : q_M} {p : Nat} {v : Int} (hp : p < (M 100 0).toNat) : mW (q_upd M 101 p v) = q_upd (mW M) 0 p v := by
  funext f i
  by_cases hf : f = 0 ∧ i = p
  · obtain ⟨rfl, rfl⟩ := hf
    rw [q_upd_s, mW_0 (by rw [q_upd_n (by omega)]; exact hp), q_upd_s]
  · rw [q_upd_n (by omega)]
    unfold mW mIn
    split <;> simp (disch := omega) only [q_upd_n]
theorem mW_up1 {M : q_M} {p : Nat} {v : Int} (hp : p < (M 100 0).toNat) : mW (q_upd M 102 p v) = q_upd (mW M) 1 p v := by
  funext f i
  by_cases hf : f = 1 ∧ i = p
  · obtain ⟨rfl, rfl⟩ := hf
    rw [q_upd_s, mW_1 (by rw [q_upd_n (by omega)]; exact hp), q_upd_s]
  · rw [q_upd_n (by omega)]
    unfold mW mIn
    split <;> simp (disch := omega) only [q_upd_n]
/-- a number that may stand at a cell of the model's world -/
def q_okv (a i : Nat) (v : Int) : Prop := (a = 104 → i % 3 < 2 → 0 ≤ v ∧ v ≤ 99) ∧ (a = 104 → i % 3 = 2 → -1 ≤ v ∧ v ≤ 4) ∧ (a = 103 → i % 4 ≠ 1 → 0 ≤ v ∧ v ≤ 99) ∧ (a = 103 → i % 4 = 1 → 0 ≤ v ∧ v ≤ 6) ∧ (a = 100 → i = 5 → 0 ≤ v ∧ v ≤ 2000) ∧ (a = 101 → 0 ≤ v ∧ v ≤ 5) ∧ (a = 102 → 0 ≤ v ∧ v ≤ 9) ∧ (a = 100 → i ≠ 0)
theorem q_okE {p : Prop} {a b : Nat} (h : a ≠ b) : a = b → p := fun e => absurd e h
theorem q_ok2 {p : Nat} {v : Int} (h : 0 ≤ v ∧ v ≤ 99) : q_okv 104 (3 * p) v := ⟨fun _ _ => h, fun _ z => absurd z (by omega), q_okE (by decide), q_okE (by decide), q_okE (by decide), q_okE (by decide), q_okE (by decide), q_okE (by decide)⟩
theorem q_ok3 {p : Nat} {v : Int} (h : 0 ≤ v ∧ v ≤ 99) : q_okv 104 (3 * p + 1) v := ⟨fun _ _ => h, fun _ z => absurd z (by omega), q_okE (by decide), q_okE (by decide), q_okE (by decide), q_okE (by decide), q_okE (by decide), q_okE (by decide)⟩
theorem q_ok4 {p : Nat} {v : Int} (h : -1 ≤ v ∧ v ≤ 4) : q_okv 104 (3 * p + 2) v := ⟨fun _ z => absurd z (by omega), fun _ _ => h, q_okE (by decide), q_okE (by decide), q_okE (by decide), q_okE (by decide), q_okE (by decide), q_okE (by decide)⟩
theorem q_ok5 {i : Nat} {v : Int} (hi : i % 4 ≠ 1) (h : 0 ≤ v ∧ v ≤ 99) : q_okv 103 i v := ⟨q_okE (by decide), q_okE (by decide), fun _ _ => h, fun _ z => absurd z hi, q_okE (by decide), q_okE (by decide), q_okE (by decide), q_okE (by decide)⟩
theorem q_ok6 {b : Nat} {v : Int} (h : 0 ≤ v ∧ v ≤ 6) : q_okv 103 (4 * b + 1) v := ⟨q_okE (by decide), q_okE (by decide), fun _ z => absurd (show (4 * b + 1) % 4 = 1 by omega) z, fun _ _ => h, q_okE (by decide), q_okE (by decide), q_okE (by decide), q_okE (by decide)⟩
theorem q_ok9 {v : Int} (h : 0 ≤ v ∧ v ≤ 2000) : q_okv 100 5 v := ⟨q_okE (by decide), q_okE (by decide), q_okE (by decide), q_okE (by decide), fun _ _ => h, q_okE (by decide), q_okE (by decide), fun _ => by decide⟩
theorem q_ok0 {i : Nat} {v : Int} (h : 0 ≤ v ∧ v ≤ 5) : q_okv 101 i v := ⟨q_okE (by decide), q_okE (by decide), q_okE (by decide), q_okE (by decide), q_okE (by decide), fun _ => h, q_okE (by decide), q_okE (by decide)⟩
theorem q_ok1 {i : Nat} {v : Int} (h : 0 ≤ v ∧ v ≤ 9) : q_okv 102 i v := ⟨q_okE (by decide), q_okE (by decide), q_okE (by decide), q_okE (by decide), q_okE (by decide), q_okE (by decide), fun _ => h, q_okE (by decide)⟩
theorem q_upd_key {M : q_M} {a i : Nat} {v : Int} (x j : Nat) : q_upd M a i v x j = M x j ∨ (x = a ∧ j = i ∧ q_upd M a i v x j = v) := by
  by_cases e : x = a ∧ j = i
  · obtain ⟨rfl, rfl⟩ := e
    exact Or.inr ⟨rfl, rfl, q_upd_s⟩
  · exact Or.inl (q_upd_n (by omega))
theorem q_mb_up {M : q_M} {a i : Nat} {v : Int} (hb : q_mb M) (h : q_okv a i v) : q_mb (q_upd M a i v) := by
  obtain ⟨r0, r1, r2, r3, r4, r5, r6, r7, r8, r9, ra⟩ := hb
  obtain ⟨h1, h2, h3, h4, h5, h6, h7, h8⟩ := h
  refine ⟨?_, ?_, fun j hj => ?_, fun j hj => ?_, fun j hj => ?_, fun j hj => ?_, fun j hj => ?_, fun j hj => ?_, fun j hj => ?_, fun j hj => ?_, fun j hj => ?_⟩
  · rcases q_upd_key (M := M) (a := a) (i := i) (v := v) 100 0 with e | ⟨e1, e2, e3⟩
    · rw [e]; exact r0
    · exact absurd e2.symm (h8 e1.symm)
  · rcases q_upd_key (M := M) (a := a) (i := i) (v := v) 100 5 with e | ⟨e1, e2, e3⟩
    · rw [e]; exact r1
    · rw [e3]; exact h5 e1.symm e2.symm
  · rcases q_upd_key (M := M) (a := a) (i := i) (v := v) 101 j with e | ⟨e1, e2, e3⟩
    · rw [e]; exact r2 j hj
    · rw [e3]; exact h6 e1.symm
  · rcases q_upd_key (M := M) (a := a) (i := i) (v := v) 102 j with e | ⟨e1, e2, e3⟩
    · rw [e]; exact r3 j hj
    · rw [e3]; exact h7 e1.symm
  · rcases q_upd_key (M := M) (a := a) (i := i) (v := v) 104 (3 * j) with e | ⟨e1, e2, e3⟩
    · rw [e]; exact r4 j hj
    · rw [e3]; exact h1 e1.symm (by omega)
  · rcases q_upd_key (M := M) (a := a) (i := i) (v := v) 104 (3 * j + 1) with e | ⟨e1, e2, e3⟩
    · rw [e]; exact r5 j hj
    · rw [e3]; exact h1 e1.symm (by omega)
  · rcases q_upd_key (M := M) (a := a) (i := i) (v := v) 104 (3 * j + 2) with e | ⟨e1, e2, e3⟩
    · rw [e]; exact r6 j hj
    · rw [e3]; exact h2 e1.symm (by omega)
  · rcases q_upd_key (M := M) (a := a) (i := i) (v := v) 103 (4 * j) with e | ⟨e1, e2, e3⟩
    · rw [e]; exact r7 j hj
    · rw [e3]; exact h3 e1.symm (by omega)
  · rcases q_upd_key (M := M) (a := a) (i := i) (v := v) 103 (4 * j + 1) with e | ⟨e1, e2, e3⟩
    · rw [e]; exact r8 j hj
    · rw [e3]; exact h4 e1.symm (by omega)
  · rcases q_upd_key (M := M) (a := a) (i := i) (v := v) 103 (4 * j + 2) with e | ⟨e1, e2, e3⟩
    · rw [e]; exact r9 j hj
    · rw [e3]; exact h3 e1.symm (by omega)
  · rcases q_upd_key (M := M) (a := a) (i := i) (v := v) 103 (4 * j + 3) with e | ⟨e1, e2, e3⟩
    · rw [e]; exact ra j hj
    · rw [e3]; exact h3 e1.symm (by omega)
theorem q_ml_up {V : Nat → (Nat → Int) → Int} {M : q_M} {a i : Nat} {v : Int} (hm : q_ml V M) (h : q_okv a i v) (h1 : a ≠ 106) (h2 : a ≠ 107) (h3 : a ≠ 100 ∨ i ≠ 11) : q_ml V (q_upd M a i v) :=
  ⟨q_mb_up hm.1 h, hm.2.1, fun M' g1 g2 => hm.2.2 M' (fun x j hx => (g1 x j hx).trans (q_upd_n (by omega))) (g2.trans (q_upd_n (by omega)))⟩
