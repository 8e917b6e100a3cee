/-! THE CLASS'S CHOICE: who would rather be where, and be taken -/
theorem sp_ratherBeIn {d : Nat} {g : q_G} {M : q_M} {c : Nat} {p b o : Int} (hp0 : 0 ≤ p) (hp : p < 6) (hb0 : 0 ≤ b) (hb : b < 6) (ho0 : 0 ≤ o) (ho : o < 6) (Q : Option q_V → q_G → q_M → Prop) : q_S 1 d 9 [qR 0 c, qI p, qI b, qI o] g M Q = Q (some (qI (if 0 < M (c + 3 + (1 + p.toNat)) b.toNat ∧ (M (c + 3 + (1 + p.toNat)) o.toNat < M (c + 3 + (1 + p.toNat)) b.toNat ∨ (M (c + 3 + (1 + p.toNat)) b.toNat = M (c + 3 + (1 + p.toNat)) o.toNat ∧ b < o)) then 1 else 0))) g M := by
  refine q_S_eq (fun Q hq => ?_) Q
  rw [s_X0_ratherBeIn]
  repeat' (first
    | (rw [if_pos (by omega)] at hq; exact hq)
    | (rw [if_neg (by omega)] at hq; exact hq)
    | simp (disch := omega) only [b_X0_ratherBeIn_0, x_loadR_0, x_loadS_0, f_0_2, x_loadI_1, y_aald7, x_loadI_2, y_iald_26, x_storeI_4, x_loadI_3, x_storeI_5, x_loadI_4, y_if_le_t, y_if_le_f, b_X0_ratherBeIn_25, x_loadI_5, y_ic_gt_t, y_ic_gt_f, b_X0_ratherBeIn_32, y_ic_ne_t, y_ic_ne_f, b_X0_ratherBeIn_39, y_ic_ge_t, y_ic_ge_f, b_X0_ratherBeIn_44, x_iconst, x_goto, b_X0_ratherBeIn_48, b_X0_ratherBeIn_49, x_ret1_0, x_ret1_1, q_isL_I, q_isL_R, q_isL_S, true_and, and_true, and_self, List.length_nil, List.length_cons, Nat.zero_add, x_K, x_Kn, Int.reduceToNat, Nat.reduceAdd, Nat.reduceMul, Nat.reduceLeDiff, Nat.reduceLT, Nat.zero_le, Int.reduceAdd, Int.reduceSub, Int.reduceMul, Int.reduceNeg, q_add_e, q_sub_e, q_mul_e, q_neg_e, q_upd_s, q_upd_n, zr_shr0, zr_shr1, zr_shr2, zr_shr3, zr_shr4, zr_and, zr_dyn8, zr_or, zr_shl, q_cpy_n, y_cpy26]
    | refine y_ic_lt (fun h => ?_) (fun h => ?_)
    | refine y_ic_ge (fun h => ?_) (fun h => ?_)
    | refine y_ic_gt (fun h => ?_) (fun h => ?_)
    | refine y_ic_le (fun h => ?_) (fun h => ?_)
    | refine y_ic_eq (fun h => ?_) (fun h => ?_)
    | refine y_ic_ne (fun h => ?_) (fun h => ?_)
    | refine y_if_lt (fun h => ?_) (fun h => ?_)
    | refine y_if_ge (fun h => ?_) (fun h => ?_)
    | refine y_if_gt (fun h => ?_) (fun h => ?_)
    | refine y_if_le (fun h => ?_) (fun h => ?_)
    | refine y_if_eq (fun h => ?_) (fun h => ?_)
    | refine y_if_ne (fun h => ?_) (fun h => ?_))
theorem sp_ratherHave {d : Nat} {g : q_G} {M : q_M} {c : Nat} {b p o : Int} (hp0 : 0 ≤ p) (hp : p < 6) (hb0 : 0 ≤ b) (hb : b < 6) (ho0 : 0 ≤ o) (ho : o < 6) (Q : Option q_V → q_G → q_M → Prop) : q_S 1 d 11 [qR 0 c, qI b, qI p, qI o] g M Q = Q (some (qI (if M (c + 10 + (1 + o.toNat)) b.toNat < M (c + 10 + (1 + p.toNat)) b.toNat ∨ (M (c + 10 + (1 + p.toNat)) b.toNat = M (c + 10 + (1 + o.toNat)) b.toNat ∧ p < o) then 1 else 0))) g M := by
  refine q_S_eq (fun Q hq => ?_) Q
  rw [s_X0_ratherHave]
  repeat' (first
    | (rw [if_pos (by omega)] at hq; exact hq)
    | (rw [if_neg (by omega)] at hq; exact hq)
    | simp (disch := omega) only [b_X0_ratherHave_0, x_loadR_0, x_loadS_0, f_0_3, x_loadI_2, y_aald7, x_loadI_1, y_iald_26, x_loadI_3, y_ic_gt_t, y_ic_gt_f, b_X0_ratherHave_19, y_ic_ne_t, y_ic_ne_f, b_X0_ratherHave_38, y_ic_ge_t, y_ic_ge_f, b_X0_ratherHave_43, x_iconst, x_goto, b_X0_ratherHave_47, b_X0_ratherHave_48, x_ret1_0, x_ret1_1, q_isL_I, q_isL_R, q_isL_S, true_and, and_true, and_self, List.length_nil, List.length_cons, Nat.zero_add, x_K, x_Kn, Int.reduceToNat, Nat.reduceAdd, Nat.reduceMul, Nat.reduceLeDiff, Nat.reduceLT, Nat.zero_le, Int.reduceAdd, Int.reduceSub, Int.reduceMul, Int.reduceNeg, q_add_e, q_sub_e, q_mul_e, q_neg_e, q_upd_s, q_upd_n, zr_shr0, zr_shr1, zr_shr2, zr_shr3, zr_shr4, zr_and, zr_dyn8, zr_or, zr_shl, q_cpy_n, y_cpy26]
    | refine y_ic_lt (fun h => ?_) (fun h => ?_)
    | refine y_ic_ge (fun h => ?_) (fun h => ?_)
    | refine y_ic_gt (fun h => ?_) (fun h => ?_)
    | refine y_ic_le (fun h => ?_) (fun h => ?_)
    | refine y_ic_eq (fun h => ?_) (fun h => ?_)
    | refine y_ic_ne (fun h => ?_) (fun h => ?_)
    | refine y_if_lt (fun h => ?_) (fun h => ?_)
    | refine y_if_ge (fun h => ?_) (fun h => ?_)
    | refine y_if_gt (fun h => ?_) (fun h => ?_)
    | refine y_if_le (fun h => ?_) (fun h => ?_)
    | refine y_if_eq (fun h => ?_) (fun h => ?_)
    | refine y_if_ne (fun h => ?_) (fun h => ?_))
theorem F_best_1 (L : Nat → Int) (ok : Nat → Bool) : ∀ k : Nat, (F_best L ok k).1 < k ∨ (F_best L ok k).1 = 5
  | 0 => Or.inr rfl
  | k + 1 => by
    rw [F_best]
    split
    · exact Or.inl (Nat.lt_succ_self k)
    · rcases F_best_1 L ok k with h | h
      · exact Or.inl (Nat.lt_succ_of_lt h)
      · exact Or.inr h
theorem F_best_2 {L : Nat → Int} {ok : Nat → Bool} (h5 : L 5 = 0) : ∀ k : Nat, (F_best L ok k).2 = L (F_best L ok k).1 ∧ 0 ≤ (F_best L ok k).2
  | 0 => ⟨h5.symm, Int.le_refl 0⟩
  | k + 1 => by
    have h := F_best_2 (ok := ok) h5 k
    rw [F_best]
    split
    · next hc => exact ⟨rfl, by have := hc.2; show 0 ≤ L k; omega⟩
    · exact h
theorem sp_dearest {d : Nat} {g : q_G} {M : q_M} {c : Nat} {p but : Int} (hp0 : 0 ≤ p) (hp : p < 6) (hL5 : M (c + 3 + (1 + p.toNat)) 5 = 0) (Q : Option q_V → q_G → q_M → Prop) : q_S 1 (d + 1) 10 [qR 0 c, qI p, qI but] g M Q = Q (some (qI (F_best (M (c + 3 + (1 + p.toNat))) (fun k => decide (q_and (q_shr but k) 1 = 0)) 5).1)) g M := by
  refine q_S_eq (fun Q hq => ?_) Q
  rw [s_X0_dearest]
  generalize hF : (fun k : Nat => decide (q_and (q_shr but k) 1 = 0)) = ok at hq
  have loop : ∀ k b : Nat, b + k = 5 → q_T 1 (d + 1) qP_X0_dearest 5 [] [qR 0 c, qI p, qI but, qI ((F_best (M (c + 3 + (1 + p.toNat))) ok b).1 : Nat), qI b] [] g M Q := by
    intro k
    induction k with
    | zero =>
      intro b hb
      have e : b = 5 := by omega
      subst e
      rw [b_X0_dearest_5]
      simp (disch := omega) only [b_X0_dearest_0, x_iconst, x_storeI_3, x_storeI_4, x_loadI_4, y_ic_ge_t, y_ic_ge_f, b_X0_dearest_11, x_loadI_2, x_ishr, x_iand, y_if_ne_t, y_if_ne_f, b_X0_dearest_20, x_loadR_0, x_loadS_0, x_loadI_1, x_loadI_3, c_X0_ratherBeIn, y_if_eq_t, y_if_eq_f, b_X0_dearest_31, b_X0_dearest_34, x_iinc_4, x_goto, b_X0_dearest_40, x_ret0, f_0_2, y_aald7, y_iald_26, x_storeI_5, y_if_le_t, y_if_le_f, x_loadI_5, y_ic_gt_t, y_ic_gt_f, y_ic_ne_t, y_ic_ne_f, x_ret1_0, x_ret1_1, q_isL_I, q_isL_R, q_isL_S, true_and, and_true, and_self, List.length_nil, List.length_cons, Nat.zero_add, x_K, x_Kn, Int.reduceToNat, Nat.reduceAdd, Nat.reduceMul, Nat.reduceLeDiff, Nat.reduceLT, Nat.zero_le, Int.reduceAdd, Int.reduceSub, Int.reduceMul, Int.reduceNeg, q_add_e, q_sub_e, q_mul_e, q_neg_e, q_upd_s, q_upd_n, zr_shr0, zr_shr1, zr_shr2, zr_shr3, zr_shr4, zr_and, zr_dyn8, zr_or, zr_shl, q_cpy_n, y_cpy26]
      exact hq
    | succ k ih =>
      intro b hb
      have h1 := F_best_1 (M (c + 3 + (1 + p.toNat))) ok b
      have h2 := F_best_2 (ok := ok) hL5 b
      have h3 : (F_best (M (c + 3 + (1 + p.toNat))) ok b).1 = 5 → (F_best (M (c + 3 + (1 + p.toNat))) ok b).2 = 0 := fun e => by rw [h2.1, e]; exact hL5
      have h9 := ih (b + 1) (by omega)
      rw [F_best] at h9
      have hok : ok b = decide (q_and (q_shr but b) 1 = 0) := by rw [← hF]
      rw [b_X0_dearest_5]
      generalize F_best (M (c + 3 + (1 + p.toNat))) ok b = F at h1 h2 h3 h9 ⊢
      by_cases ho : q_and (q_shr but b) 1 = 0
      · rw [hok, decide_eq_true ho] at h9
        by_cases hl : F.2 < M (c + 3 + (1 + p.toNat)) b
        · rw [if_pos ⟨rfl, hl⟩] at h9
          simp (disch := omega) only [b_X0_dearest_0, x_iconst, x_storeI_3, x_storeI_4, x_loadI_4, y_ic_ge_t, y_ic_ge_f, b_X0_dearest_11, x_loadI_2, x_ishr, x_iand, y_if_ne_t, y_if_ne_f, b_X0_dearest_20, x_loadR_0, x_loadS_0, x_loadI_1, x_loadI_3, c_X0_ratherBeIn, y_if_eq_t, y_if_eq_f, b_X0_dearest_31, b_X0_dearest_34, x_iinc_4, x_goto, b_X0_dearest_40, x_ret0, f_0_2, y_aald7, y_iald_26, x_storeI_5, y_if_le_t, y_if_le_f, x_loadI_5, y_ic_gt_t, y_ic_gt_f, y_ic_ne_t, y_ic_ne_f, x_ret1_0, x_ret1_1, q_isL_I, q_isL_R, q_isL_S, true_and, and_true, and_self, List.length_nil, List.length_cons, Nat.zero_add, x_K, x_Kn, Int.reduceToNat, Nat.reduceAdd, Nat.reduceMul, Nat.reduceLeDiff, Nat.reduceLT, Nat.zero_le, Int.reduceAdd, Int.reduceSub, Int.reduceMul, Int.reduceNeg, q_add_e, q_sub_e, q_mul_e, q_neg_e, q_upd_s, q_upd_n, zr_shr0, zr_shr1, zr_shr2, zr_shr3, zr_shr4, zr_and, zr_dyn8, zr_or, zr_shl, q_cpy_n, y_cpy26, Int.toNat_natCast, sp_ratherBeIn, ho]
          exact h9
        · rw [if_neg (fun z => hl z.2)] at h9
          simp (disch := omega) only [b_X0_dearest_0, x_iconst, x_storeI_3, x_storeI_4, x_loadI_4, y_ic_ge_t, y_ic_ge_f, b_X0_dearest_11, x_loadI_2, x_ishr, x_iand, y_if_ne_t, y_if_ne_f, b_X0_dearest_20, x_loadR_0, x_loadS_0, x_loadI_1, x_loadI_3, c_X0_ratherBeIn, y_if_eq_t, y_if_eq_f, b_X0_dearest_31, b_X0_dearest_34, x_iinc_4, x_goto, b_X0_dearest_40, x_ret0, f_0_2, y_aald7, y_iald_26, x_storeI_5, y_if_le_t, y_if_le_f, x_loadI_5, y_ic_gt_t, y_ic_gt_f, y_ic_ne_t, y_ic_ne_f, x_ret1_0, x_ret1_1, q_isL_I, q_isL_R, q_isL_S, true_and, and_true, and_self, List.length_nil, List.length_cons, Nat.zero_add, x_K, x_Kn, Int.reduceToNat, Nat.reduceAdd, Nat.reduceMul, Nat.reduceLeDiff, Nat.reduceLT, Nat.zero_le, Int.reduceAdd, Int.reduceSub, Int.reduceMul, Int.reduceNeg, q_add_e, q_sub_e, q_mul_e, q_neg_e, q_upd_s, q_upd_n, zr_shr0, zr_shr1, zr_shr2, zr_shr3, zr_shr4, zr_and, zr_dyn8, zr_or, zr_shl, q_cpy_n, y_cpy26, Int.toNat_natCast, sp_ratherBeIn, ho]
          exact h9
      · rw [hok, decide_eq_false ho, if_neg (fun z => by cases z.1)] at h9
        simp (disch := omega) only [b_X0_dearest_0, x_iconst, x_storeI_3, x_storeI_4, x_loadI_4, y_ic_ge_t, y_ic_ge_f, b_X0_dearest_11, x_loadI_2, x_ishr, x_iand, y_if_ne_t, y_if_ne_f, b_X0_dearest_20, x_loadR_0, x_loadS_0, x_loadI_1, x_loadI_3, c_X0_ratherBeIn, y_if_eq_t, y_if_eq_f, b_X0_dearest_31, b_X0_dearest_34, x_iinc_4, x_goto, b_X0_dearest_40, x_ret0, f_0_2, y_aald7, y_iald_26, x_storeI_5, y_if_le_t, y_if_le_f, x_loadI_5, y_ic_gt_t, y_ic_gt_f, y_ic_ne_t, y_ic_ne_f, x_ret1_0, x_ret1_1, q_isL_I, q_isL_R, q_isL_S, true_and, and_true, and_self, List.length_nil, List.length_cons, Nat.zero_add, x_K, x_Kn, Int.reduceToNat, Nat.reduceAdd, Nat.reduceMul, Nat.reduceLeDiff, Nat.reduceLT, Nat.zero_le, Int.reduceAdd, Int.reduceSub, Int.reduceMul, Int.reduceNeg, q_add_e, q_sub_e, q_mul_e, q_neg_e, q_upd_s, q_upd_n, zr_shr0, zr_shr1, zr_shr2, zr_shr3, zr_shr4, zr_and, zr_dyn8, zr_or, zr_shl, q_cpy_n, y_cpy26, Int.toNat_natCast]
        exact h9
  simp (disch := omega) only [b_X0_dearest_0, x_iconst, x_storeI_3, x_storeI_4, x_loadI_4, y_ic_ge_t, y_ic_ge_f, b_X0_dearest_11, x_loadI_2, x_ishr, x_iand, y_if_ne_t, y_if_ne_f, b_X0_dearest_20, x_loadR_0, x_loadS_0, x_loadI_1, x_loadI_3, c_X0_ratherBeIn, y_if_eq_t, y_if_eq_f, b_X0_dearest_31, b_X0_dearest_34, x_iinc_4, x_goto, b_X0_dearest_40, x_ret0, f_0_2, y_aald7, y_iald_26, x_storeI_5, y_if_le_t, y_if_le_f, x_loadI_5, y_ic_gt_t, y_ic_gt_f, y_ic_ne_t, y_ic_ne_f, x_ret1_0, x_ret1_1, q_isL_I, q_isL_R, q_isL_S, true_and, and_true, and_self, List.length_nil, List.length_cons, Nat.zero_add, x_K, x_Kn, Int.reduceToNat, Nat.reduceAdd, Nat.reduceMul, Nat.reduceLeDiff, Nat.reduceLT, Nat.zero_le, Int.reduceAdd, Int.reduceSub, Int.reduceMul, Int.reduceNeg, q_add_e, q_sub_e, q_mul_e, q_neg_e, q_upd_s, q_upd_n, zr_shr0, zr_shr1, zr_shr2, zr_shr3, zr_shr4, zr_and, zr_dyn8, zr_or, zr_shl, q_cpy_n, y_cpy26]
  exact loop 5 0 (by omega)
theorem F_last_1 (f w : Nat → Int) (b : Int) : ∀ k : Nat, F_last f w b k < k ∨ F_last f w b k = 5
  | 0 => Or.inr rfl
  | k + 1 => by
    rw [F_last]
    split
    · exact Or.inl (Nat.lt_succ_self k)
    · rcases F_last_1 f w b k with h | h
      · exact Or.inl (Nat.lt_succ_of_lt h)
      · exact Or.inr h
theorem sp_last {d : Nat} {g : q_G} {M : q_M} {c : Nat} {b : Int} (h0 : 0 ≤ M c 5) (h5 : M c 5 ≤ 5) (hb0 : 0 ≤ b) (hb : b < 6) (Q : Option q_V → q_G → q_M → Prop) : q_S 1 (d + 1) 12 [qR 0 c, qI b] g M Q = Q (some (qI (F_last (M (c + 2)) (fun q => M (c + 10 + (1 + q)) b.toNat) b (M c 5).toNat))) g M := by
  refine q_S_eq (fun Q hq => ?_) Q
  rw [s_X0_last]
  have loop : ∀ k p : Nat, p + k = (M c 5).toNat → q_T 1 (d + 1) qP_X0_last 4 [] [qR 0 c, qI b, qI (F_last (M (c + 2)) (fun q => M (c + 10 + (1 + q)) b.toNat) b p : Nat), qI p] [] g M Q := by
    intro k
    induction k with
    | zero =>
      intro p hp
      have e : p = (M c 5).toNat := by omega
      subst e
      rw [b_X0_last_4]
      simp (disch := omega) only [b_X0_last_0, x_iconst, x_storeI_2, x_storeI_3, x_loadI_3, x_loadR_0, x_loadS_0, f_0_5, y_ic_ge_t, y_ic_ge_f, b_X0_last_12, f_0_1, y_iald_26, x_loadI_1, y_ic_ne_t, y_ic_ne_f, b_X0_last_22, x_loadI_2, y_ic_eq_t, y_ic_eq_f, b_X0_last_27, c_X0_ratherHave, y_if_eq_t, y_if_eq_f, b_X0_last_37, b_X0_last_39, x_iinc_3, x_goto, b_X0_last_45, x_ret0, f_0_3, y_aald7, y_ic_gt_t, y_ic_gt_f, x_ret1_0, x_ret1_1, q_isL_I, q_isL_R, q_isL_S, true_and, and_true, and_self, List.length_nil, List.length_cons, Nat.zero_add, x_K, x_Kn, Int.reduceToNat, Nat.reduceAdd, Nat.reduceMul, Nat.reduceLeDiff, Nat.reduceLT, Nat.zero_le, Int.reduceAdd, Int.reduceSub, Int.reduceMul, Int.reduceNeg, q_add_e, q_sub_e, q_mul_e, q_neg_e, q_upd_s, q_upd_n, zr_shr0, zr_shr1, zr_shr2, zr_shr3, zr_shr4, zr_and, zr_dyn8, zr_or, zr_shl, q_cpy_n, y_cpy26]
      exact hq
    | succ k ih =>
      intro p hp
      have h1 := F_last_1 (M (c + 2)) (fun q => M (c + 10 + (1 + q)) b.toNat) b p
      have h9 := ih (p + 1) (by omega)
      rw [F_last] at h9
      rw [b_X0_last_4]
      generalize F_last (M (c + 2)) (fun q => M (c + 10 + (1 + q)) b.toNat) b p = F at h1 h9 ⊢
      by_cases he : M (c + 2) p = b
      · by_cases h6 : F = 5
        · rw [if_pos ⟨he, Or.inl h6⟩] at h9
          simp (disch := omega) only [b_X0_last_0, x_iconst, x_storeI_2, x_storeI_3, x_loadI_3, x_loadR_0, x_loadS_0, f_0_5, y_ic_ge_t, y_ic_ge_f, b_X0_last_12, f_0_1, y_iald_26, x_loadI_1, y_ic_ne_t, y_ic_ne_f, b_X0_last_22, x_loadI_2, y_ic_eq_t, y_ic_eq_f, b_X0_last_27, c_X0_ratherHave, y_if_eq_t, y_if_eq_f, b_X0_last_37, b_X0_last_39, x_iinc_3, x_goto, b_X0_last_45, x_ret0, f_0_3, y_aald7, y_ic_gt_t, y_ic_gt_f, x_ret1_0, x_ret1_1, q_isL_I, q_isL_R, q_isL_S, true_and, and_true, and_self, List.length_nil, List.length_cons, Nat.zero_add, x_K, x_Kn, Int.reduceToNat, Nat.reduceAdd, Nat.reduceMul, Nat.reduceLeDiff, Nat.reduceLT, Nat.zero_le, Int.reduceAdd, Int.reduceSub, Int.reduceMul, Int.reduceNeg, q_add_e, q_sub_e, q_mul_e, q_neg_e, q_upd_s, q_upd_n, zr_shr0, zr_shr1, zr_shr2, zr_shr3, zr_shr4, zr_and, zr_dyn8, zr_or, zr_shl, q_cpy_n, y_cpy26, Int.toNat_natCast]
          exact h9
        · by_cases hw : M (c + 10 + (1 + p)) b.toNat ≤ M (c + 10 + (1 + F)) b.toNat
          · rw [if_pos ⟨he, Or.inr hw⟩] at h9
            simp (disch := omega) only [b_X0_last_0, x_iconst, x_storeI_2, x_storeI_3, x_loadI_3, x_loadR_0, x_loadS_0, f_0_5, y_ic_ge_t, y_ic_ge_f, b_X0_last_12, f_0_1, y_iald_26, x_loadI_1, y_ic_ne_t, y_ic_ne_f, b_X0_last_22, x_loadI_2, y_ic_eq_t, y_ic_eq_f, b_X0_last_27, c_X0_ratherHave, y_if_eq_t, y_if_eq_f, b_X0_last_37, b_X0_last_39, x_iinc_3, x_goto, b_X0_last_45, x_ret0, f_0_3, y_aald7, y_ic_gt_t, y_ic_gt_f, x_ret1_0, x_ret1_1, q_isL_I, q_isL_R, q_isL_S, true_and, and_true, and_self, List.length_nil, List.length_cons, Nat.zero_add, x_K, x_Kn, Int.reduceToNat, Nat.reduceAdd, Nat.reduceMul, Nat.reduceLeDiff, Nat.reduceLT, Nat.zero_le, Int.reduceAdd, Int.reduceSub, Int.reduceMul, Int.reduceNeg, q_add_e, q_sub_e, q_mul_e, q_neg_e, q_upd_s, q_upd_n, zr_shr0, zr_shr1, zr_shr2, zr_shr3, zr_shr4, zr_and, zr_dyn8, zr_or, zr_shl, q_cpy_n, y_cpy26, Int.toNat_natCast, sp_ratherHave]
            exact h9
          · rw [if_neg (fun z => by rcases z.2 with z | z; exact h6 z; exact hw z)] at h9
            simp (disch := omega) only [b_X0_last_0, x_iconst, x_storeI_2, x_storeI_3, x_loadI_3, x_loadR_0, x_loadS_0, f_0_5, y_ic_ge_t, y_ic_ge_f, b_X0_last_12, f_0_1, y_iald_26, x_loadI_1, y_ic_ne_t, y_ic_ne_f, b_X0_last_22, x_loadI_2, y_ic_eq_t, y_ic_eq_f, b_X0_last_27, c_X0_ratherHave, y_if_eq_t, y_if_eq_f, b_X0_last_37, b_X0_last_39, x_iinc_3, x_goto, b_X0_last_45, x_ret0, f_0_3, y_aald7, y_ic_gt_t, y_ic_gt_f, x_ret1_0, x_ret1_1, q_isL_I, q_isL_R, q_isL_S, true_and, and_true, and_self, List.length_nil, List.length_cons, Nat.zero_add, x_K, x_Kn, Int.reduceToNat, Nat.reduceAdd, Nat.reduceMul, Nat.reduceLeDiff, Nat.reduceLT, Nat.zero_le, Int.reduceAdd, Int.reduceSub, Int.reduceMul, Int.reduceNeg, q_add_e, q_sub_e, q_mul_e, q_neg_e, q_upd_s, q_upd_n, zr_shr0, zr_shr1, zr_shr2, zr_shr3, zr_shr4, zr_and, zr_dyn8, zr_or, zr_shl, q_cpy_n, y_cpy26, Int.toNat_natCast, sp_ratherHave]
            exact h9
      · rw [if_neg (fun z => he z.1)] at h9
        simp (disch := omega) only [b_X0_last_0, x_iconst, x_storeI_2, x_storeI_3, x_loadI_3, x_loadR_0, x_loadS_0, f_0_5, y_ic_ge_t, y_ic_ge_f, b_X0_last_12, f_0_1, y_iald_26, x_loadI_1, y_ic_ne_t, y_ic_ne_f, b_X0_last_22, x_loadI_2, y_ic_eq_t, y_ic_eq_f, b_X0_last_27, c_X0_ratherHave, y_if_eq_t, y_if_eq_f, b_X0_last_37, b_X0_last_39, x_iinc_3, x_goto, b_X0_last_45, x_ret0, f_0_3, y_aald7, y_ic_gt_t, y_ic_gt_f, x_ret1_0, x_ret1_1, q_isL_I, q_isL_R, q_isL_S, true_and, and_true, and_self, List.length_nil, List.length_cons, Nat.zero_add, x_K, x_Kn, Int.reduceToNat, Nat.reduceAdd, Nat.reduceMul, Nat.reduceLeDiff, Nat.reduceLT, Nat.zero_le, Int.reduceAdd, Int.reduceSub, Int.reduceMul, Int.reduceNeg, q_add_e, q_sub_e, q_mul_e, q_neg_e, q_upd_s, q_upd_n, zr_shr0, zr_shr1, zr_shr2, zr_shr3, zr_shr4, zr_and, zr_dyn8, zr_or, zr_shl, q_cpy_n, y_cpy26, Int.toNat_natCast]
        exact h9
  simp (disch := omega) only [b_X0_last_0, x_iconst, x_storeI_2, x_storeI_3, x_loadI_3, x_loadR_0, x_loadS_0, f_0_5, y_ic_ge_t, y_ic_ge_f, b_X0_last_12, f_0_1, y_iald_26, x_loadI_1, y_ic_ne_t, y_ic_ne_f, b_X0_last_22, x_loadI_2, y_ic_eq_t, y_ic_eq_f, b_X0_last_27, c_X0_ratherHave, y_if_eq_t, y_if_eq_f, b_X0_last_37, b_X0_last_39, x_iinc_3, x_goto, b_X0_last_45, x_ret0, f_0_3, y_aald7, y_ic_gt_t, y_ic_gt_f, x_ret1_0, x_ret1_1, q_isL_I, q_isL_R, q_isL_S, true_and, and_true, and_self, List.length_nil, List.length_cons, Nat.zero_add, x_K, x_Kn, Int.reduceToNat, Nat.reduceAdd, Nat.reduceMul, Nat.reduceLeDiff, Nat.reduceLT, Nat.zero_le, Int.reduceAdd, Int.reduceSub, Int.reduceMul, Int.reduceNeg, q_add_e, q_sub_e, q_mul_e, q_neg_e, q_upd_s, q_upd_n, zr_shr0, zr_shr1, zr_shr2, zr_shr3, zr_shr4, zr_and, zr_dyn8, zr_or, zr_shl, q_cpy_n, y_cpy26]
  exact loop (M c 5).toNat 0 (by omega)
