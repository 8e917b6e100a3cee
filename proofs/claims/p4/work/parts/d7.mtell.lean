/-! THE MODEL: all told; asking in turn to its end -/
/-- all told in the model -/
def m_td (V : Nat → (Nat → Int) → Int) (M M2 : q_M) : Prop := q_mq M M2 ∧ (∀ p b, p < (M 100 0).toNat → b < 5 → M2 119 (5 * p + b) = F_likes V (mW M) p b ∧ M2 120 (5 * p + b) = F_wants V (mW M) p b) ∧ (∀ p, p < (M 100 0).toNat → M2 121 p = M 104 (3 * p + 2))
set_option maxHeartbeats 4000000 in
theorem mp_tellsAll {V : Nat → (Nat → Int) → Int} {d : Nat} {g : q_G} {M : q_M} {Q : Option q_V → q_G → q_M → Prop} (hm : q_ml V M) (hq : ∀ M2 : q_M, m_td V M M2 → Q none g M2) : q_S 1 (d + 4) 159 [qR 6 100] g M Q := by
  have n0 := hm.1.1
  rw [s_X6_tellsAll]
  have loop : ∀ j p : Nat, p + j = (M 100 0).toNat → ∀ (M1 : q_M) (l2 : q_V), q_isL l2 = false → q_mq M M1 → (∀ p' b', p' < p → b' < 5 → M1 119 (5 * p' + b') = F_likes V (mW M) p' b' ∧ M1 120 (5 * p' + b') = F_wants V (mW M) p' b') → (∀ p', p' < p → M1 121 p' = M 104 (3 * p' + 2)) → q_T 1 (d + 4) qP_X6_tellsAll 2 [] [qR 6 100, qI p, l2] [] g M1 Q := by
    intro j
    induction j with
    | zero =>
      intro p hp M1 l2 hl2 h1 h2 h3
      have e0 : M1 100 0 = M 100 0 := h1 100 0 (by omega) (by omega)
      rw [b_X6_tellsAll_2]
      simp (disch := omega) only [b_X6_tellsAll_0, x_iconst, x_storeI_1, x_loadI_1, x_loadR_0, x_loadS_0, f_6_0, y_ic_ge_t, y_ic_ge_f, b_X6_tellsAll_10, x_storeI_2, x_loadI_2, b_X6_tellsAll_17, f_6_31, x_imul, x_iadd, y_iast_25, y_iast_35, y_iast_45, f_6_32, x_iinc_2, x_goto, b_X6_tellsAll_55, f_6_33, f_6_4, y_iald_25, y_iald_35, y_iald_45, x_iinc_1, b_X6_tellsAll_77, x_vret, q_isL_I, q_isL_R, q_isL_S, true_and, and_true, and_self, List.length_nil, List.length_cons, Nat.zero_add, x_K, x_Kn, Int.reduceToNat, Nat.reduceAdd, Nat.reduceMul, Nat.reduceLeDiff, Nat.reduceLT, Nat.zero_le, Int.reduceAdd, Int.reduceSub, Int.reduceMul, Int.reduceNeg, q_add_e, q_sub_e, q_mul_e, q_neg_e, q_upd_s, q_upd_n, zr_shr0, zr_shr1, zr_shr2, zr_shr3, zr_shr4, zr_and, zr_dyn8, zr_or, zr_shl, q_cpy_n, y_cpy26, e0]
      exact hq M1 ⟨h1, fun p' b' q1 q2 => h2 p' b' (by omega) q2, fun p' q1 => h3 p' (by omega)⟩
    | succ j ih =>
      intro p hp M1 l2 hl2 h1 h2 h3
      have e0 : M1 100 0 = M 100 0 := h1 100 0 (by omega) (by omega)
      have inner : ∀ k b : Nat, b + k = 5 → ∀ M1 : q_M, q_mq M M1 → (∀ p' b', p' < p → b' < 5 → M1 119 (5 * p' + b') = F_likes V (mW M) p' b' ∧ M1 120 (5 * p' + b') = F_wants V (mW M) p' b') → (∀ b', b' < b → M1 119 (5 * p + b') = F_likes V (mW M) p b' ∧ M1 120 (5 * p + b') = F_wants V (mW M) p b') → (∀ p', p' < p → M1 121 p' = M 104 (3 * p' + 2)) → q_T 1 (d + 4) qP_X6_tellsAll 12 [] [qR 6 100, qI p, qI b] [] g M1 Q := by
        intro k
        induction k with
        | zero =>
          intro b hb M1 h1 h2 h2b h3
          have e : b = 5 := by omega
          subst e
          have er : M1 104 (3 * p + 2) = M 104 (3 * p + 2) := h1 104 _ (by omega) (by omega)
          rw [b_X6_tellsAll_12]
          simp (disch := omega) only [b_X6_tellsAll_0, x_iconst, x_storeI_1, x_loadI_1, x_loadR_0, x_loadS_0, f_6_0, y_ic_ge_t, y_ic_ge_f, b_X6_tellsAll_10, x_storeI_2, x_loadI_2, b_X6_tellsAll_17, f_6_31, x_imul, x_iadd, y_iast_25, y_iast_35, y_iast_45, f_6_32, x_iinc_2, x_goto, b_X6_tellsAll_55, f_6_33, f_6_4, y_iald_25, y_iald_35, y_iald_45, x_iinc_1, b_X6_tellsAll_77, x_vret, q_isL_I, q_isL_R, q_isL_S, true_and, and_true, and_self, List.length_nil, List.length_cons, Nat.zero_add, x_K, x_Kn, Int.reduceToNat, Nat.reduceAdd, Nat.reduceMul, Nat.reduceLeDiff, Nat.reduceLT, Nat.zero_le, Int.reduceAdd, Int.reduceSub, Int.reduceMul, Int.reduceNeg, q_add_e, q_sub_e, q_mul_e, q_neg_e, q_upd_s, q_upd_n, zr_shr0, zr_shr1, zr_shr2, zr_shr3, zr_shr4, zr_and, zr_dyn8, zr_or, zr_shl, q_cpy_n, y_cpy26, Int.toNat_natCast, tn_32, er]
          refine ih (p + 1) (by omega) _ _ rfl (fun a i q1 q2 => (q_upd_n (by omega)).trans (h1 a i q1 q2)) (fun p' b' q1 q2 => ?_) (fun p' q1 => ?_)
          · rw [q_upd_n (by omega), q_upd_n (by omega)]
            by_cases e : p' = p
            · rw [e]
              exact h2b b' q2
            · exact h2 p' b' (by omega) q2
          · by_cases e : p' = p
            · rw [e, q_upd_s]
            · rw [q_upd_n (by omega)]
              exact h3 p' (by omega)
        | succ k ih2 =>
          intro b hb M1 h1 h2 h2b h3
          have e0 : M1 100 0 = M 100 0 := h1 100 0 (by omega) (by omega)
          have likes : ∀ (nx : Nat) (ops : List Instr) (ls st : List q_V), (∀ M2 : q_M, q_mf M1 M2 → q_T 1 (d + 4) qP_X6_tellsAll nx ops ls (qI (F_likes V (mW M) p b) :: st) g M2 Q) → q_S 1 (d + 3) 141 [qR 6 100, qI p, qI b] g M1 (q_K 1 (d + 4) qP_X6_tellsAll nx ops ls st Q) := fun nx ops ls st h => mp_likes (q_mq_ml h1 hm) (by rw [e0]; omega) (by omega) (by rw [q_mq_mW h1]; exact h)
          rw [b_X6_tellsAll_12]
          simp (disch := omega) only [b_X6_tellsAll_0, x_iconst, x_storeI_1, x_loadI_1, x_loadR_0, x_loadS_0, f_6_0, y_ic_ge_t, y_ic_ge_f, b_X6_tellsAll_10, x_storeI_2, x_loadI_2, b_X6_tellsAll_17, f_6_31, x_imul, x_iadd, y_iast_25, y_iast_35, y_iast_45, f_6_32, x_iinc_2, x_goto, b_X6_tellsAll_55, f_6_33, f_6_4, y_iald_25, y_iald_35, y_iald_45, x_iinc_1, b_X6_tellsAll_77, x_vret, q_isL_I, q_isL_R, q_isL_S, true_and, and_true, and_self, List.length_nil, List.length_cons, Nat.zero_add, x_K, x_Kn, Int.reduceToNat, Nat.reduceAdd, Nat.reduceMul, Nat.reduceLeDiff, Nat.reduceLT, Nat.zero_le, Int.reduceAdd, Int.reduceSub, Int.reduceMul, Int.reduceNeg, q_add_e, q_sub_e, q_mul_e, q_neg_e, q_upd_s, q_upd_n, zr_shr0, zr_shr1, zr_shr2, zr_shr3, zr_shr4, zr_and, zr_dyn8, zr_or, zr_shl, q_cpy_n, y_cpy26, tn_5, c_X6_likesOf]
          refine likes _ _ _ _ (fun M2 f2 => ?_)
          have g2 : q_mq M (q_upd M2 119 (5 * p + b) (F_likes V (mW M) p b)) := fun a i q1 q2 => (q_upd_n (by omega)).trans ((q_mq_mf f2 a i q1 q2).trans (h1 a i q1 q2))
          have e2 : q_upd M2 119 (5 * p + b) (F_likes V (mW M) p b) 100 0 = M 100 0 := g2 100 0 (by omega) (by omega)
          have wants : ∀ (nx : Nat) (ops : List Instr) (ls st : List q_V), (∀ M3 : q_M, q_mf (q_upd M2 119 (5 * p + b) (F_likes V (mW M) p b)) M3 → q_T 1 (d + 4) qP_X6_tellsAll nx ops ls (qI (F_wants V (mW M) p b) :: st) g M3 Q) → q_S 1 (d + 3) 142 [qR 6 100, qI p, qI b] g (q_upd M2 119 (5 * p + b) (F_likes V (mW M) p b)) (q_K 1 (d + 4) qP_X6_tellsAll nx ops ls st Q) := fun nx ops ls st h => mp_wants (q_mq_ml g2 hm) (by rw [e2]; omega) (by omega) (by rw [q_mq_mW g2]; exact h)
          simp (disch := omega) only [b_X6_tellsAll_0, x_iconst, x_storeI_1, x_loadI_1, x_loadR_0, x_loadS_0, f_6_0, y_ic_ge_t, y_ic_ge_f, b_X6_tellsAll_10, x_storeI_2, x_loadI_2, b_X6_tellsAll_17, f_6_31, x_imul, x_iadd, y_iast_25, y_iast_35, y_iast_45, f_6_32, x_iinc_2, x_goto, b_X6_tellsAll_55, f_6_33, f_6_4, y_iald_25, y_iald_35, y_iald_45, x_iinc_1, b_X6_tellsAll_77, x_vret, q_isL_I, q_isL_R, q_isL_S, true_and, and_true, and_self, List.length_nil, List.length_cons, Nat.zero_add, x_K, x_Kn, Int.reduceToNat, Nat.reduceAdd, Nat.reduceMul, Nat.reduceLeDiff, Nat.reduceLT, Nat.zero_le, Int.reduceAdd, Int.reduceSub, Int.reduceMul, Int.reduceNeg, q_add_e, q_sub_e, q_mul_e, q_neg_e, q_upd_s, q_upd_n, zr_shr0, zr_shr1, zr_shr2, zr_shr3, zr_shr4, zr_and, zr_dyn8, zr_or, zr_shl, q_cpy_n, y_cpy26, tn_5, c_X6_wantedOf]
          refine wants _ _ _ _ (fun M3 f3 => ?_)
          simp (disch := omega) only [b_X6_tellsAll_0, x_iconst, x_storeI_1, x_loadI_1, x_loadR_0, x_loadS_0, f_6_0, y_ic_ge_t, y_ic_ge_f, b_X6_tellsAll_10, x_storeI_2, x_loadI_2, b_X6_tellsAll_17, f_6_31, x_imul, x_iadd, y_iast_25, y_iast_35, y_iast_45, f_6_32, x_iinc_2, x_goto, b_X6_tellsAll_55, f_6_33, f_6_4, y_iald_25, y_iald_35, y_iald_45, x_iinc_1, b_X6_tellsAll_77, x_vret, q_isL_I, q_isL_R, q_isL_S, true_and, and_true, and_self, List.length_nil, List.length_cons, Nat.zero_add, x_K, x_Kn, Int.reduceToNat, Nat.reduceAdd, Nat.reduceMul, Nat.reduceLeDiff, Nat.reduceLT, Nat.zero_le, Int.reduceAdd, Int.reduceSub, Int.reduceMul, Int.reduceNeg, q_add_e, q_sub_e, q_mul_e, q_neg_e, q_upd_s, q_upd_n, zr_shr0, zr_shr1, zr_shr2, zr_shr3, zr_shr4, zr_and, zr_dyn8, zr_or, zr_shl, q_cpy_n, y_cpy26, tn_5]
          have hold : ∀ a i, a = 119 ∨ a = 120 ∨ a = 121 → (a = 119 → i ≠ 5 * p + b) → (a = 120 → i ≠ 5 * p + b) → q_upd M3 120 (5 * p + b) (F_wants V (mW M) p b) a i = M1 a i := by
            intro a i q0 q1 q2
            rw [q_upd_n (by omega), f3 a i (by omega) (by omega), q_upd_n (by omega), f2 a i (by omega) (by omega)]
          refine ih2 (b + 1) (by omega) _ (fun a i q1 q2 => (q_upd_n (by omega)).trans ((q_mq_mf f3 a i q1 q2).trans (g2 a i q1 q2))) (fun p' b' q1 q2 => ?_) (fun b' q1 => ?_) (fun p' q1 => ?_)
          · rw [hold 119 _ (by omega) (by omega) (by omega), hold 120 _ (by omega) (by omega) (by omega)]
            exact h2 p' b' q1 q2
          · by_cases e : b' = b
            · rw [e, q_upd_s, q_upd_n (by omega), f3 119 _ (by omega) (by omega), q_upd_s]
              exact ⟨rfl, rfl⟩
            · rw [hold 119 _ (by omega) (by omega) (by omega), hold 120 _ (by omega) (by omega) (by omega)]
              exact h2b b' (by omega)
          · rw [hold 121 _ (by omega) (by omega) (by omega)]
            exact h3 p' q1
      rw [b_X6_tellsAll_2]
      simp (disch := omega) only [b_X6_tellsAll_0, x_iconst, x_storeI_1, x_loadI_1, x_loadR_0, x_loadS_0, f_6_0, y_ic_ge_t, y_ic_ge_f, b_X6_tellsAll_10, x_storeI_2, x_loadI_2, b_X6_tellsAll_17, f_6_31, x_imul, x_iadd, y_iast_25, y_iast_35, y_iast_45, f_6_32, x_iinc_2, x_goto, b_X6_tellsAll_55, f_6_33, f_6_4, y_iald_25, y_iald_35, y_iald_45, x_iinc_1, b_X6_tellsAll_77, x_vret, q_isL_I, q_isL_R, q_isL_S, true_and, and_true, and_self, List.length_nil, List.length_cons, Nat.zero_add, x_K, x_Kn, Int.reduceToNat, Nat.reduceAdd, Nat.reduceMul, Nat.reduceLeDiff, Nat.reduceLT, Nat.zero_le, Int.reduceAdd, Int.reduceSub, Int.reduceMul, Int.reduceNeg, q_add_e, q_sub_e, q_mul_e, q_neg_e, q_upd_s, q_upd_n, zr_shr0, zr_shr1, zr_shr2, zr_shr3, zr_shr4, zr_and, zr_dyn8, zr_or, zr_shl, q_cpy_n, y_cpy26, e0, hl2]
      exact inner 5 0 rfl M1 h1 h2 (fun b' h => absurd h (Nat.not_lt_zero b')) h3
  simp (disch := omega) only [b_X6_tellsAll_0, x_iconst, x_storeI_1, x_loadI_1, x_loadR_0, x_loadS_0, f_6_0, y_ic_ge_t, y_ic_ge_f, b_X6_tellsAll_10, x_storeI_2, x_loadI_2, b_X6_tellsAll_17, f_6_31, x_imul, x_iadd, y_iast_25, y_iast_35, y_iast_45, f_6_32, x_iinc_2, x_goto, b_X6_tellsAll_55, f_6_33, f_6_4, y_iald_25, y_iald_35, y_iald_45, x_iinc_1, b_X6_tellsAll_77, x_vret, q_isL_I, q_isL_R, q_isL_S, true_and, and_true, and_self, List.length_nil, List.length_cons, Nat.zero_add, x_K, x_Kn, Int.reduceToNat, Nat.reduceAdd, Nat.reduceMul, Nat.reduceLeDiff, Nat.reduceLT, Nat.zero_le, Int.reduceAdd, Int.reduceSub, Int.reduceMul, Int.reduceNeg, q_add_e, q_sub_e, q_mul_e, q_neg_e, q_upd_s, q_upd_n, zr_shr0, zr_shr1, zr_shr2, zr_shr3, zr_shr4, zr_and, zr_dyn8, zr_or, zr_shl, q_cpy_n, y_cpy26]
  exact loop (M 100 0).toNat 0 (by omega) M _ rfl q_mq_rf (fun p' b' h => absurd h (Nat.not_lt_zero p')) (fun p' h => absurd h (Nat.not_lt_zero p'))
def m_st (M : q_M) : (Nat → Int) × (Nat → Int) := (fun i => m_raw (M 121 i), M 122)
theorem q_yM_self {M : q_M} : q_yM M (m_st M) = M := by
  funext a i
  unfold q_yM m_st
  by_cases c : a = 121
  · rw [if_pos c]
    by_cases c2 : i < 5
    · rw [if_pos c2, c]
      exact m_raw_raw
    · rw [if_neg c2, c]
  · rw [if_neg c]
    by_cases c3 : a = 122
    · rw [if_pos c3, c3]
      split <;> rfl
    · rw [if_neg c3]
theorem q_yM_ext {M : q_M} {x y : (Nat → Int) × (Nat → Int)} (h : ∀ i, i < 5 → x.1 i = y.1 i ∧ x.2 i = y.2 i) : q_yM M x = q_yM M y := by
  funext a i
  unfold q_yM
  by_cases c : i < 5
  · rw [(h i c).1, (h i c).2]
  · simp only [c, if_false]
theorem m_td_x5 {V : Nat → (Nat → Int) → Int} {M M2 : q_M} (hm : q_ml V M) (h : m_td V M M2) : q_x5 (M2 100 0).toNat (m_st M2) := by
  intro i hi
  have e0 : M2 100 0 = M 100 0 := h.1 100 0 (by omega) (by omega)
  have n0 := hm.1.1
  have hin := hm.1.2.2.2.2.2.2.1 i (by omega)
  show 0 ≤ m_raw (M2 121 i) ∧ m_raw (M2 121 i) ≤ 5
  rw [h.2.2 i (by rw [← e0]; exact hi)]
  unfold m_raw
  (repeat' split) <;> omega
theorem m_td_L {V : Nat → (Nat → Int) → Int} {M M2 : q_M} (h : m_td V M M2) : ∀ p b, p < (M2 100 0).toNat → b < 6 → -1000 ≤ mL M2 p b ∧ mL M2 p b ≤ 1000 := by
  intro p b hp hb
  have e0 : M2 100 0 = M 100 0 := h.1 100 0 (by omega) (by omega)
  rw [e0] at hp
  by_cases c : b < 5
  · rw [mL_e c, (h.2.1 p b hp c).1]
    have := F_likes_le (V := V) (S := mW M) (p := p) (b := b)
    omega
  · rw [show mL M2 p b = 0 from if_neg c]
    omega
theorem m_td_W {V : Nat → (Nat → Int) → Int} {M M2 : q_M} (hm : q_ml V M) (h : m_td V M M2) : ∀ p b, p < (M2 100 0).toNat → b < 6 → -1000 ≤ mWn M2 p b ∧ mWn M2 p b ≤ 1000 := by
  intro p b hp hb
  have e0 : M2 100 0 = M 100 0 := h.1 100 0 (by omega) (by omega)
  have n0 := hm.1.1
  rw [e0] at hp
  by_cases c : b < 5
  · rw [mWn_e c, (h.2.1 p b hp c).2]
    have := F_wants_le (V := V) (S := mW M) (p := p) (b := b) (by rw [mW_1 hp]; exact hm.1.2.2.2.1 p (by omega))
    omega
  · rw [show mWn M2 p b = 0 from if_neg c]
    omega
def B_pcA (M : q_M) (x : (Nat → Int) × (Nat → Int)) (wt : Int) : Int := if wt = 0 then F_cmp (mL M) (G_T (mWn M) (mR M) x.1 (M 100 0).toNat) x.1 (M 100 0).toNat 0 else if wt = 1 then F_sum (mL M) x.1 (M 100 0).toNat else F_sum (mWn M) x.1 (M 100 0).toNat
theorem mp_peaceF {d : Nat} {g : q_G} {M : q_M} {wt : Int} {Q : Option q_V → q_G → q_M → Prop} (h : ¬(0 ≤ wt ∧ wt ≤ 2)) (hq : Q (some (qI (-100000))) g M) : q_S 1 (d + 1) 167 [qR 6 100, qI wt] g M Q := by
  rw [s_X6_peace]
  simp (disch := omega) only [b_X6_peace_0, x_loadI_1, x_iconst, y_if_ne_t, y_if_ne_f, b_X6_peace_9, x_ret0, b_X6_peace_12, x_loadR_0, x_loadS_0, b_X6_peace_20, x_goto, b_X6_peace_27, b_X6_peace_32, q_isL_I, q_isL_R, q_isL_S, true_and, and_true, and_self, List.length_nil, List.length_cons, Nat.zero_add, x_K, x_Kn, Int.reduceToNat, Nat.reduceAdd, Nat.reduceMul, Nat.reduceLeDiff, Nat.reduceLT, Nat.zero_le, Int.reduceAdd, Int.reduceSub, Int.reduceMul, Int.reduceNeg, q_add_e, q_sub_e, q_mul_e, q_neg_e, q_upd_s, q_upd_n, zr_shr0, zr_shr1, zr_shr2, zr_shr3, zr_shr4, zr_and, zr_dyn8, zr_or, zr_shl, q_cpy_n, y_cpy26, c_X6_in, mp_in, h, if_false]
  exact hq
set_option maxHeartbeats 4000000 in
theorem mp_peace {V : Nat → (Nat → Int) → Int} {d : Nat} {g : q_G} {M : q_M} {wt : Int} {Q : Option q_V → q_G → q_M → Prop} (hm : q_ml V M) (h : 0 ≤ wt ∧ wt ≤ 2) (hq : ∀ M2 : q_M, m_td V M M2 → Q (some (qI (B_pcA M2 (m_st M2) wt))) g M2) : q_S 1 (d + 5) 167 [qR 6 100, qI wt] g M Q := by
  have n0 := hm.1.1
  have tell : ∀ (nx : Nat) (ops : List Instr) (ls st : List q_V), (∀ M2 : q_M, m_td V M M2 → q_T 1 (d + 5) qP_X6_peace nx ops ls st g M2 Q) → q_S 1 (d + 4) 159 [qR 6 100] g M (q_K 1 (d + 5) qP_X6_peace nx ops ls st Q) := fun nx ops ls st h => mp_tellsAll hm h
  rw [s_X6_peace]
  simp (disch := omega) only [b_X6_peace_0, x_loadI_1, x_iconst, y_if_ne_t, y_if_ne_f, b_X6_peace_9, x_ret0, b_X6_peace_12, x_loadR_0, x_loadS_0, b_X6_peace_20, x_goto, b_X6_peace_27, b_X6_peace_32, q_isL_I, q_isL_R, q_isL_S, true_and, and_true, and_self, List.length_nil, List.length_cons, Nat.zero_add, x_K, x_Kn, Int.reduceToNat, Nat.reduceAdd, Nat.reduceMul, Nat.reduceLeDiff, Nat.reduceLT, Nat.zero_le, Int.reduceAdd, Int.reduceSub, Int.reduceMul, Int.reduceNeg, q_add_e, q_sub_e, q_mul_e, q_neg_e, q_upd_s, q_upd_n, zr_shr0, zr_shr1, zr_shr2, zr_shr3, zr_shr4, zr_and, zr_dyn8, zr_or, zr_shl, q_cpy_n, y_cpy26, c_X6_in, mp_in, h, and_self, if_true, c_X6_tellsAll]
  refine tell _ _ _ _ (fun M2 h2 => ?_)
  have e0 : M2 100 0 = M 100 0 := h2.1 100 0 (by omega) (by omega)
  have hx := m_td_x5 hm h2
  have bL := m_td_L h2
  have bW := m_td_W hm h2
  have a := hq M2 h2
  have ag : ∀ (nx : Nat) (ops : List Instr) (ls st : List q_V), q_T 1 (d + 5) qP_X6_peace nx ops ls (qI (F_cmp (mL M2) (G_T (mWn M2) (mR M2) (m_st M2).1 (M2 100 0).toNat) (m_st M2).1 (M2 100 0).toNat 0) :: st) g M2 Q → q_S 1 (d + 4) 164 [qR 6 100] g M2 (q_K 1 (d + 5) qP_X6_peace nx ops ls st Q) := fun nx ops ls st h => by
    have k := mp_against (d := d + 2) (g := g) (by omega) (by omega) hx (q_K 1 (d + 5) qP_X6_peace nx ops ls st Q)
    rw [q_yM_self] at k
    rw [k]
    exact h
  have sm : ∀ (nx : Nat) (ops : List Instr) (ls st : List q_V), q_T 1 (d + 5) qP_X6_peace nx ops ls (qI (if wt = 1 then F_sum (mL M2) (m_st M2).1 (M2 100 0).toNat else F_sum (mWn M2) (m_st M2).1 (M2 100 0).toNat) :: st) g M2 Q → q_S 1 (d + 4) 165 [qR 6 100, qI wt] g M2 (q_K 1 (d + 5) qP_X6_peace nx ops ls st Q) := fun nx ops ls st h => by
    have k := mp_sumOf (d := d + 4) (g := g) (wt := wt) (by omega) (by omega) hx bL bW (q_K 1 (d + 5) qP_X6_peace nx ops ls st Q)
    rw [q_yM_self] at k
    rw [k]
    exact h
  unfold B_pcA at a
  by_cases c : wt = 0
  · rw [if_pos c] at a
    simp (disch := omega) only [b_X6_peace_0, x_loadI_1, x_iconst, y_if_ne_t, y_if_ne_f, b_X6_peace_9, x_ret0, b_X6_peace_12, x_loadR_0, x_loadS_0, b_X6_peace_20, x_goto, b_X6_peace_27, b_X6_peace_32, q_isL_I, q_isL_R, q_isL_S, true_and, and_true, and_self, List.length_nil, List.length_cons, Nat.zero_add, x_K, x_Kn, Int.reduceToNat, Nat.reduceAdd, Nat.reduceMul, Nat.reduceLeDiff, Nat.reduceLT, Nat.zero_le, Int.reduceAdd, Int.reduceSub, Int.reduceMul, Int.reduceNeg, q_add_e, q_sub_e, q_mul_e, q_neg_e, q_upd_s, q_upd_n, zr_shr0, zr_shr1, zr_shr2, zr_shr3, zr_shr4, zr_and, zr_dyn8, zr_or, zr_shl, q_cpy_n, y_cpy26, c_X6_against]
    refine ag _ _ _ _ ?_
    simp (disch := omega) only [b_X6_peace_0, x_loadI_1, x_iconst, y_if_ne_t, y_if_ne_f, b_X6_peace_9, x_ret0, b_X6_peace_12, x_loadR_0, x_loadS_0, b_X6_peace_20, x_goto, b_X6_peace_27, b_X6_peace_32, q_isL_I, q_isL_R, q_isL_S, true_and, and_true, and_self, List.length_nil, List.length_cons, Nat.zero_add, x_K, x_Kn, Int.reduceToNat, Nat.reduceAdd, Nat.reduceMul, Nat.reduceLeDiff, Nat.reduceLT, Nat.zero_le, Int.reduceAdd, Int.reduceSub, Int.reduceMul, Int.reduceNeg, q_add_e, q_sub_e, q_mul_e, q_neg_e, q_upd_s, q_upd_n, zr_shr0, zr_shr1, zr_shr2, zr_shr3, zr_shr4, zr_and, zr_dyn8, zr_or, zr_shl, q_cpy_n, y_cpy26]
    exact a
  · rw [if_neg c] at a
    simp (disch := omega) only [b_X6_peace_0, x_loadI_1, x_iconst, y_if_ne_t, y_if_ne_f, b_X6_peace_9, x_ret0, b_X6_peace_12, x_loadR_0, x_loadS_0, b_X6_peace_20, x_goto, b_X6_peace_27, b_X6_peace_32, q_isL_I, q_isL_R, q_isL_S, true_and, and_true, and_self, List.length_nil, List.length_cons, Nat.zero_add, x_K, x_Kn, Int.reduceToNat, Nat.reduceAdd, Nat.reduceMul, Nat.reduceLeDiff, Nat.reduceLT, Nat.zero_le, Int.reduceAdd, Int.reduceSub, Int.reduceMul, Int.reduceNeg, q_add_e, q_sub_e, q_mul_e, q_neg_e, q_upd_s, q_upd_n, zr_shr0, zr_shr1, zr_shr2, zr_shr3, zr_shr4, zr_and, zr_dyn8, zr_or, zr_shl, q_cpy_n, y_cpy26, c_X6_sumOf]
    refine sm _ _ _ _ ?_
    simp (disch := omega) only [b_X6_peace_0, x_loadI_1, x_iconst, y_if_ne_t, y_if_ne_f, b_X6_peace_9, x_ret0, b_X6_peace_12, x_loadR_0, x_loadS_0, b_X6_peace_20, x_goto, b_X6_peace_27, b_X6_peace_32, q_isL_I, q_isL_R, q_isL_S, true_and, and_true, and_self, List.length_nil, List.length_cons, Nat.zero_add, x_K, x_Kn, Int.reduceToNat, Nat.reduceAdd, Nat.reduceMul, Nat.reduceLeDiff, Nat.reduceLT, Nat.zero_le, Int.reduceAdd, Int.reduceSub, Int.reduceMul, Int.reduceNeg, q_add_e, q_sub_e, q_mul_e, q_neg_e, q_upd_s, q_upd_n, zr_shr0, zr_shr1, zr_shr2, zr_shr3, zr_shr4, zr_and, zr_dyn8, zr_or, zr_shl, q_cpy_n, y_cpy26]
    exact a
