section
/-! THE MODEL: all told; asking in turn to its end -/
/-- all told in the model -/
def m_td (V : Nat → (Nat → Int) → Int) (M M2 : q_M) : Prop := q_mq M M2 ∧ (∀ p b, p < (M 100 0).toNat → b < 5 → M2 119 (5 * p + b) = F_likes V (mW M) p b ∧ M2 120 (5 * p + b) = F_wants V (mW M) p b) ∧ (∀ p, p < (M 100 0).toNat → M2 121 p = M 104 (3 * p + 2))
set_option maxHeartbeats 4000000 in
theorem mp_tellsAll {V : Nat → (Nat → Int) → Int} {d : Nat} {g : q_G} {M : q_M} {Q : Option q_V → q_G → q_M → Prop} (hm : q_ml V M) (hq : ∀ M2 : q_M, m_td V M M2 → Q none g M2) : q_S 1 (d + 4) 159 [qR 6 100] g M Q := by
  have n0 := hm.1.1
  rw [s_X6_tellsAll]
  have loop : ∀ j p : Nat, p + j = (M 100 0).toNat → ∀ (M1 : q_M) (l2 : q_V), q_isL l2 = false → q_mq M M1 → (∀ p' b', p' < p → b' < 5 → M1 119 (5 * p' + b') = F_likes V (mW M) p' b' ∧ M1 120 (5 * p' + b') = F_wants V (mW M) p' b') → (∀ p', p' < p → M1 121 p' = M 104 (3 * p' + 2)) → q_T 1 (d + 4) qP_X6_tellsAll 2 [] [qR 6 100, qI p, l2] [] g M1 Q := by
    intro j
    induction j with
    | zero =>
      intro p hp M1 l2 hl2 h1 h2 h3
      have e0 : M1 100 0 = M 100 0 := h1 100 0 (by omega) (by omega)
      rw [b_X6_tellsAll_2]
      simp (disch := omega) only [b_X6_tellsAll_0, x_iconst, x_storeI_1, x_loadI_1, x_loadR_0, x_loadS_0, f_6_0, y_ic_ge_t, y_ic_ge_f, b_X6_tellsAll_10, x_storeI_2, x_loadI_2, b_X6_tellsAll_17, f_6_31, x_imul, x_iadd, y_iast_25, y_iast_35, y_iast_45, f_6_32, x_iinc_2, x_goto, b_X6_tellsAll_55, f_6_33, f_6_4, y_iald_25, y_iald_35, y_iald_45, x_iinc_1, b_X6_tellsAll_77, x_vret, q_isL_I, q_isL_R, q_isL_S, true_and, and_true, and_self, List.length_nil, List.length_cons, Nat.zero_add, x_K, x_Kn, Int.reduceToNat, Nat.reduceAdd, Nat.reduceMul, Nat.reduceLeDiff, Nat.reduceLT, Nat.zero_le, Int.reduceAdd, Int.reduceSub, Int.reduceMul, Int.reduceNeg, q_add_e, q_sub_e, q_mul_e, q_neg_e, q_upd_s, q_upd_n, zr_shr0, zr_shr1, zr_shr2, zr_shr3, zr_shr4, zr_and, zr_dyn8, zr_or, zr_shl, q_cpy_n, y_cpy26, e0]
      exact hq M1 ⟨h1, fun p' b' q1 q2 => h2 p' b' (by omega) q2, fun p' q1 => h3 p' (by omega)⟩
    | succ j ih =>
      intro p hp M1 l2 hl2 h1 h2 h3
      have e0 : M1 100 0 = M 100 0 := h1 100 0 (by omega) (by omega)
      have inner : ∀ k b : Nat, b + k = 5 → ∀ M1 : q_M, q_mq M M1 → (∀ p' b', p' < p → b' < 5 → M1 119 (5 * p' + b') = F_likes V (mW M) p' b' ∧ M1 120 (5 * p' + b') = F_wants V (mW M) p' b') → (∀ b', b' < b → M1 119 (5 * p + b') = F_likes V (mW M) p b' ∧ M1 120 (5 * p + b') = F_wants V (mW M) p b') → (∀ p', p' < p → M1 121 p' = M 104 (3 * p' + 2)) → q_T 1 (d + 4) qP_X6_tellsAll 12 [] [qR 6 100, qI p, qI b] [] g M1 Q := by
        intro k
        induction k with
        | zero =>
          intro b hb M1 h1 h2 h2b h3
          have e : b = 5 := by omega
          subst e
          have er : M1 104 (3 * p + 2) = M 104 (3 * p + 2) := h1 104 _ (by omega) (by omega)
          rw [b_X6_tellsAll_12]
          simp (disch := omega) only [b_X6_tellsAll_0, x_iconst, x_storeI_1, x_loadI_1, x_loadR_0, x_loadS_0, f_6_0, y_ic_ge_t, y_ic_ge_f, b_X6_tellsAll_10, x_storeI_2, x_loadI_2, b_X6_tellsAll_17, f_6_31, x_imul, x_iadd, y_iast_25, y_iast_35, y_iast_45, f_6_32, x_iinc_2, x_goto, b_X6_tellsAll_55, f_6_33, f_6_4, y_iald_25, y_iald_35, y_iald_45, x_iinc_1, b_X6_tellsAll_77, x_vret, q_isL_I, q_isL_R, q_isL_S, true_and, and_true, and_self, List.length_nil, List.length_cons, Nat.zero_add, x_K, x_Kn, Int.reduceToNat, Nat.reduceAdd, Nat.reduceMul, Nat.reduceLeDiff, Nat.reduceLT, Nat.zero_le, Int.reduceAdd, Int.reduceSub, Int.reduceMul, Int.reduceNeg, q_add_e, q_sub_e, q_mul_e, q_neg_e, q_upd_s, q_upd_n, zr_shr0, zr_shr1, zr_shr2, zr_shr3, zr_shr4, zr_and, zr_dyn8, zr_or, zr_shl, q_cpy_n, y_cpy26, Int.toNat_natCast, tn_32, er]
          refine ih (p + 1) (by omega) _ _ rfl (fun a i q1 q2 => (q_upd_n (by omega)).trans (h1 a i q1 q2)) (fun p' b' q1 q2 => ?_) (fun p' q1 => ?_)
          · rw [q_upd_n (by omega), q_upd_n (by omega)]
            by_cases e : p' = p
            · rw [e]
              exact h2b b' q2
            · exact h2 p' b' (by omega) q2
          · by_cases e : p' = p
            · rw [e, q_upd_s]
            · rw [q_upd_n (by omega)]
              exact h3 p' (by omega)
        | succ k ih2 =>
          intro b hb M1 h1 h2 h2b h3
          have e0 : M1 100 0 = M 100 0 := h1 100 0 (by omega) (by omega)
          have likes : ∀ (nx : Nat) (ops : List Instr) (ls st : List q_V), (∀ M2 : q_M, q_mf M1 M2 → q_T 1 (d + 4) qP_X6_tellsAll nx ops ls (qI (F_likes V (mW M) p b) :: st) g M2 Q) → q_S 1 (d + 3) 141 [qR 6 100, qI p, qI b] g M1 (q_K 1 (d + 4) qP_X6_tellsAll nx ops ls st Q) := fun nx ops ls st h => mp_likes (q_mq_ml h1 hm) (by rw [e0]; omega) (by omega) (by rw [q_mq_mW h1]; exact h)
          rw [b_X6_tellsAll_12]
          simp (disch := omega) only [b_X6_tellsAll_0, x_iconst, x_storeI_1, x_loadI_1, x_loadR_0, x_loadS_0, f_6_0, y_ic_ge_t, y_ic_ge_f, b_X6_tellsAll_10, x_storeI_2, x_loadI_2, b_X6_tellsAll_17, f_6_31, x_imul, x_iadd, y_iast_25, y_iast_35, y_iast_45, f_6_32, x_iinc_2, x_goto, b_X6_tellsAll_55, f_6_33, f_6_4, y_iald_25, y_iald_35, y_iald_45, x_iinc_1, b_X6_tellsAll_77, x_vret, q_isL_I, q_isL_R, q_isL_S, true_and, and_true, and_self, List.length_nil, List.length_cons, Nat.zero_add, x_K, x_Kn, Int.reduceToNat, Nat.reduceAdd, Nat.reduceMul, Nat.reduceLeDiff, Nat.reduceLT, Nat.zero_le, Int.reduceAdd, Int.reduceSub, Int.reduceMul, Int.reduceNeg, q_add_e, q_sub_e, q_mul_e, q_neg_e, q_upd_s, q_upd_n, zr_shr0, zr_shr1, zr_shr2, zr_shr3, zr_shr4, zr_and, zr_dyn8, zr_or, zr_shl, q_cpy_n, y_cpy26, tn_5, c_X6_likesOf]
          refine likes _ _ _ _ (fun M2 f2 => ?_)
          have g2 : q_mq M (q_upd M2 119 (5 * p + b) (F_likes V (mW M) p b)) := fun a i q1 q2 => (q_upd_n (by omega)).trans ((q_mq_mf f2 a i q1 q2).trans (h1 a i q1 q2))
          have e2 : q_upd M2 119 (5 * p + b) (F_likes V (mW M) p b) 100 0 = M 100 0 := g2 100 0 (by omega) (by omega)
          have wants : ∀ (nx : Nat) (ops : List Instr) (ls st : List q_V), (∀ M3 : q_M, q_mf (q_upd M2 119 (5 * p + b) (F_likes V (mW M) p b)) M3 → q_T 1 (d + 4) qP_X6_tellsAll nx ops ls (qI (F_wants V (mW M) p b) :: st) g M3 Q) → q_S 1 (d + 3) 142 [qR 6 100, qI p, qI b] g (q_upd M2 119 (5 * p + b) (F_likes V (mW M) p b)) (q_K 1 (d + 4) qP_X6_tellsAll nx ops ls st Q) := fun nx ops ls st h => mp_wants (q_mq_ml g2 hm) (by rw [e2]; omega) (by omega) (by rw [q_mq_mW g2]; exact h)
          simp (disch := omega) only [b_X6_tellsAll_0, x_iconst, x_storeI_1, x_loadI_1, x_loadR_0, x_loadS_0, f_6_0, y_ic_ge_t, y_ic_ge_f, b_X6_tellsAll_10, x_storeI_2, x_loadI_2, b_X6_tellsAll_17, f_6_31, x_imul, x_iadd, y_iast_25, y_iast_35, y_iast_45, f_6_32, x_iinc_2, x_goto, b_X6_tellsAll_55, f_6_33, f_6_4, y_iald_25, y_iald_35, y_iald_45, x_iinc_1, b_X6_tellsAll_77, x_vret, q_isL_I, q_isL_R, q_isL_S, true_and, and_true, and_self, List.length_nil, List.length_cons, Nat.zero_add, x_K, x_Kn, Int.reduceToNat, Nat.reduceAdd, Nat.reduceMul, Nat.reduceLeDiff, Nat.reduceLT, Nat.zero_le, Int.reduceAdd, Int.reduceSub, Int.reduceMul, Int.reduceNeg, q_add_e, q_sub_e, q_mul_e, q_neg_e, q_upd_s, q_upd_n, zr_shr0, zr_shr1, zr_shr2, zr_shr3, zr_shr4, zr_and, zr_dyn8, zr_or, zr_shl, q_cpy_n, y_cpy26, tn_5, c_X6_wantedOf]
          refine wants _ _ _ _ (fun M3 f3 => ?_)
          simp (disch := omega) only [b_X6_tellsAll_0, x_iconst, x_storeI_1, x_loadI_1, x_loadR_0, x_loadS_0, f_6_0, y_ic_ge_t, y_ic_ge_f, b_X6_tellsAll_10, x_storeI_2, x_loadI_2, b_X6_tellsAll_17, f_6_31, x_imul, x_iadd, y_iast_25, y_iast_35, y_iast_45, f_6_32, x_iinc_2, x_goto, b_X6_tellsAll_55, f_6_33, f_6_4, y_iald_25, y_iald_35, y_iald_45, x_iinc_1, b_X6_tellsAll_77, x_vret, q_isL_I, q_isL_R, q_isL_S, true_and, and_true, and_self, List.length_nil, List.length_cons, Nat.zero_add, x_K, x_Kn, Int.reduceToNat, Nat.reduceAdd, Nat.reduceMul, Nat.reduceLeDiff, Nat.reduceLT, Nat.zero_le, Int.reduceAdd, Int.reduceSub, Int.reduceMul, Int.reduceNeg, q_add_e, q_sub_e, q_mul_e, q_neg_e, q_upd_s, q_upd_n, zr_shr0, zr_shr1, zr_shr2, zr_shr3, zr_shr4, zr_and, zr_dyn8, zr_or, zr_shl, q_cpy_n, y_cpy26, tn_5]
          have hold : ∀ a i, a = 119 ∨ a = 120 ∨ a = 121 → (a = 119 → i ≠ 5 * p + b) → (a = 120 → i ≠ 5 * p + b) → q_upd M3 120 (5 * p + b) (F_wants V (mW M) p b) a i = M1 a i := by
            intro a i q0 q1 q2
            rw [q_upd_n (by omega), f3 a i (by omega) (by omega), q_upd_n (by omega), f2 a i (by omega) (by omega)]
          refine ih2 (b + 1) (by omega) _ (fun a i q1 q2 => (q_upd_n (by omega)).trans ((q_mq_mf f3 a i q1 q2).trans (g2 a i q1 q2))) (fun p' b' q1 q2 => ?_) (fun b' q1 => ?_) (fun p' q1 => ?_)
          · rw [hold 119 _ (by omega) (by omega) (by omega), hold 120 _ (by omega) (by omega) (by omega)]
            exact h2 p' b' q1 q2
          · by_cases e : b' = b
            · rw [e, q_upd_s, q_upd_n (by omega), f3 119 _ (by omega) (by omega), q_upd_s]
              exact ⟨rfl, rfl⟩
            · rw [hold 119 _ (by omega) (by omega) (by omega), hold 120 _ (by omega) (by omega) (by omega)]
              exact h2b b' (by omega)
          · rw [hold 121 _ (by omega) (by omega) (by omega)]
            exact h3 p' q1
      rw [b_X6_tellsAll_2]
      simp (disch := omega) only [b_X6_tellsAll_0, x_iconst, x_storeI_1, x_loadI_1, x_loadR_0, x_loadS_0, f_6_0, y_ic_ge_t, y_ic_ge_f, b_X6_tellsAll_10, x_storeI_2, x_loadI_2, b_X6_tellsAll_17, f_6_31, x_imul, x_iadd, y_iast_25, y_iast_35, y_iast_45, f_6_32, x_iinc_2, x_goto, b_X6_tellsAll_55, f_6_33, f_6_4, y_iald_25, y_iald_35, y_iald_45, x_iinc_1, b_X6_tellsAll_77, x_vret, q_isL_I, q_isL_R, q_isL_S, true_and, and_true, and_self, List.length_nil, List.length_cons, Nat.zero_add, x_K, x_Kn, Int.reduceToNat, Nat.reduceAdd, Nat.reduceMul, Nat.reduceLeDiff, Nat.reduceLT, Nat.zero_le, Int.reduceAdd, Int.reduceSub, Int.reduceMul, Int.reduceNeg, q_add_e, q_sub_e, q_mul_e, q_neg_e, q_upd_s, q_upd_n, zr_shr0, zr_shr1, zr_shr2, zr_shr3, zr_shr4, zr_and, zr_dyn8, zr_or, zr_shl, q_cpy_n, y_cpy26, e0, hl2]
      exact inner 5 0 rfl M1 h1 h2 (fun b' h => absurd h (Nat.not_lt_zero b')) h3
  simp (disch := omega) only [b_X6_tellsAll_0, x_iconst, x_storeI_1, x_loadI_1, x_loadR_0, x_loadS_0, f_6_0, y_ic_ge_t, y_ic_ge_f, b_X6_tellsAll_10, x_storeI_2, x_loadI_2, b_X6_tellsAll_17, f_6_31, x_imul, x_iadd, y_iast_25, y_iast_35, y_iast_45, f_6_32, x_iinc_2, x_goto, b_X6_tellsAll_55, f_6_33, f_6_4, y_iald_25, y_iald_35, y_iald_45, x_iinc_1, b_X6_tellsAll_77, x_vret, q_isL_I, q_isL_R, q_isL_S, true_and, and_true, and_self, List.length_nil, List.length_cons, Nat.zero_add, x_K, x_Kn, Int.reduceToNat, Nat.reduceAdd, Nat.reduceMul, Nat.reduceLeDiff, Nat.reduceLT, Nat.zero_le, Int.reduceAdd, Int.reduceSub, Int.reduceMul, Int.reduceNeg, q_add_e, q_sub_e, q_mul_e, q_neg_e, q_upd_s, q_upd_n, zr_shr0, zr_shr1, zr_shr2, zr_shr3, zr_shr4, zr_and, zr_dyn8, zr_or, zr_shl, q_cpy_n, y_cpy26]
  exact loop (M 100 0).toNat 0 (by omega) M _ rfl q_mq_rf (fun p' b' h => absurd h (Nat.not_lt_zero p')) (fun p' h => absurd h (Nat.not_lt_zero p'))
def m_st (M : q_M) : (Nat → Int) × (Nat → Int) := (fun i => m_raw (M 121 i), M 122)
theorem q_yM_self {M : q_M} : q_yM M (m_st M) = M := by
  funext a i
  unfold q_yM m_st
  by_cases c : a = 121
  · rw [if_pos c]
    by_cases c2 : i < 5
    · rw [if_pos c2, c]
      exact m_raw_raw
    · rw [if_neg c2, c]
  · rw [if_neg c]
    by_cases c3 : a = 122
    · rw [if_pos c3, c3]
      split <;> rfl
    · rw [if_neg c3]
theorem q_yM_ext {M : q_M} {x y : (Nat → Int) × (Nat → Int)} (h : ∀ i, i < 5 → x.1 i = y.1 i ∧ x.2 i = y.2 i) : q_yM M x = q_yM M y := by
  funext a i
  unfold q_yM
  by_cases c : i < 5
  · rw [(h i c).1, (h i c).2]
  · simp only [c, if_false]
theorem m_td_x5 {V : Nat → (Nat → Int) → Int} {M M2 : q_M} (hm : q_ml V M) (h : m_td V M M2) : q_x5 (M2 100 0).toNat (m_st M2) := by
  intro i hi
  have e0 : M2 100 0 = M 100 0 := h.1 100 0 (by omega) (by omega)
  have n0 := hm.1.1
  have hin := hm.1.2.2.2.2.2.2.1 i (by omega)
  show 0 ≤ m_raw (M2 121 i) ∧ m_raw (M2 121 i) ≤ 5
  rw [h.2.2 i (by rw [← e0]; exact hi)]
  unfold m_raw
  (repeat' split) <;> omega
theorem m_td_L {V : Nat → (Nat → Int) → Int} {M M2 : q_M} (h : m_td V M M2) : ∀ p b, p < (M2 100 0).toNat → b < 6 → -1000 ≤ mL M2 p b ∧ mL M2 p b ≤ 1000 := by
  intro p b hp hb
  have e0 : M2 100 0 = M 100 0 := h.1 100 0 (by omega) (by omega)
  rw [e0] at hp
  by_cases c : b < 5
  · rw [mL_e c, (h.2.1 p b hp c).1]
    have := F_likes_le (V := V) (S := mW M) (p := p) (b := b)
    omega
  · rw [show mL M2 p b = 0 from if_neg c]
    omega
theorem m_td_W {V : Nat → (Nat → Int) → Int} {M M2 : q_M} (hm : q_ml V M) (h : m_td V M M2) : ∀ p b, p < (M2 100 0).toNat → b < 6 → -1000 ≤ mWn M2 p b ∧ mWn M2 p b ≤ 1000 := by
  intro p b hp hb
  have e0 : M2 100 0 = M 100 0 := h.1 100 0 (by omega) (by omega)
  have n0 := hm.1.1
  rw [e0] at hp
  by_cases c : b < 5
  · rw [mWn_e c, (h.2.1 p b hp c).2]
    have := F_wants_le (V := V) (S := mW M) (p := p) (b := b) (by rw [mW_1 hp]; exact hm.1.2.2.2.1 p (by omega))
    omega
  · rw [show mWn M2 p b = 0 from if_neg c]
    omega
def B_pcA (M : q_M) (x : (Nat → Int) × (Nat → Int)) (wt : Int) : Int := if wt = 0 then F_cmp (mL M) (G_T (mWn M) (mR M) x.1 (M 100 0).toNat) x.1 (M 100 0).toNat 0 else if wt = 1 then F_sum (mL M) x.1 (M 100 0).toNat else F_sum (mWn M) x.1 (M 100 0).toNat
theorem mp_peaceF {d : Nat} {g : q_G} {M : q_M} {wt : Int} {Q : Option q_V → q_G → q_M → Prop} (h : ¬(0 ≤ wt ∧ wt ≤ 2)) (hq : Q (some (qI (-100000))) g M) : q_S 1 (d + 1) 167 [qR 6 100, qI wt] g M Q := by
  rw [s_X6_peace]
  simp (disch := omega) only [b_X6_peace_0, x_loadI_1, x_iconst, y_if_ne_t, y_if_ne_f, b_X6_peace_9, x_ret0, b_X6_peace_12, x_loadR_0, x_loadS_0, b_X6_peace_20, x_goto, b_X6_peace_27, b_X6_peace_32, q_isL_I, q_isL_R, q_isL_S, true_and, and_true, and_self, List.length_nil, List.length_cons, Nat.zero_add, x_K, x_Kn, Int.reduceToNat, Nat.reduceAdd, Nat.reduceMul, Nat.reduceLeDiff, Nat.reduceLT, Nat.zero_le, Int.reduceAdd, Int.reduceSub, Int.reduceMul, Int.reduceNeg, q_add_e, q_sub_e, q_mul_e, q_neg_e, q_upd_s, q_upd_n, zr_shr0, zr_shr1, zr_shr2, zr_shr3, zr_shr4, zr_and, zr_dyn8, zr_or, zr_shl, q_cpy_n, y_cpy26, c_X6_in, mp_in, h, if_false]
  exact hq
set_option maxHeartbeats 4000000 in
theorem mp_peace {V : Nat → (Nat → Int) → Int} {d : Nat} {g : q_G} {M : q_M} {wt : Int} {Q : Option q_V → q_G → q_M → Prop} (hm : q_ml V M) (h : 0 ≤ wt ∧ wt ≤ 2) (hq : ∀ M2 : q_M, m_td V M M2 → Q (some (qI (B_pcA M2 (m_st M2) wt))) g M2) : q_S 1 (d + 5) 167 [qR 6 100, qI wt] g M Q := by
  have n0 := hm.1.1
  have tell : ∀ (nx : Nat) (ops : List Instr) (ls st : List q_V), (∀ M2 : q_M, m_td V M M2 → q_T 1 (d + 5) qP_X6_peace nx ops ls st g M2 Q) → q_S 1 (d + 4) 159 [qR 6 100] g M (q_K 1 (d + 5) qP_X6_peace nx ops ls st Q) := fun nx ops ls st h => mp_tellsAll hm h
  rw [s_X6_peace]
  simp (disch := omega) only [b_X6_peace_0, x_loadI_1, x_iconst, y_if_ne_t, y_if_ne_f, b_X6_peace_9, x_ret0, b_X6_peace_12, x_loadR_0, x_loadS_0, b_X6_peace_20, x_goto, b_X6_peace_27, b_X6_peace_32, q_isL_I, q_isL_R, q_isL_S, true_and, and_true, and_self, List.length_nil, List.length_cons, Nat.zero_add, x_K, x_Kn, Int.reduceToNat, Nat.reduceAdd, Nat.reduceMul, Nat.reduceLeDiff, Nat.reduceLT, Nat.zero_le, Int.reduceAdd, Int.reduceSub, Int.reduceMul, Int.reduceNeg, q_add_e, q_sub_e, q_mul_e, q_neg_e, q_upd_s, q_upd_n, zr_shr0, zr_shr1, zr_shr2, zr_shr3, zr_shr4, zr_and, zr_dyn8, zr_or, zr_shl, q_cpy_n, y_cpy26, c_X6_in, mp_in, h, and_self, if_true, c_X6_tellsAll]
  refine tell _ _ _ _ (fun M2 h2 => ?_)
  have e0 : M2 100 0 = M 100 0 := h2.1 100 0 (by omega) (by omega)
  have hx := m_td_x5 hm h2
  have bL := m_td_L h2
  have bW := m_td_W hm h2
  have a := hq M2 h2
  have ag : ∀ (nx : Nat) (ops : List Instr) (ls st : List q_V), q_T 1 (d + 5) qP_X6_peace nx ops ls (qI (F_cmp (mL M2) (G_T (mWn M2) (mR M2) (m_st M2).1 (M2 100 0).toNat) (m_st M2).1 (M2 100 0).toNat 0) :: st) g M2 Q → q_S 1 (d + 4) 164 [qR 6 100] g M2 (q_K 1 (d + 5) qP_X6_peace nx ops ls st Q) := fun nx ops ls st h => by
    have k := mp_against (d := d + 2) (g := g) (by omega) (by omega) hx (q_K 1 (d + 5) qP_X6_peace nx ops ls st Q)
    rw [q_yM_self] at k
    rw [k]
    exact h
  have sm : ∀ (nx : Nat) (ops : List Instr) (ls st : List q_V), q_T 1 (d + 5) qP_X6_peace nx ops ls (qI (if wt = 1 then F_sum (mL M2) (m_st M2).1 (M2 100 0).toNat else F_sum (mWn M2) (m_st M2).1 (M2 100 0).toNat) :: st) g M2 Q → q_S 1 (d + 4) 165 [qR 6 100, qI wt] g M2 (q_K 1 (d + 5) qP_X6_peace nx ops ls st Q) := fun nx ops ls st h => by
    have k := mp_sumOf (d := d + 4) (g := g) (wt := wt) (by omega) (by omega) hx bL bW (q_K 1 (d + 5) qP_X6_peace nx ops ls st Q)
    rw [q_yM_self] at k
    rw [k]
    exact h
  unfold B_pcA at a
  by_cases c : wt = 0
  · rw [if_pos c] at a
    simp (disch := omega) only [b_X6_peace_0, x_loadI_1, x_iconst, y_if_ne_t, y_if_ne_f, b_X6_peace_9, x_ret0, b_X6_peace_12, x_loadR_0, x_loadS_0, b_X6_peace_20, x_goto, b_X6_peace_27, b_X6_peace_32, q_isL_I, q_isL_R, q_isL_S, true_and, and_true, and_self, List.length_nil, List.length_cons, Nat.zero_add, x_K, x_Kn, Int.reduceToNat, Nat.reduceAdd, Nat.reduceMul, Nat.reduceLeDiff, Nat.reduceLT, Nat.zero_le, Int.reduceAdd, Int.reduceSub, Int.reduceMul, Int.reduceNeg, q_add_e, q_sub_e, q_mul_e, q_neg_e, q_upd_s, q_upd_n, zr_shr0, zr_shr1, zr_shr2, zr_shr3, zr_shr4, zr_and, zr_dyn8, zr_or, zr_shl, q_cpy_n, y_cpy26, c_X6_against]
    refine ag _ _ _ _ ?_
    simp (disch := omega) only [b_X6_peace_0, x_loadI_1, x_iconst, y_if_ne_t, y_if_ne_f, b_X6_peace_9, x_ret0, b_X6_peace_12, x_loadR_0, x_loadS_0, b_X6_peace_20, x_goto, b_X6_peace_27, b_X6_peace_32, q_isL_I, q_isL_R, q_isL_S, true_and, and_true, and_self, List.length_nil, List.length_cons, Nat.zero_add, x_K, x_Kn, Int.reduceToNat, Nat.reduceAdd, Nat.reduceMul, Nat.reduceLeDiff, Nat.reduceLT, Nat.zero_le, Int.reduceAdd, Int.reduceSub, Int.reduceMul, Int.reduceNeg, q_add_e, q_sub_e, q_mul_e, q_neg_e, q_upd_s, q_upd_n, zr_shr0, zr_shr1, zr_shr2, zr_shr3, zr_shr4, zr_and, zr_dyn8, zr_or, zr_shl, q_cpy_n, y_cpy26]
    exact a
  · rw [if_neg c] at a
    simp (disch := omega) only [b_X6_peace_0, x_loadI_1, x_iconst, y_if_ne_t, y_if_ne_f, b_X6_peace_9, x_ret0, b_X6_peace_12, x_loadR_0, x_loadS_0, b_X6_peace_20, x_goto, b_X6_peace_27, b_X6_peace_32, q_isL_I, q_isL_R, q_isL_S, true_and, and_true, and_self, List.length_nil, List.length_cons, Nat.zero_add, x_K, x_Kn, Int.reduceToNat, Nat.reduceAdd, Nat.reduceMul, Nat.reduceLeDiff, Nat.reduceLT, Nat.zero_le, Int.reduceAdd, Int.reduceSub, Int.reduceMul, Int.reduceNeg, q_add_e, q_sub_e, q_mul_e, q_neg_e, q_upd_s, q_upd_n, zr_shr0, zr_shr1, zr_shr2, zr_shr3, zr_shr4, zr_and, zr_dyn8, zr_or, zr_shl, q_cpy_n, y_cpy26, c_X6_sumOf]
    refine sm _ _ _ _ ?_
    simp (disch := omega) only [b_X6_peace_0, x_loadI_1, x_iconst, y_if_ne_t, y_if_ne_f, b_X6_peace_9, x_ret0, b_X6_peace_12, x_loadR_0, x_loadS_0, b_X6_peace_20, x_goto, b_X6_peace_27, b_X6_peace_32, q_isL_I, q_isL_R, q_isL_S, true_and, and_true, and_self, List.length_nil, List.length_cons, Nat.zero_add, x_K, x_Kn, Int.reduceToNat, Nat.reduceAdd, Nat.reduceMul, Nat.reduceLeDiff, Nat.reduceLT, Nat.zero_le, Int.reduceAdd, Int.reduceSub, Int.reduceMul, Int.reduceNeg, q_add_e, q_sub_e, q_mul_e, q_neg_e, q_upd_s, q_upd_n, zr_shr0, zr_shr1, zr_shr2, zr_shr3, zr_shr4, zr_and, zr_dyn8, zr_or, zr_shl, q_cpy_n, y_cpy26]
    exact a
end
section
/-! THE MODEL: court, annex -/
def G_x0 : (Nat → Int) × (Nat → Int) := (fun _ => 5, fun _ => 0)
theorem q_or01 : q_or 0 1 = 1 ∧ q_or 1 1 = 1 ∧ q_or 0 0 = 0 ∧ q_or 1 0 = 1 := by decide
theorem q_iv_x5 {n : Nat} {x : (Nat → Int) × (Nat → Int)} (h : q_iv n x) : q_x5 n x := fun i hi => (h i hi).1
theorem G_x0_iv {n : Nat} : q_iv n G_x0 := fun p _ => ⟨by show (0 : Int) ≤ 5 ∧ (5 : Int) ≤ 5; omega, by show (0 : Int) ≤ 0 ∧ (0 : Int) ≤ 31; omega, fun b hb e => absurd e (by show ¬(5 : Int) = b; omega)⟩
theorem G_trn_iv {L W : Nat → Nat → Int} {R : Nat → Int} {n : Nat} (hn : n ≤ 5) : ∀ (k : Nat) (x : (Nat → Int) × (Nat → Int)), q_iv n x → q_iv n (G_trn L W R n k x)
  | 0, _, h => h
  | k + 1, x, h => by
    rw [G_trn]
    split
    · exact G_trn_iv hn k _ (G_rd_iv hn h n (Nat.le_refl n)).1
    · exact (G_rd_iv hn h n (Nat.le_refl n)).1
set_option maxHeartbeats 4000000 in
theorem mp_courts {V : Nat → (Nat → Int) → Int} {d : Nat} {g : q_G} {M : q_M} {Q : Option q_V → q_G → q_M → Prop} (hm : q_ml V M) (hq : ∀ M2 : q_M, m_td V M M2 → Q none g (q_yM M2 (G_trn (mL M2) (mWn M2) (mR M2) (M2 100 0).toNat 1000 G_x0))) : q_S 1 (d + 5) 170 [qR 6 100] g M Q := by
  have n0 := hm.1.1
  have tell : ∀ (nx : Nat) (ops : List Instr) (ls st : List q_V), (∀ M2 : q_M, m_td V M M2 → q_T 1 (d + 5) qP_X6_courts nx ops ls st g M2 Q) → q_S 1 (d + 4) 159 [qR 6 100] g M (q_K 1 (d + 5) qP_X6_courts nx ops ls st Q) := fun nx ops ls st h => mp_tellsAll hm h
  rw [s_X6_courts]
  simp (disch := omega) only [b_X6_courts_0, x_loadR_0, x_loadS_0, x_iconst, x_storeI_1, b_X6_courts_6, x_loadI_1, y_ic_ge_t, y_ic_ge_f, b_X6_courts_11, f_6_33, y_iast_25, f_6_34, x_iinc_1, x_goto, b_X6_courts_31, y_if_eq_t, y_if_eq_f, b_X6_courts_37, x_storeI_2, x_loadI_2, f_6_0, b_X6_courts_49, y_iald_25, y_ic_ne_t, y_ic_ne_f, b_X6_courts_59, x_ior, b_X6_courts_67, x_iinc_2, b_X6_courts_73, b_X6_courts_76, x_vret, q_isL_I, q_isL_R, q_isL_S, true_and, and_true, and_self, List.length_nil, List.length_cons, Nat.zero_add, x_K, x_Kn, Int.reduceToNat, Nat.reduceAdd, Nat.reduceMul, Nat.reduceLeDiff, Nat.reduceLT, Nat.zero_le, Int.reduceAdd, Int.reduceSub, Int.reduceMul, Int.reduceNeg, q_add_e, q_sub_e, q_mul_e, q_neg_e, q_upd_s, q_upd_n, zr_shr0, zr_shr1, zr_shr2, zr_shr3, zr_shr4, zr_and, zr_dyn8, zr_or, zr_shl, q_cpy_n, y_cpy26, c_X6_tellsAll]
  refine tell _ _ _ _ (fun M2 h2 => ?_)
  have e0 : M2 100 0 = M 100 0 := h2.1 100 0 (by omega) (by omega)
  have hq2 := hq M2 h2
  simp (disch := omega) only [b_X6_courts_0, x_loadR_0, x_loadS_0, x_iconst, x_storeI_1, b_X6_courts_6, x_loadI_1, y_ic_ge_t, y_ic_ge_f, b_X6_courts_11, f_6_33, y_iast_25, f_6_34, x_iinc_1, x_goto, b_X6_courts_31, y_if_eq_t, y_if_eq_f, b_X6_courts_37, x_storeI_2, x_loadI_2, f_6_0, b_X6_courts_49, y_iald_25, y_ic_ne_t, y_ic_ne_f, b_X6_courts_59, x_ior, b_X6_courts_67, x_iinc_2, b_X6_courts_73, b_X6_courts_76, x_vret, q_isL_I, q_isL_R, q_isL_S, true_and, and_true, and_self, List.length_nil, List.length_cons, Nat.zero_add, x_K, x_Kn, Int.reduceToNat, Nat.reduceAdd, Nat.reduceMul, Nat.reduceLeDiff, Nat.reduceLT, Nat.zero_le, Int.reduceAdd, Int.reduceSub, Int.reduceMul, Int.reduceNeg, q_add_e, q_sub_e, q_mul_e, q_neg_e, q_upd_s, q_upd_n, zr_shr0, zr_shr1, zr_shr2, zr_shr3, zr_shr4, zr_and, zr_dyn8, zr_or, zr_shl, q_cpy_n, y_cpy26]
  have eI : q_upd (q_upd (q_upd (q_upd (q_upd (q_upd (q_upd (q_upd (q_upd (q_upd M2 121 0 (-1)) 122 0 0) 121 1 (-1)) 122 1 0) 121 2 (-1)) 122 2 0) 121 3 (-1)) 122 3 0) 121 4 (-1)) 122 4 0 = q_yM M2 G_x0 := by
    have r5 : m_raw 5 = -1 := rfl
    have gen : ∀ x : (Nat → Int) × (Nat → Int), q_upd (q_upd (q_upd (q_upd (q_upd (q_upd (q_upd (q_upd (q_upd (q_upd (q_yM M2 x) 121 0 (-1)) 122 0 0) 121 1 (-1)) 122 1 0) 121 2 (-1)) 122 2 0) 121 3 (-1)) 122 3 0) 121 4 (-1)) 122 4 0 = q_yM M2 G_x0 := by
      intro x
      rw [uy_f (by omega) r5, uy_s (by omega), uy_f (by omega) r5, uy_s (by omega), uy_f (by omega) r5, uy_s (by omega), uy_f (by omega) r5, uy_s (by omega), uy_f (by omega) r5, uy_s (by omega)]
      refine q_yM_ext (fun i hi => ?_)
      rcases (show i = 0 ∨ i = 1 ∨ i = 2 ∨ i = 3 ∨ i = 4 by omega) with rfl | rfl | rfl | rfl | rfl <;> exact ⟨rfl, rfl⟩
    have g0 := gen (m_st M2)
    rw [q_yM_self] at g0
    exact g0
  rw [eI]
  have outer : ∀ (k : Nat) (x : (Nat → Int) × (Nat → Int)) (l2 : q_V), q_isL l2 = false → q_iv (M2 100 0).toNat x → F_ph x.1 x.2 (M2 100 0).toNat < k → Q none g (q_yM M2 (G_trn (mL M2) (mWn M2) (mR M2) (M2 100 0).toNat k x)) → q_T 1 (d + 5) qP_X6_courts 33 [] [qR 6 100, qI 1, l2] [] g (q_yM M2 x) Q := by
    intro k
    induction k with
    | zero =>
      intro x l2 hl2 hx hk hq
      have := F_ph_le hx (M2 100 0).toNat (Nat.le_refl _)
      omega
    | succ k ih =>
      intro x l2 hl2 hx hk hq
      rw [G_trn] at hq
      have hE0 : ∀ y, q_yM M2 y 100 0 = M2 100 0 := fun y => ry_n (by omega) (by omega)
      have hend := G_rd_iv (L := mL M2) (W := mWn M2) (R := mR M2) (by omega) hx (M2 100 0).toNat (Nat.le_refl _)
      have inner : ∀ j p : Nat, p + j = (M2 100 0).toNat → q_T 1 (d + 5) qP_X6_courts 41 [] [qR 6 100, qI (if (G_rd (mL M2) (mWn M2) (mR M2) (M2 100 0).toNat x p).1 = true then 1 else 0), qI p] [] g (q_yM M2 (G_rd (mL M2) (mWn M2) (mR M2) (M2 100 0).toNat x p).2) Q := by
        intro j
        induction j with
        | zero =>
          intro p hp
          have e : p = (M2 100 0).toNat := by omega
          rw [← e] at hq hend
          have hE := hE0 (G_rd (mL M2) (mWn M2) (mR M2) (M2 100 0).toNat x p).2
          rw [← e] at hE ⊢
          generalize G_rd (mL M2) (mWn M2) (mR M2) p x p = Y at hq hend hE ⊢
          rw [b_X6_courts_41]
          simp (disch := omega) only [b_X6_courts_0, x_loadR_0, x_loadS_0, x_iconst, x_storeI_1, b_X6_courts_6, x_loadI_1, y_ic_ge_t, y_ic_ge_f, b_X6_courts_11, f_6_33, y_iast_25, f_6_34, x_iinc_1, x_goto, b_X6_courts_31, y_if_eq_t, y_if_eq_f, b_X6_courts_37, x_storeI_2, x_loadI_2, f_6_0, b_X6_courts_49, y_iald_25, y_ic_ne_t, y_ic_ne_f, b_X6_courts_59, x_ior, b_X6_courts_67, x_iinc_2, b_X6_courts_73, b_X6_courts_76, x_vret, q_isL_I, q_isL_R, q_isL_S, true_and, and_true, and_self, List.length_nil, List.length_cons, Nat.zero_add, x_K, x_Kn, Int.reduceToNat, Nat.reduceAdd, Nat.reduceMul, Nat.reduceLeDiff, Nat.reduceLT, Nat.zero_le, Int.reduceAdd, Int.reduceSub, Int.reduceMul, Int.reduceNeg, q_add_e, q_sub_e, q_mul_e, q_neg_e, q_upd_s, q_upd_n, zr_shr0, zr_shr1, zr_shr2, zr_shr3, zr_shr4, zr_and, zr_dyn8, zr_or, zr_shl, q_cpy_n, y_cpy26, hE]
          by_cases c : Y.1 = true
          · rw [if_pos c] at hq ⊢
            refine ih Y.2 _ rfl (by rw [e] at hend; exact hend.1) (by rw [e] at hend; have := hend.2.2 c; omega) (by rw [e] at hq; exact hq)
          · rw [if_neg c] at hq ⊢
            rw [b_X6_courts_33]
            simp (disch := omega) only [b_X6_courts_0, x_loadR_0, x_loadS_0, x_iconst, x_storeI_1, b_X6_courts_6, x_loadI_1, y_ic_ge_t, y_ic_ge_f, b_X6_courts_11, f_6_33, y_iast_25, f_6_34, x_iinc_1, x_goto, b_X6_courts_31, y_if_eq_t, y_if_eq_f, b_X6_courts_37, x_storeI_2, x_loadI_2, f_6_0, b_X6_courts_49, y_iald_25, y_ic_ne_t, y_ic_ne_f, b_X6_courts_59, x_ior, b_X6_courts_67, x_iinc_2, b_X6_courts_73, b_X6_courts_76, x_vret, q_isL_I, q_isL_R, q_isL_S, true_and, and_true, and_self, List.length_nil, List.length_cons, Nat.zero_add, x_K, x_Kn, Int.reduceToNat, Nat.reduceAdd, Nat.reduceMul, Nat.reduceLeDiff, Nat.reduceLT, Nat.zero_le, Int.reduceAdd, Int.reduceSub, Int.reduceMul, Int.reduceNeg, q_add_e, q_sub_e, q_mul_e, q_neg_e, q_upd_s, q_upd_n, zr_shr0, zr_shr1, zr_shr2, zr_shr3, zr_shr4, zr_and, zr_dyn8, zr_or, zr_shl, q_cpy_n, y_cpy26]
            exact hq
        | succ j ih2 =>
          intro p hp
          have h3 := G_rd_iv (L := mL M2) (W := mWn M2) (R := mR M2) (by omega) hx p (by omega)
          have ih3 := ih2 (p + 1) (by omega)
          rw [G_rd] at ih3
          generalize G_rd (mL M2) (mWn M2) (mR M2) (M2 100 0).toNat x p = Y at h3 ih3 ⊢
          have hE := hE0 Y.2
          have hyp := (h3.1 p (by omega)).1
          have hY := q_iv_x5 h3.1
          have ask := fun (nx : Nat) (ops : List Instr) (ls st : List q_V) => mp_asksOne (d := d + 2) (g := g) (M := M2) (x := Y.2) (p := p) (by omega) (by omega) (by omega) hY (q_K 1 (d + 5) qP_X6_courts nx ops ls st Q)
          have ro := q_or01
          rw [b_X6_courts_41]
          by_cases c1 : Y.2.1 p = 5
          · have er : m_raw (Y.2.1 p) = -1 := by rw [c1]; rfl
            by_cases c2 : F_dst (mL M2) Y.2 p = 5
            · rw [if_neg (show ¬(Y.2.1 p = 5 ∧ F_dst (mL M2) Y.2 p ≠ 5) from fun z => z.2 c2)] at ih3
              simp only [c2, if_true] at ask
              simp (disch := omega) only [b_X6_courts_0, x_loadR_0, x_loadS_0, x_iconst, x_storeI_1, b_X6_courts_6, x_loadI_1, y_ic_ge_t, y_ic_ge_f, b_X6_courts_11, f_6_33, y_iast_25, f_6_34, x_iinc_1, x_goto, b_X6_courts_31, y_if_eq_t, y_if_eq_f, b_X6_courts_37, x_storeI_2, x_loadI_2, f_6_0, b_X6_courts_49, y_iald_25, y_ic_ne_t, y_ic_ne_f, b_X6_courts_59, x_ior, b_X6_courts_67, x_iinc_2, b_X6_courts_73, b_X6_courts_76, x_vret, q_isL_I, q_isL_R, q_isL_S, true_and, and_true, and_self, List.length_nil, List.length_cons, Nat.zero_add, x_K, x_Kn, Int.reduceToNat, Nat.reduceAdd, Nat.reduceMul, Nat.reduceLeDiff, Nat.reduceLT, Nat.zero_le, Int.reduceAdd, Int.reduceSub, Int.reduceMul, Int.reduceNeg, q_add_e, q_sub_e, q_mul_e, q_neg_e, q_upd_s, q_upd_n, zr_shr0, zr_shr1, zr_shr2, zr_shr3, zr_shr4, zr_and, zr_dyn8, zr_or, zr_shl, q_cpy_n, y_cpy26, hE, Int.toNat_natCast, ry_f, er, c_X6_asksOne, ask]
              by_cases c3 : Y.1 = true
              · simp (disch := omega) only [b_X6_courts_0, x_loadR_0, x_loadS_0, x_iconst, x_storeI_1, b_X6_courts_6, x_loadI_1, y_ic_ge_t, y_ic_ge_f, b_X6_courts_11, f_6_33, y_iast_25, f_6_34, x_iinc_1, x_goto, b_X6_courts_31, y_if_eq_t, y_if_eq_f, b_X6_courts_37, x_storeI_2, x_loadI_2, f_6_0, b_X6_courts_49, y_iald_25, y_ic_ne_t, y_ic_ne_f, b_X6_courts_59, x_ior, b_X6_courts_67, x_iinc_2, b_X6_courts_73, b_X6_courts_76, x_vret, q_isL_I, q_isL_R, q_isL_S, true_and, and_true, and_self, List.length_nil, List.length_cons, Nat.zero_add, x_K, x_Kn, Int.reduceToNat, Nat.reduceAdd, Nat.reduceMul, Nat.reduceLeDiff, Nat.reduceLT, Nat.zero_le, Int.reduceAdd, Int.reduceSub, Int.reduceMul, Int.reduceNeg, q_add_e, q_sub_e, q_mul_e, q_neg_e, q_upd_s, q_upd_n, zr_shr0, zr_shr1, zr_shr2, zr_shr3, zr_shr4, zr_and, zr_dyn8, zr_or, zr_shl, q_cpy_n, y_cpy26, c3, if_true, ro]
                simp only [c3, if_true] at ih3
                exact ih3
              · simp (disch := omega) only [b_X6_courts_0, x_loadR_0, x_loadS_0, x_iconst, x_storeI_1, b_X6_courts_6, x_loadI_1, y_ic_ge_t, y_ic_ge_f, b_X6_courts_11, f_6_33, y_iast_25, f_6_34, x_iinc_1, x_goto, b_X6_courts_31, y_if_eq_t, y_if_eq_f, b_X6_courts_37, x_storeI_2, x_loadI_2, f_6_0, b_X6_courts_49, y_iald_25, y_ic_ne_t, y_ic_ne_f, b_X6_courts_59, x_ior, b_X6_courts_67, x_iinc_2, b_X6_courts_73, b_X6_courts_76, x_vret, q_isL_I, q_isL_R, q_isL_S, true_and, and_true, and_self, List.length_nil, List.length_cons, Nat.zero_add, x_K, x_Kn, Int.reduceToNat, Nat.reduceAdd, Nat.reduceMul, Nat.reduceLeDiff, Nat.reduceLT, Nat.zero_le, Int.reduceAdd, Int.reduceSub, Int.reduceMul, Int.reduceNeg, q_add_e, q_sub_e, q_mul_e, q_neg_e, q_upd_s, q_upd_n, zr_shr0, zr_shr1, zr_shr2, zr_shr3, zr_shr4, zr_and, zr_dyn8, zr_or, zr_shl, q_cpy_n, y_cpy26, c3, Bool.false_eq_true, if_false, ro]
                simp only [c3, Bool.false_eq_true, if_false] at ih3
                exact ih3
            · rw [if_pos (show Y.2.1 p = 5 ∧ F_dst (mL M2) Y.2 p ≠ 5 from ⟨c1, c2⟩)] at ih3
              simp only [c2, if_false] at ask
              simp only [if_true] at ih3
              simp (disch := omega) only [b_X6_courts_0, x_loadR_0, x_loadS_0, x_iconst, x_storeI_1, b_X6_courts_6, x_loadI_1, y_ic_ge_t, y_ic_ge_f, b_X6_courts_11, f_6_33, y_iast_25, f_6_34, x_iinc_1, x_goto, b_X6_courts_31, y_if_eq_t, y_if_eq_f, b_X6_courts_37, x_storeI_2, x_loadI_2, f_6_0, b_X6_courts_49, y_iald_25, y_ic_ne_t, y_ic_ne_f, b_X6_courts_59, x_ior, b_X6_courts_67, x_iinc_2, b_X6_courts_73, b_X6_courts_76, x_vret, q_isL_I, q_isL_R, q_isL_S, true_and, and_true, and_self, List.length_nil, List.length_cons, Nat.zero_add, x_K, x_Kn, Int.reduceToNat, Nat.reduceAdd, Nat.reduceMul, Nat.reduceLeDiff, Nat.reduceLT, Nat.zero_le, Int.reduceAdd, Int.reduceSub, Int.reduceMul, Int.reduceNeg, q_add_e, q_sub_e, q_mul_e, q_neg_e, q_upd_s, q_upd_n, zr_shr0, zr_shr1, zr_shr2, zr_shr3, zr_shr4, zr_and, zr_dyn8, zr_or, zr_shl, q_cpy_n, y_cpy26, hE, Int.toNat_natCast, ry_f, er, c_X6_asksOne, ask]
              by_cases c3 : Y.1 = true
              · simp (disch := omega) only [b_X6_courts_0, x_loadR_0, x_loadS_0, x_iconst, x_storeI_1, b_X6_courts_6, x_loadI_1, y_ic_ge_t, y_ic_ge_f, b_X6_courts_11, f_6_33, y_iast_25, f_6_34, x_iinc_1, x_goto, b_X6_courts_31, y_if_eq_t, y_if_eq_f, b_X6_courts_37, x_storeI_2, x_loadI_2, f_6_0, b_X6_courts_49, y_iald_25, y_ic_ne_t, y_ic_ne_f, b_X6_courts_59, x_ior, b_X6_courts_67, x_iinc_2, b_X6_courts_73, b_X6_courts_76, x_vret, q_isL_I, q_isL_R, q_isL_S, true_and, and_true, and_self, List.length_nil, List.length_cons, Nat.zero_add, x_K, x_Kn, Int.reduceToNat, Nat.reduceAdd, Nat.reduceMul, Nat.reduceLeDiff, Nat.reduceLT, Nat.zero_le, Int.reduceAdd, Int.reduceSub, Int.reduceMul, Int.reduceNeg, q_add_e, q_sub_e, q_mul_e, q_neg_e, q_upd_s, q_upd_n, zr_shr0, zr_shr1, zr_shr2, zr_shr3, zr_shr4, zr_and, zr_dyn8, zr_or, zr_shl, q_cpy_n, y_cpy26, c3, if_true, ro]
                exact ih3
              · simp (disch := omega) only [b_X6_courts_0, x_loadR_0, x_loadS_0, x_iconst, x_storeI_1, b_X6_courts_6, x_loadI_1, y_ic_ge_t, y_ic_ge_f, b_X6_courts_11, f_6_33, y_iast_25, f_6_34, x_iinc_1, x_goto, b_X6_courts_31, y_if_eq_t, y_if_eq_f, b_X6_courts_37, x_storeI_2, x_loadI_2, f_6_0, b_X6_courts_49, y_iald_25, y_ic_ne_t, y_ic_ne_f, b_X6_courts_59, x_ior, b_X6_courts_67, x_iinc_2, b_X6_courts_73, b_X6_courts_76, x_vret, q_isL_I, q_isL_R, q_isL_S, true_and, and_true, and_self, List.length_nil, List.length_cons, Nat.zero_add, x_K, x_Kn, Int.reduceToNat, Nat.reduceAdd, Nat.reduceMul, Nat.reduceLeDiff, Nat.reduceLT, Nat.zero_le, Int.reduceAdd, Int.reduceSub, Int.reduceMul, Int.reduceNeg, q_add_e, q_sub_e, q_mul_e, q_neg_e, q_upd_s, q_upd_n, zr_shr0, zr_shr1, zr_shr2, zr_shr3, zr_shr4, zr_and, zr_dyn8, zr_or, zr_shl, q_cpy_n, y_cpy26, c3, Bool.false_eq_true, if_false, ro]
                exact ih3
          · rw [if_neg (show ¬(Y.2.1 p = 5 ∧ F_dst (mL M2) Y.2 p ≠ 5) from fun z => c1 z.1)] at ih3
            have er : m_raw (Y.2.1 p) = Y.2.1 p := m_raw_n c1 (by omega)
            simp (disch := omega) only [b_X6_courts_0, x_loadR_0, x_loadS_0, x_iconst, x_storeI_1, b_X6_courts_6, x_loadI_1, y_ic_ge_t, y_ic_ge_f, b_X6_courts_11, f_6_33, y_iast_25, f_6_34, x_iinc_1, x_goto, b_X6_courts_31, y_if_eq_t, y_if_eq_f, b_X6_courts_37, x_storeI_2, x_loadI_2, f_6_0, b_X6_courts_49, y_iald_25, y_ic_ne_t, y_ic_ne_f, b_X6_courts_59, x_ior, b_X6_courts_67, x_iinc_2, b_X6_courts_73, b_X6_courts_76, x_vret, q_isL_I, q_isL_R, q_isL_S, true_and, and_true, and_self, List.length_nil, List.length_cons, Nat.zero_add, x_K, x_Kn, Int.reduceToNat, Nat.reduceAdd, Nat.reduceMul, Nat.reduceLeDiff, Nat.reduceLT, Nat.zero_le, Int.reduceAdd, Int.reduceSub, Int.reduceMul, Int.reduceNeg, q_add_e, q_sub_e, q_mul_e, q_neg_e, q_upd_s, q_upd_n, zr_shr0, zr_shr1, zr_shr2, zr_shr3, zr_shr4, zr_and, zr_dyn8, zr_or, zr_shl, q_cpy_n, y_cpy26, hE, Int.toNat_natCast, ry_f, er]
            exact ih3
      rw [b_X6_courts_33]
      simp (disch := omega) only [b_X6_courts_0, x_loadR_0, x_loadS_0, x_iconst, x_storeI_1, b_X6_courts_6, x_loadI_1, y_ic_ge_t, y_ic_ge_f, b_X6_courts_11, f_6_33, y_iast_25, f_6_34, x_iinc_1, x_goto, b_X6_courts_31, y_if_eq_t, y_if_eq_f, b_X6_courts_37, x_storeI_2, x_loadI_2, f_6_0, b_X6_courts_49, y_iald_25, y_ic_ne_t, y_ic_ne_f, b_X6_courts_59, x_ior, b_X6_courts_67, x_iinc_2, b_X6_courts_73, b_X6_courts_76, x_vret, q_isL_I, q_isL_R, q_isL_S, true_and, and_true, and_self, List.length_nil, List.length_cons, Nat.zero_add, x_K, x_Kn, Int.reduceToNat, Nat.reduceAdd, Nat.reduceMul, Nat.reduceLeDiff, Nat.reduceLT, Nat.zero_le, Int.reduceAdd, Int.reduceSub, Int.reduceMul, Int.reduceNeg, q_add_e, q_sub_e, q_mul_e, q_neg_e, q_upd_s, q_upd_n, zr_shr0, zr_shr1, zr_shr2, zr_shr3, zr_shr4, zr_and, zr_dyn8, zr_or, zr_shl, q_cpy_n, y_cpy26, hl2]
      exact inner (M2 100 0).toNat 0 (by omega)
  have hph := F_ph_le (G_x0_iv (n := (M2 100 0).toNat)) (M2 100 0).toNat (Nat.le_refl _)
  exact outer 1000 G_x0 _ rfl G_x0_iv (by omega) hq2
end
section
/-! THE MODEL: court, annex (that it answers), all (that it answers) -/
def B_crA (M : q_M) (x : (Nat → Int) × (Nat → Int)) (wt : Int) : Int := if wt = 0 then F_dig x.1 (M 100 0).toNat else if wt = 1 then F_sum (mL M) x.1 (M 100 0).toNat else F_sum (mWn M) x.1 (M 100 0).toNat
theorem q_mq_yM {M M2 : q_M} {x : (Nat → Int) × (Nat → Int)} (h : q_mq M M2) : q_mq M (q_yM M2 x) := fun a i q1 q2 => (ry_n (by omega) (by omega)).trans (h a i q1 q2)
theorem mp_courtF {d : Nat} {g : q_G} {M : q_M} {wt : Int} {Q : Option q_V → q_G → q_M → Prop} (h : ¬(0 ≤ wt ∧ wt ≤ 2)) (hq : Q (some (qI (-100000))) g M) : q_S 1 (d + 1) 171 [qR 6 100, qI wt] g M Q := by
  rw [s_X6_court]
  simp (disch := omega) only [b_X6_court_0, x_loadI_1, x_iconst, y_if_ne_t, y_if_ne_f, b_X6_court_9, x_ret0, b_X6_court_12, x_loadR_0, x_loadS_0, b_X6_court_20, x_goto, b_X6_court_27, b_X6_court_32, q_isL_I, q_isL_R, q_isL_S, true_and, and_true, and_self, List.length_nil, List.length_cons, Nat.zero_add, x_K, x_Kn, Int.reduceToNat, Nat.reduceAdd, Nat.reduceMul, Nat.reduceLeDiff, Nat.reduceLT, Nat.zero_le, Int.reduceAdd, Int.reduceSub, Int.reduceMul, Int.reduceNeg, q_add_e, q_sub_e, q_mul_e, q_neg_e, q_upd_s, q_upd_n, zr_shr0, zr_shr1, zr_shr2, zr_shr3, zr_shr4, zr_and, zr_dyn8, zr_or, zr_shl, q_cpy_n, y_cpy26, c_X6_in, mp_in, h, if_false]
  exact hq
set_option maxHeartbeats 4000000 in
theorem mp_court {V : Nat → (Nat → Int) → Int} {d : Nat} {g : q_G} {M : q_M} {wt : Int} {Q : Option q_V → q_G → q_M → Prop} (hm : q_ml V M) (h : 0 ≤ wt ∧ wt ≤ 2) (hq : ∀ M2 M3 : q_M, m_td V M M2 → q_mq M M3 → Q (some (qI (B_crA M2 (G_trn (mL M2) (mWn M2) (mR M2) (M2 100 0).toNat 1000 G_x0) wt))) g M3) : q_S 1 (d + 6) 171 [qR 6 100, qI wt] g M Q := by
  have n0 := hm.1.1
  have crt : ∀ (nx : Nat) (ops : List Instr) (ls st : List q_V), (∀ M2 : q_M, m_td V M M2 → q_T 1 (d + 6) qP_X6_court nx ops ls st g (q_yM M2 (G_trn (mL M2) (mWn M2) (mR M2) (M2 100 0).toNat 1000 G_x0)) Q) → q_S 1 (d + 5) 170 [qR 6 100] g M (q_K 1 (d + 6) qP_X6_court nx ops ls st Q) := fun nx ops ls st h => mp_courts hm h
  rw [s_X6_court]
  simp (disch := omega) only [b_X6_court_0, x_loadI_1, x_iconst, y_if_ne_t, y_if_ne_f, b_X6_court_9, x_ret0, b_X6_court_12, x_loadR_0, x_loadS_0, b_X6_court_20, x_goto, b_X6_court_27, b_X6_court_32, q_isL_I, q_isL_R, q_isL_S, true_and, and_true, and_self, List.length_nil, List.length_cons, Nat.zero_add, x_K, x_Kn, Int.reduceToNat, Nat.reduceAdd, Nat.reduceMul, Nat.reduceLeDiff, Nat.reduceLT, Nat.zero_le, Int.reduceAdd, Int.reduceSub, Int.reduceMul, Int.reduceNeg, q_add_e, q_sub_e, q_mul_e, q_neg_e, q_upd_s, q_upd_n, zr_shr0, zr_shr1, zr_shr2, zr_shr3, zr_shr4, zr_and, zr_dyn8, zr_or, zr_shl, q_cpy_n, y_cpy26, c_X6_in, mp_in, h, and_self, if_true, c_X6_courts]
  refine crt _ _ _ _ (fun M2 h2 => ?_)
  have e0 : M2 100 0 = M 100 0 := h2.1 100 0 (by omega) (by omega)
  have bL := m_td_L h2
  have bW := m_td_W hm h2
  have hiv := G_trn_iv (L := mL M2) (W := mWn M2) (R := mR M2) (n := (M2 100 0).toNat) (by omega) 1000 G_x0 G_x0_iv
  have hx := q_iv_x5 hiv
  have a := fun M3 => hq M2 M3 h2
  generalize G_trn (mL M2) (mWn M2) (mR M2) (M2 100 0).toNat 1000 G_x0 = X at hx a ⊢
  have a2 := a (q_yM M2 X) (q_mq_yM h2.1)
  unfold B_crA at a2
  by_cases c : wt = 0
  · rw [if_pos c] at a2
    simp (disch := omega) only [b_X6_court_0, x_loadI_1, x_iconst, y_if_ne_t, y_if_ne_f, b_X6_court_9, x_ret0, b_X6_court_12, x_loadR_0, x_loadS_0, b_X6_court_20, x_goto, b_X6_court_27, b_X6_court_32, q_isL_I, q_isL_R, q_isL_S, true_and, and_true, and_self, List.length_nil, List.length_cons, Nat.zero_add, x_K, x_Kn, Int.reduceToNat, Nat.reduceAdd, Nat.reduceMul, Nat.reduceLeDiff, Nat.reduceLT, Nat.zero_le, Int.reduceAdd, Int.reduceSub, Int.reduceMul, Int.reduceNeg, q_add_e, q_sub_e, q_mul_e, q_neg_e, q_upd_s, q_upd_n, zr_shr0, zr_shr1, zr_shr2, zr_shr3, zr_shr4, zr_and, zr_dyn8, zr_or, zr_shl, q_cpy_n, y_cpy26, c_X6_sittingDigits, mp_sittingDigits, hx]
    exact a2
  · rw [if_neg c] at a2
    have sm := fun (QQ : Option q_V → q_G → q_M → Prop) => mp_sumOf (d := d + 5) (g := g) (wt := wt) (by omega) (by omega) hx bL bW QQ
    simp (disch := omega) only [b_X6_court_0, x_loadI_1, x_iconst, y_if_ne_t, y_if_ne_f, b_X6_court_9, x_ret0, b_X6_court_12, x_loadR_0, x_loadS_0, b_X6_court_20, x_goto, b_X6_court_27, b_X6_court_32, q_isL_I, q_isL_R, q_isL_S, true_and, and_true, and_self, List.length_nil, List.length_cons, Nat.zero_add, x_K, x_Kn, Int.reduceToNat, Nat.reduceAdd, Nat.reduceMul, Nat.reduceLeDiff, Nat.reduceLT, Nat.zero_le, Int.reduceAdd, Int.reduceSub, Int.reduceMul, Int.reduceNeg, q_add_e, q_sub_e, q_mul_e, q_neg_e, q_upd_s, q_upd_n, zr_shr0, zr_shr1, zr_shr2, zr_shr3, zr_shr4, zr_and, zr_dyn8, zr_or, zr_shl, q_cpy_n, y_cpy26, c_X6_sumOf, sm]
    exact a2
end
section
/-! THE MODEL: all (that it answers) -/
theorem q_yM_up {M : q_M} {a i : Nat} {v : Int} {x : (Nat → Int) × (Nat → Int)} (h : a ≠ 121) (h2 : a ≠ 122) : q_upd (q_yM M x) a i v = q_yM (q_upd M a i v) x := by
  funext b j
  by_cases e : b = a ∧ j = i
  · obtain ⟨rfl, rfl⟩ := e
    rw [q_upd_s, ry_n h h2, q_upd_s]
  · rw [q_upd_n (by omega)]
    unfold q_yM
    by_cases k1 : b = 121
    · rw [if_pos k1, if_pos k1]
      split
      · rfl
      · rw [q_upd_n (by omega)]
    · rw [if_neg k1, if_neg k1]
      by_cases k2 : b = 122
      · rw [if_pos k2, if_pos k2]
        split
        · rfl
        · rw [q_upd_n (by omega)]
      · rw [if_neg k2, if_neg k2, q_upd_n (by omega)]
end
section
/-! THE MODEL: what stays -/
/-- nothing outside the model changes, nor the year, nor what the image keeps of it -/
def q_mfr (M M2 : q_M) : Prop := ∀ a i, (a < 100 ∨ 124 ≤ a ∨ (a = 100 ∧ (i = 5 ∨ i = 7 ∨ i = 11 ∨ i = 12)) ∨ (a = 109 ∧ (i = 1 ∨ i = 2)) ∨ a = 105 ∨ a = 114) → M2 a i = M a i
def q_mfw (M M2 : q_M) : Prop := ∀ a i, (a < 100 ∨ 124 ≤ a) → M2 a i = M a i
/-- a tape with k bytes more from s on -/
def F_tp (T : Nat → Int) (s : Nat) (v : Nat → Int) : Nat → Nat → Int
  | 0 => T
  | k + 1 => F_u (F_tp T s v k) (s + k) (v k)
def F_vs (a b c d e : Int) (k : Nat) : Int := if k = 0 then a else if k = 1 then b else if k = 2 then c else if k = 3 then d else e
theorem q_mfr_rf {M : q_M} : q_mfr M M := fun _ _ _ => rfl
theorem q_mfr_tr {M M2 M3 : q_M} (h : q_mfr M M2) (h2 : q_mfr M2 M3) : q_mfr M M3 := fun a i h3 => (h2 a i h3).trans (h a i h3)
theorem q_mfr_up {M M2 : q_M} {a i : Nat} {v : Int} (h : q_mfr M M2) (ha : 100 ≤ a) (ha2 : a < 124) (hc : ¬(a = 100 ∧ (i = 5 ∨ i = 7 ∨ i = 11 ∨ i = 12)) ∧ ¬(a = 109 ∧ (i = 1 ∨ i = 2)) ∧ a ≠ 105 ∧ a ≠ 114 := by omega) : q_mfr M (q_upd M2 a i v) := fun b j hb => (q_upd_n (by omega)).trans (h b j hb)
theorem q_mfr_mq {M M2 : q_M} (h : q_mq M M2) : q_mfr M M2 := fun a i ha => h a i (by omega) (by omega)
/-- the image's numbers -/
def q_img (tm : Nat) (M : q_M) : Prop := (∀ i, i < 5 → 0 ≤ M 108 (3 * i) ∧ M 108 (3 * i) ≤ 99) ∧ (∀ i, i < 5 → 0 ≤ M 108 (3 * i + 1) ∧ M 108 (3 * i + 1) ≤ 99) ∧ (∀ i, i < 5 → -1 ≤ M 108 (3 * i + 2) ∧ M 108 (3 * i + 2) ≤ 4) ∧
  (∀ i, i < 5 → 0 ≤ M 108 (15 + 4 * i) ∧ M 108 (15 + 4 * i) ≤ 99) ∧ (∀ i, i < 5 → 0 ≤ M 108 (15 + (4 * i + 1)) ∧ M 108 (15 + (4 * i + 1)) ≤ 5) ∧ (∀ i, i < 5 → 0 ≤ M 108 (15 + (4 * i + 2)) ∧ M 108 (15 + (4 * i + 2)) ≤ 99) ∧ (∀ i, i < 5 → 0 ≤ M 108 (15 + (4 * i + 3)) ∧ M 108 (15 + (4 * i + 3)) ≤ 99) ∧
  (0 ≤ M 109 0 ∧ M 109 0 ≤ 5) ∧ (0 ≤ M 109 1 ∧ M 109 1 ≤ 999) ∧ (0 ≤ M 109 2 ∧ M 109 2 < tm)
def q_MI (Vt : Nat → Nat → (Nat → Int) → Int) (tm : Nat) (M : q_M) : Prop := q_mb M ∧ M 100 5 ≤ 999 ∧ (∀ b, b < 5 → M 103 (4 * b + 1) ≤ 5) ∧ (∀ s, s < 4 → 0 ≤ M 111 s ∧ M 111 s ≤ 40) ∧ q_mtx Vt tm M ∧ (0 ≤ M 100 11 ∧ M 100 11 < tm) ∧ (0 ≤ M 100 7 ∧ M 100 7 ≤ 160) ∧ q_img tm M ∧ (M 100 12 = 0 ∨ M 100 12 = 1)
def q_rel (a i : Nat) : Prop := (a = 100 ∧ (i = 0 ∨ i = 5 ∨ i = 7 ∨ i = 10 ∨ i = 11 ∨ i = 12)) ∨ (101 ≤ a ∧ a ≤ 104) ∨ (106 ≤ a ∧ a ≤ 109) ∨ a = 111
theorem q_img_same {tm : Nat} {M M2 : q_M} (h : ∀ a i, a = 108 ∨ a = 109 → M2 a i = M a i) (hI : q_img tm M) : q_img tm M2 := by
  unfold q_img at hI ⊢
  simp only [fun i => h 108 i (Or.inl rfl), fun i => h 109 i (Or.inr rfl)]
  exact hI
theorem q_MI_same {Vt : Nat → Nat → (Nat → Int) → Int} {tm : Nat} {M M2 : q_M} (h : ∀ a i, q_rel a i → M2 a i = M a i) (hI : q_MI Vt tm M) : q_MI Vt tm M2 := by
  obtain ⟨h1, h2, h3, h4, h5, h6, h7, h8, h9⟩ := hI
  unfold q_rel at h
  refine ⟨q_mb_same (fun a i ha => h a i (by omega)) h1, by rw [h 100 5 (by omega)]; exact h2, fun b hb => by rw [h 103 _ (by omega)]; exact h3 b hb, fun s hs => by rw [h 111 _ (by omega)]; exact h4 s hs, q_mtx_mq (fun a i ha => h a i (by omega)) h5, by rw [h 100 11 (by omega)]; exact h6, by rw [h 100 7 (by omega)]; exact h7, q_img_same (fun a i ha => h a i (by omega)) h8, by rw [h 100 12 (by omega)]; exact h9⟩
theorem q_MI_mq {Vt : Nat → Nat → (Nat → Int) → Int} {tm : Nat} {M M2 : q_M} (h : q_mq M M2) (hI : q_MI Vt tm M) : q_MI Vt tm M2 := q_MI_same (fun a i ha => by unfold q_rel at ha; exact h a i (by omega) (by omega)) hI
/-- a cell that nothing of this speaks of -/
theorem q_MI_up {Vt : Nat → Nat → (Nat → Int) → Int} {tm a i : Nat} {v : Int} {M : q_M} (hI : q_MI Vt tm M) (h : ¬q_rel a i) : q_MI Vt tm (q_upd M a i v) := q_MI_same (fun b j hb => q_upd_n (by
  by_cases e : b = a
  · refine Or.inr (fun e2 => h ?_)
    rw [← e, ← e2]
    exact hb
  · exact Or.inl e)) hI
/-- a cell of the model's world -/
theorem q_MI_upW {Vt : Nat → Nat → (Nat → Int) → Int} {tm a i : Nat} {v : Int} {M : q_M} (hI : q_MI Vt tm M) (h : q_okv a i v) (hr : a = 103 → i % 4 = 1 → v ≤ 5) (hy : a = 100 → i = 5 ∧ v ≤ 999) (ha : a ≤ 104) : q_MI Vt tm (q_upd M a i v) := by
  obtain ⟨h1, h2, h3, h4, h5, h6, h7, h8, h9⟩ := hI
  refine ⟨q_mb_up h1 h, ?_, fun b hb => ?_, fun s hs => by rw [q_upd_n (by omega)]; exact h4 s hs, q_mtx_mq (fun b j hb => q_upd_n (by omega)) h5, by rw [q_upd_n (by omega)]; exact h6, by rw [q_upd_n (by omega)]; exact h7, q_img_same (fun b j hb => q_upd_n (by omega)) h8, by rw [q_upd_n (by omega)]; exact h9⟩
  · rcases q_upd_key (M := M) (a := a) (i := i) (v := v) 100 5 with e | ⟨e1, e2, e3⟩
    · rw [e]; exact h2
    · rw [e3]; exact (hy e1.symm).2
  · rcases q_upd_key (M := M) (a := a) (i := i) (v := v) 103 (4 * b + 1) with e | ⟨e1, e2, e3⟩
    · rw [e]; exact h3 b hb
    · rw [e3]; exact hr e1.symm (by omega)
/-- the law that stands -/
def q_Vr (Vt : Nat → Nat → (Nat → Int) → Int) (M : q_M) : Nat → (Nat → Int) → Int := Vt (M 100 11).toNat
theorem q_MI_mi {Vt : Nat → Nat → (Nat → Int) → Int} {tm : Nat} {M : q_M} (hI : q_MI Vt tm M) : q_mi (q_Vr Vt M) M := by
  obtain ⟨h1, h2, h3, h4, h5, h6, h7, h8, h9⟩ := hI
  have hx := h5.2.2.2 (M 100 11).toNat (by omega)
  exact ⟨q_ml_rule h1 hx.1 hx.2 (by omega), h2, h4⟩
theorem mp_isByte {d : Nat} {g : q_G} {M : q_M} {p : Int} {Q : Option q_V → q_G → q_M → Prop} (h1 : 0 ≤ p ∧ p ≤ 255 → Q (some (qI 1)) g M) (h2 : ¬(0 ≤ p ∧ p ≤ 255) → Q (some (qI 0)) g M) : q_S 1 (d + 1) 121 [qI p] g M Q := by
  rw [s_X6_isByte]
  by_cases c : 0 ≤ p ∧ p ≤ 255
  · simp (disch := omega) only [b_X6_isByte_0, x_loadI_0, x_iconst, x_ret1_0, x_ret1_1, q_isL_I, q_isL_R, q_isL_S, true_and, and_true, and_self, List.length_nil, List.length_cons, Nat.zero_add, x_K, x_Kn, Int.reduceToNat, Nat.reduceAdd, Nat.reduceMul, Nat.reduceLeDiff, Nat.reduceLT, Nat.zero_le, Int.reduceAdd, Int.reduceSub, Int.reduceMul, Int.reduceNeg, q_add_e, q_sub_e, q_mul_e, q_neg_e, q_upd_s, q_upd_n, zr_shr0, zr_shr1, zr_shr2, zr_shr3, zr_shr4, zr_and, zr_dyn8, zr_or, zr_shl, q_cpy_n, y_cpy26, c_X6_in, mp_in, c, and_self, if_true]
    exact h1 c
  · simp (disch := omega) only [b_X6_isByte_0, x_loadI_0, x_iconst, x_ret1_0, x_ret1_1, q_isL_I, q_isL_R, q_isL_S, true_and, and_true, and_self, List.length_nil, List.length_cons, Nat.zero_add, x_K, x_Kn, Int.reduceToNat, Nat.reduceAdd, Nat.reduceMul, Nat.reduceLeDiff, Nat.reduceLT, Nat.zero_le, Int.reduceAdd, Int.reduceSub, Int.reduceMul, Int.reduceNeg, q_add_e, q_sub_e, q_mul_e, q_neg_e, q_upd_s, q_upd_n, zr_shr0, zr_shr1, zr_shr2, zr_shr3, zr_shr4, zr_and, zr_dyn8, zr_or, zr_shl, q_cpy_n, y_cpy26, c_X6_in, mp_in, c, if_false]
    exact h2 c
theorem mp_isUnder {d : Nat} {g : q_G} {M : q_M} {k o : Int} (Q : Option q_V → q_G → q_M → Prop) : q_S 1 d 197 [qI k, qI o] g M Q = Q (some (qI (if F_und k o = true then 1 else 0))) g M := by
  refine q_S_eq (fun Q hq => ?_) Q
  rw [s_X6_isUnder]
  unfold F_und at hq
  by_cases c0 : o = 0
  · rw [if_pos (decide_eq_true (by omega))] at hq
    simp (disch := omega) only [b_X6_isUnder_0, x_loadI_1, y_if_eq_t, y_if_eq_f, b_X6_isUnder_4, x_loadI_0, y_ic_eq_t, y_ic_eq_f, b_X6_isUnder_9, x_iconst, y_ic_ne_t, y_ic_ne_f, b_X6_isUnder_14, b_X6_isUnder_19, b_X6_isUnder_24, b_X6_isUnder_29, x_goto, b_X6_isUnder_33, b_X6_isUnder_34, x_ret1_0, x_ret1_1, q_isL_I, q_isL_R, q_isL_S, true_and, and_true, and_self, List.length_nil, List.length_cons, Nat.zero_add, x_K, x_Kn, Int.reduceToNat, Nat.reduceAdd, Nat.reduceMul, Nat.reduceLeDiff, Nat.reduceLT, Nat.zero_le, Int.reduceAdd, Int.reduceSub, Int.reduceMul, Int.reduceNeg, q_add_e, q_sub_e, q_mul_e, q_neg_e, q_upd_s, q_upd_n, zr_shr0, zr_shr1, zr_shr2, zr_shr3, zr_shr4, zr_and, zr_dyn8, zr_or, zr_shl, q_cpy_n, y_cpy26]
    exact hq
  · by_cases c1 : k = o
    · rw [if_pos (decide_eq_true (by omega))] at hq
      simp (disch := omega) only [b_X6_isUnder_0, x_loadI_1, y_if_eq_t, y_if_eq_f, b_X6_isUnder_4, x_loadI_0, y_ic_eq_t, y_ic_eq_f, b_X6_isUnder_9, x_iconst, y_ic_ne_t, y_ic_ne_f, b_X6_isUnder_14, b_X6_isUnder_19, b_X6_isUnder_24, b_X6_isUnder_29, x_goto, b_X6_isUnder_33, b_X6_isUnder_34, x_ret1_0, x_ret1_1, q_isL_I, q_isL_R, q_isL_S, true_and, and_true, and_self, List.length_nil, List.length_cons, Nat.zero_add, x_K, x_Kn, Int.reduceToNat, Nat.reduceAdd, Nat.reduceMul, Nat.reduceLeDiff, Nat.reduceLT, Nat.zero_le, Int.reduceAdd, Int.reduceSub, Int.reduceMul, Int.reduceNeg, q_add_e, q_sub_e, q_mul_e, q_neg_e, q_upd_s, q_upd_n, zr_shr0, zr_shr1, zr_shr2, zr_shr3, zr_shr4, zr_and, zr_dyn8, zr_or, zr_shl, q_cpy_n, y_cpy26]
      exact hq
    · by_cases c2 : o = 1 ∧ k = 3
      · rw [if_pos (decide_eq_true (by omega))] at hq
        simp (disch := omega) only [b_X6_isUnder_0, x_loadI_1, y_if_eq_t, y_if_eq_f, b_X6_isUnder_4, x_loadI_0, y_ic_eq_t, y_ic_eq_f, b_X6_isUnder_9, x_iconst, y_ic_ne_t, y_ic_ne_f, b_X6_isUnder_14, b_X6_isUnder_19, b_X6_isUnder_24, b_X6_isUnder_29, x_goto, b_X6_isUnder_33, b_X6_isUnder_34, x_ret1_0, x_ret1_1, q_isL_I, q_isL_R, q_isL_S, true_and, and_true, and_self, List.length_nil, List.length_cons, Nat.zero_add, x_K, x_Kn, Int.reduceToNat, Nat.reduceAdd, Nat.reduceMul, Nat.reduceLeDiff, Nat.reduceLT, Nat.zero_le, Int.reduceAdd, Int.reduceSub, Int.reduceMul, Int.reduceNeg, q_add_e, q_sub_e, q_mul_e, q_neg_e, q_upd_s, q_upd_n, zr_shr0, zr_shr1, zr_shr2, zr_shr3, zr_shr4, zr_and, zr_dyn8, zr_or, zr_shl, q_cpy_n, y_cpy26]
        exact hq
      · by_cases c3 : o = 2 ∧ k = 4
        · rw [if_pos (decide_eq_true (by omega))] at hq
          simp (disch := omega) only [b_X6_isUnder_0, x_loadI_1, y_if_eq_t, y_if_eq_f, b_X6_isUnder_4, x_loadI_0, y_ic_eq_t, y_ic_eq_f, b_X6_isUnder_9, x_iconst, y_ic_ne_t, y_ic_ne_f, b_X6_isUnder_14, b_X6_isUnder_19, b_X6_isUnder_24, b_X6_isUnder_29, x_goto, b_X6_isUnder_33, b_X6_isUnder_34, x_ret1_0, x_ret1_1, q_isL_I, q_isL_R, q_isL_S, true_and, and_true, and_self, List.length_nil, List.length_cons, Nat.zero_add, x_K, x_Kn, Int.reduceToNat, Nat.reduceAdd, Nat.reduceMul, Nat.reduceLeDiff, Nat.reduceLT, Nat.zero_le, Int.reduceAdd, Int.reduceSub, Int.reduceMul, Int.reduceNeg, q_add_e, q_sub_e, q_mul_e, q_neg_e, q_upd_s, q_upd_n, zr_shr0, zr_shr1, zr_shr2, zr_shr3, zr_shr4, zr_and, zr_dyn8, zr_or, zr_shl, q_cpy_n, y_cpy26]
          exact hq
        · rw [if_neg (fun z => by have := of_decide_eq_true z; omega)] at hq
          by_cases c4 : o = 1
          · simp (disch := omega) only [b_X6_isUnder_0, x_loadI_1, y_if_eq_t, y_if_eq_f, b_X6_isUnder_4, x_loadI_0, y_ic_eq_t, y_ic_eq_f, b_X6_isUnder_9, x_iconst, y_ic_ne_t, y_ic_ne_f, b_X6_isUnder_14, b_X6_isUnder_19, b_X6_isUnder_24, b_X6_isUnder_29, x_goto, b_X6_isUnder_33, b_X6_isUnder_34, x_ret1_0, x_ret1_1, q_isL_I, q_isL_R, q_isL_S, true_and, and_true, and_self, List.length_nil, List.length_cons, Nat.zero_add, x_K, x_Kn, Int.reduceToNat, Nat.reduceAdd, Nat.reduceMul, Nat.reduceLeDiff, Nat.reduceLT, Nat.zero_le, Int.reduceAdd, Int.reduceSub, Int.reduceMul, Int.reduceNeg, q_add_e, q_sub_e, q_mul_e, q_neg_e, q_upd_s, q_upd_n, zr_shr0, zr_shr1, zr_shr2, zr_shr3, zr_shr4, zr_and, zr_dyn8, zr_or, zr_shl, q_cpy_n, y_cpy26]
            exact hq
          · by_cases c5 : o = 2
            · simp (disch := omega) only [b_X6_isUnder_0, x_loadI_1, y_if_eq_t, y_if_eq_f, b_X6_isUnder_4, x_loadI_0, y_ic_eq_t, y_ic_eq_f, b_X6_isUnder_9, x_iconst, y_ic_ne_t, y_ic_ne_f, b_X6_isUnder_14, b_X6_isUnder_19, b_X6_isUnder_24, b_X6_isUnder_29, x_goto, b_X6_isUnder_33, b_X6_isUnder_34, x_ret1_0, x_ret1_1, q_isL_I, q_isL_R, q_isL_S, true_and, and_true, and_self, List.length_nil, List.length_cons, Nat.zero_add, x_K, x_Kn, Int.reduceToNat, Nat.reduceAdd, Nat.reduceMul, Nat.reduceLeDiff, Nat.reduceLT, Nat.zero_le, Int.reduceAdd, Int.reduceSub, Int.reduceMul, Int.reduceNeg, q_add_e, q_sub_e, q_mul_e, q_neg_e, q_upd_s, q_upd_n, zr_shr0, zr_shr1, zr_shr2, zr_shr3, zr_shr4, zr_and, zr_dyn8, zr_or, zr_shl, q_cpy_n, y_cpy26]
              exact hq
            · simp (disch := omega) only [b_X6_isUnder_0, x_loadI_1, y_if_eq_t, y_if_eq_f, b_X6_isUnder_4, x_loadI_0, y_ic_eq_t, y_ic_eq_f, b_X6_isUnder_9, x_iconst, y_ic_ne_t, y_ic_ne_f, b_X6_isUnder_14, b_X6_isUnder_19, b_X6_isUnder_24, b_X6_isUnder_29, x_goto, b_X6_isUnder_33, b_X6_isUnder_34, x_ret1_0, x_ret1_1, q_isL_I, q_isL_R, q_isL_S, true_and, and_true, and_self, List.length_nil, List.length_cons, Nat.zero_add, x_K, x_Kn, Int.reduceToNat, Nat.reduceAdd, Nat.reduceMul, Nat.reduceLeDiff, Nat.reduceLT, Nat.zero_le, Int.reduceAdd, Int.reduceSub, Int.reduceMul, Int.reduceNeg, q_add_e, q_sub_e, q_mul_e, q_neg_e, q_upd_s, q_upd_n, zr_shr0, zr_shr1, zr_shr2, zr_shr3, zr_shr4, zr_and, zr_dyn8, zr_or, zr_shl, q_cpy_n, y_cpy26]
              exact hq
end
