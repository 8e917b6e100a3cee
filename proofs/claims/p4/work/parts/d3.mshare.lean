/-! THE MODEL: share, odds -/
def B_share (M : q_M) (part : Int) : Int := if (0 ≤ part ∧ part ≤ 1) ∧ 0 < (F_wt (fun i => M 104 (3 * i + 1)) (mIn M) (M 100 0).toNat).2 then B_low (F_wt (fun i => M 104 (3 * i + 1)) (mIn M) (M 100 0).toNat).1 (F_wt (fun i => M 104 (3 * i + 1)) (mIn M) (M 100 0).toNat).2 part else -4611686018427387904
theorem F_wt_cong {W W' f f' : Nat → Int} : ∀ n : Nat, (∀ k, k < n → W k = W' k) → (∀ k, k < n → f k = f' k) → F_wt W f n = F_wt W' f' n
  | 0, _, _ => rfl
  | n + 1, h1, h2 => by rw [F_wt, F_wt, F_wt_cong n (fun k hk => h1 k (by omega)) (fun k hk => h2 k (by omega)), h1 n (by omega), h2 n (by omega)]
theorem F_wt_le5 {W f : Nat → Int} {N : Nat} (h : ∀ i, i < N → 0 ≤ W i ∧ W i ≤ 99) : ∀ n : Nat, n ≤ N → 0 ≤ (F_wt W f n).1 ∧ (F_wt W f n).1 ≤ 99 * n ∧ 0 ≤ (F_wt W f n).2 ∧ (F_wt W f n).2 ≤ 99 * n
  | 0, _ => by rw [F_wt]; omega
  | n + 1, hn => by
    have h1 := F_wt_le5 (f := f) h n (by omega)
    have h2 := h n (by omega)
    rw [F_wt]
    refine ⟨?_, ?_, ?_, ?_⟩ <;> (try split) <;> omega
set_option maxHeartbeats 4000000 in
theorem mp_share {d : Nat} {g : q_G} {M : q_M} {part : Int} {Q : Option q_V → q_G → q_M → Prop} (hb : q_mb M) (hq : Q (some (qL (B_share M part))) g M) : q_S 1 (d + 1) 178 [qR 6 100, qI part] g M Q := by
  obtain ⟨r0, r1, r2, r3, r4, r5, r6, r7, r8, r9, ra⟩ := hb
  have hW : ∀ i, i < 5 → 0 ≤ (fun i => M 104 (3 * i + 1)) i ∧ (fun i => M 104 (3 * i + 1)) i ≤ 99 := r5
  rw [s_X6_share]
  unfold B_share at hq
  have loop : ∀ j k : Nat, k + j = (M 100 0).toNat → q_T 1 (d + 1) qP_X6_share 7 [] [qR 6 100, qI part, qI (F_wt (fun i => M 104 (3 * i + 1)) (mIn M) k).1, qI (F_wt (fun i => M 104 (3 * i + 1)) (mIn M) k).2, qI k] [] g M Q := by
    intro j
    induction j with
    | zero =>
      intro k hk
      have hb := F_wt_le5 (f := mIn M) hW k (by omega)
      have e : k = (M 100 0).toNat := by omega
      rw [← e] at hq
      rw [b_X6_share_7]
      by_cases c1 : 0 ≤ part ∧ part ≤ 1
      · by_cases c2 : 0 < (F_wt (fun i => M 104 (3 * i + 1)) (mIn M) k).2
        · rw [if_pos ⟨c1, c2⟩] at hq
          have low : ∀ (nx : Nat) (ops : List Instr) (ls st : List q_V), q_T 1 (d + 1) qP_X6_share nx ops ls (qL (B_low (F_wt (fun i => M 104 (3 * i + 1)) (mIn M) k).1 (F_wt (fun i => M 104 (3 * i + 1)) (mIn M) k).2 part) :: st) g M Q → q_S 1 d 177 [qL (F_wt (fun i => M 104 (3 * i + 1)) (mIn M) k).1, qL (F_wt (fun i => M 104 (3 * i + 1)) (mIn M) k).2, qI part] g M (q_K 1 (d + 1) qP_X6_share nx ops ls st Q) := fun nx ops ls st h => mp_low (by omega) (by omega) (by omega) (by omega) c1 h
          simp (disch := omega) only [b_X6_share_0, x_iconst, x_storeI_2, x_storeI_3, x_storeI_4, x_loadI_4, x_loadR_0, x_loadS_0, f_6_0, y_ic_ge_t, y_ic_ge_f, b_X6_share_16, x_loadI_3, f_6_4, x_imul, x_iadd, y_iald_35, x_loadI_2, y_ic_ne_t, y_ic_ne_f, b_X6_share_46, x_goto, b_X6_share_50, b_X6_share_61, x_iinc_4, b_X6_share_69, x_loadI_1, y_if_eq_t, y_if_eq_f, b_X6_share_78, y_if_le_t, y_if_le_f, b_X6_share_82, x_i2l, b_X6_share_93, x_lconst, b_X6_share_96, x_lret, q_isL_I, q_isL_R, q_isL_S, true_and, and_true, and_self, List.length_nil, List.length_cons, Nat.zero_add, x_K, x_Kn, Int.reduceToNat, Nat.reduceAdd, Nat.reduceMul, Nat.reduceLeDiff, Nat.reduceLT, Nat.zero_le, Int.reduceAdd, Int.reduceSub, Int.reduceMul, Int.reduceNeg, q_add_e, q_sub_e, q_mul_e, q_neg_e, q_upd_s, q_upd_n, zr_shr0, zr_shr1, zr_shr2, zr_shr3, zr_shr4, zr_and, zr_dyn8, zr_or, zr_shl, q_cpy_n, y_cpy26, c_X6_in, mp_in, c1, and_self, if_true, q_i2l_e, c_X6_lowest]
          refine low _ _ _ _ ?_
          simp (disch := omega) only [b_X6_share_0, x_iconst, x_storeI_2, x_storeI_3, x_storeI_4, x_loadI_4, x_loadR_0, x_loadS_0, f_6_0, y_ic_ge_t, y_ic_ge_f, b_X6_share_16, x_loadI_3, f_6_4, x_imul, x_iadd, y_iald_35, x_loadI_2, y_ic_ne_t, y_ic_ne_f, b_X6_share_46, x_goto, b_X6_share_50, b_X6_share_61, x_iinc_4, b_X6_share_69, x_loadI_1, y_if_eq_t, y_if_eq_f, b_X6_share_78, y_if_le_t, y_if_le_f, b_X6_share_82, x_i2l, b_X6_share_93, x_lconst, b_X6_share_96, x_lret, q_isL_I, q_isL_R, q_isL_S, true_and, and_true, and_self, List.length_nil, List.length_cons, Nat.zero_add, x_K, x_Kn, Int.reduceToNat, Nat.reduceAdd, Nat.reduceMul, Nat.reduceLeDiff, Nat.reduceLT, Nat.zero_le, Int.reduceAdd, Int.reduceSub, Int.reduceMul, Int.reduceNeg, q_add_e, q_sub_e, q_mul_e, q_neg_e, q_upd_s, q_upd_n, zr_shr0, zr_shr1, zr_shr2, zr_shr3, zr_shr4, zr_and, zr_dyn8, zr_or, zr_shl, q_cpy_n, y_cpy26]
          exact hq
        · rw [if_neg (fun z => c2 z.2)] at hq
          simp (disch := omega) only [b_X6_share_0, x_iconst, x_storeI_2, x_storeI_3, x_storeI_4, x_loadI_4, x_loadR_0, x_loadS_0, f_6_0, y_ic_ge_t, y_ic_ge_f, b_X6_share_16, x_loadI_3, f_6_4, x_imul, x_iadd, y_iald_35, x_loadI_2, y_ic_ne_t, y_ic_ne_f, b_X6_share_46, x_goto, b_X6_share_50, b_X6_share_61, x_iinc_4, b_X6_share_69, x_loadI_1, y_if_eq_t, y_if_eq_f, b_X6_share_78, y_if_le_t, y_if_le_f, b_X6_share_82, x_i2l, b_X6_share_93, x_lconst, b_X6_share_96, x_lret, q_isL_I, q_isL_R, q_isL_S, true_and, and_true, and_self, List.length_nil, List.length_cons, Nat.zero_add, x_K, x_Kn, Int.reduceToNat, Nat.reduceAdd, Nat.reduceMul, Nat.reduceLeDiff, Nat.reduceLT, Nat.zero_le, Int.reduceAdd, Int.reduceSub, Int.reduceMul, Int.reduceNeg, q_add_e, q_sub_e, q_mul_e, q_neg_e, q_upd_s, q_upd_n, zr_shr0, zr_shr1, zr_shr2, zr_shr3, zr_shr4, zr_and, zr_dyn8, zr_or, zr_shl, q_cpy_n, y_cpy26, c_X6_in, mp_in, c1, and_self, if_true]
          exact hq
      · rw [if_neg (fun z => c1 z.1)] at hq
        simp (disch := omega) only [b_X6_share_0, x_iconst, x_storeI_2, x_storeI_3, x_storeI_4, x_loadI_4, x_loadR_0, x_loadS_0, f_6_0, y_ic_ge_t, y_ic_ge_f, b_X6_share_16, x_loadI_3, f_6_4, x_imul, x_iadd, y_iald_35, x_loadI_2, y_ic_ne_t, y_ic_ne_f, b_X6_share_46, x_goto, b_X6_share_50, b_X6_share_61, x_iinc_4, b_X6_share_69, x_loadI_1, y_if_eq_t, y_if_eq_f, b_X6_share_78, y_if_le_t, y_if_le_f, b_X6_share_82, x_i2l, b_X6_share_93, x_lconst, b_X6_share_96, x_lret, q_isL_I, q_isL_R, q_isL_S, true_and, and_true, and_self, List.length_nil, List.length_cons, Nat.zero_add, x_K, x_Kn, Int.reduceToNat, Nat.reduceAdd, Nat.reduceMul, Nat.reduceLeDiff, Nat.reduceLT, Nat.zero_le, Int.reduceAdd, Int.reduceSub, Int.reduceMul, Int.reduceNeg, q_add_e, q_sub_e, q_mul_e, q_neg_e, q_upd_s, q_upd_n, zr_shr0, zr_shr1, zr_shr2, zr_shr3, zr_shr4, zr_and, zr_dyn8, zr_or, zr_shl, q_cpy_n, y_cpy26, c_X6_in, mp_in, c1, if_false]
        exact hq
    | succ j ih =>
      intro k hk
      have hb := F_wt_le5 (f := mIn M) hW k (by omega)
      have hWk := r5 k (by omega)
      have hik := r6 k (by omega)
      have ih2 := ih (k + 1) (by omega)
      rw [F_wt] at ih2
      rw [b_X6_share_7]
      by_cases c : M 104 (3 * k + 2) = -1
      · rw [if_pos (show mIn M k = 5 from if_pos c)] at ih2
        simp (disch := omega) only [b_X6_share_0, x_iconst, x_storeI_2, x_storeI_3, x_storeI_4, x_loadI_4, x_loadR_0, x_loadS_0, f_6_0, y_ic_ge_t, y_ic_ge_f, b_X6_share_16, x_loadI_3, f_6_4, x_imul, x_iadd, y_iald_35, x_loadI_2, y_ic_ne_t, y_ic_ne_f, b_X6_share_46, x_goto, b_X6_share_50, b_X6_share_61, x_iinc_4, b_X6_share_69, x_loadI_1, y_if_eq_t, y_if_eq_f, b_X6_share_78, y_if_le_t, y_if_le_f, b_X6_share_82, x_i2l, b_X6_share_93, x_lconst, b_X6_share_96, x_lret, q_isL_I, q_isL_R, q_isL_S, true_and, and_true, and_self, List.length_nil, List.length_cons, Nat.zero_add, x_K, x_Kn, Int.reduceToNat, Nat.reduceAdd, Nat.reduceMul, Nat.reduceLeDiff, Nat.reduceLT, Nat.zero_le, Int.reduceAdd, Int.reduceSub, Int.reduceMul, Int.reduceNeg, q_add_e, q_sub_e, q_mul_e, q_neg_e, q_upd_s, q_upd_n, zr_shr0, zr_shr1, zr_shr2, zr_shr3, zr_shr4, zr_and, zr_dyn8, zr_or, zr_shl, q_cpy_n, y_cpy26, tn_31, tn_32]
        exact ih2
      · rw [if_neg (show ¬mIn M k = 5 by unfold mIn; rw [if_neg c]; omega)] at ih2
        simp (disch := omega) only [b_X6_share_0, x_iconst, x_storeI_2, x_storeI_3, x_storeI_4, x_loadI_4, x_loadR_0, x_loadS_0, f_6_0, y_ic_ge_t, y_ic_ge_f, b_X6_share_16, x_loadI_3, f_6_4, x_imul, x_iadd, y_iald_35, x_loadI_2, y_ic_ne_t, y_ic_ne_f, b_X6_share_46, x_goto, b_X6_share_50, b_X6_share_61, x_iinc_4, b_X6_share_69, x_loadI_1, y_if_eq_t, y_if_eq_f, b_X6_share_78, y_if_le_t, y_if_le_f, b_X6_share_82, x_i2l, b_X6_share_93, x_lconst, b_X6_share_96, x_lret, q_isL_I, q_isL_R, q_isL_S, true_and, and_true, and_self, List.length_nil, List.length_cons, Nat.zero_add, x_K, x_Kn, Int.reduceToNat, Nat.reduceAdd, Nat.reduceMul, Nat.reduceLeDiff, Nat.reduceLT, Nat.zero_le, Int.reduceAdd, Int.reduceSub, Int.reduceMul, Int.reduceNeg, q_add_e, q_sub_e, q_mul_e, q_neg_e, q_upd_s, q_upd_n, zr_shr0, zr_shr1, zr_shr2, zr_shr3, zr_shr4, zr_and, zr_dyn8, zr_or, zr_shl, q_cpy_n, y_cpy26, tn_31, tn_32]
        exact ih2
  simp (disch := omega) only [b_X6_share_0, x_iconst, x_storeI_2, x_storeI_3, x_storeI_4, x_loadI_4, x_loadR_0, x_loadS_0, f_6_0, y_ic_ge_t, y_ic_ge_f, b_X6_share_16, x_loadI_3, f_6_4, x_imul, x_iadd, y_iald_35, x_loadI_2, y_ic_ne_t, y_ic_ne_f, b_X6_share_46, x_goto, b_X6_share_50, b_X6_share_61, x_iinc_4, b_X6_share_69, x_loadI_1, y_if_eq_t, y_if_eq_f, b_X6_share_78, y_if_le_t, y_if_le_f, b_X6_share_82, x_i2l, b_X6_share_93, x_lconst, b_X6_share_96, x_lret, q_isL_I, q_isL_R, q_isL_S, true_and, and_true, and_self, List.length_nil, List.length_cons, Nat.zero_add, x_K, x_Kn, Int.reduceToNat, Nat.reduceAdd, Nat.reduceMul, Nat.reduceLeDiff, Nat.reduceLT, Nat.zero_le, Int.reduceAdd, Int.reduceSub, Int.reduceMul, Int.reduceNeg, q_add_e, q_sub_e, q_mul_e, q_neg_e, q_upd_s, q_upd_n, zr_shr0, zr_shr1, zr_shr2, zr_shr3, zr_shr4, zr_and, zr_dyn8, zr_or, zr_shl, q_cpy_n, y_cpy26]
  exact loop (M 100 0).toNat 0 (by omega)
def G_odd (V : Nat → (Nat → Int) → Int) (S : q_M) (seed most : Int) : Nat → Int
  | 0 => 0
  | k + 1 => G_odd V S seed most k + (if F_cnt ((G_wth V S (seed + k) 8).2 4) 5 (S 9 0).toNat ≤ most then 1 else 0)
theorem G_odd_le {V : Nat → (Nat → Int) → Int} {S : q_M} {seed most : Int} : ∀ k : Nat, 0 ≤ G_odd V S seed most k ∧ G_odd V S seed most k ≤ k
  | 0 => by rw [G_odd]; omega
  | k + 1 => by
    have h := G_odd_le (V := V) (S := S) (seed := seed) (most := most) k
    rw [G_odd]
    split <;> omega
def B_odds (V : Nat → (Nat → Int) → Int) (S : q_M) (seed seeds most part : Int) : Int := if ¬((0 ≤ seed ∧ seed ≤ 99999) ∧ (1 ≤ seeds ∧ seeds ≤ 40) ∧ (0 ≤ most ∧ most ≤ 5) ∧ (0 ≤ part ∧ part ≤ 1)) then -4611686018427387904 else B_low (G_odd V S seed most seeds.toNat) seeds part
set_option maxHeartbeats 4000000 in
theorem mp_odds {V : Nat → (Nat → Int) → Int} {d : Nat} {g : q_G} {M : q_M} {seed seeds most part : Int} {Q : Option q_V → q_G → q_M → Prop} (C : q_mi V M) (hq : ∀ M2 : q_M, q_mq M M2 → Q (some (qL (B_odds V (mW M) seed seeds most part))) g M2) : q_S 1 (d + 9) 190 [qR 6 100, qI seed, qI seeds, qI most, qI part] g M Q := by
  rw [s_X6_odds]
  unfold B_odds at hq
  by_cases c1 : 0 ≤ seed ∧ seed ≤ 99999
  · by_cases c2 : 1 ≤ seeds ∧ seeds ≤ 40
    · by_cases c3 : 0 ≤ most ∧ most ≤ 5
      · by_cases c4 : 0 ≤ part ∧ part ≤ 1
        · rw [if_neg (fun z => z ⟨c1, c2, c3, c4⟩)] at hq
          have loop : ∀ j k : Nat, (k : Int) + j = seeds → ∀ M1 : q_M, q_mq M M1 → q_T 1 (d + 9) qP_X6_odds 50 [] [qR 6 100, qI seed, qI seeds, qI most, qI part, qL (G_odd V (mW M) seed most k), qS 0, qI k] [] g M1 Q := by
            intro j
            induction j with
            | zero =>
              intro k hk M1 h1
              have hb := G_odd_le (V := V) (S := mW M) (seed := seed) (most := most) k
              have e : seeds.toNat = k := by omega
              rw [e] at hq
              have low : ∀ (nx : Nat) (ops : List Instr) (ls st : List q_V), q_T 1 (d + 9) qP_X6_odds nx ops ls (qL (B_low (G_odd V (mW M) seed most k) seeds part) :: st) g M1 Q → q_S 1 (d + 8) 177 [qL (G_odd V (mW M) seed most k), qL seeds, qI part] g M1 (q_K 1 (d + 9) qP_X6_odds nx ops ls st Q) := fun nx ops ls st h => mp_low (by omega) (by omega) (by omega) (by omega) c4 h
              rw [b_X6_odds_50]
              simp (disch := omega) only [b_X6_odds_0, x_loadI_1, x_iconst, y_if_eq_t, y_if_eq_f, b_X6_odds_11, x_loadI_2, b_X6_odds_21, x_loadI_3, b_X6_odds_30, x_loadI_4, y_if_ne_t, y_if_ne_f, b_X6_odds_40, x_lconst, x_lret, b_X6_odds_44, x_storeL_5, x_storeI_7, x_loadI_7, y_ic_ge_t, y_ic_ge_f, b_X6_odds_56, x_loadR_0, x_loadS_0, x_iadd, x_popI, x_popR, x_loadL_5, f_6_36, y_ic_gt_t, y_ic_gt_f, b_X6_odds_75, x_goto, b_X6_odds_79, b_X6_odds_80, x_ladd, x_iinc_7, b_X6_odds_89, x_i2l, q_isL_I, q_isL_R, q_isL_S, true_and, and_true, and_self, List.length_nil, List.length_cons, Nat.zero_add, x_K, x_Kn, Int.reduceToNat, Nat.reduceAdd, Nat.reduceMul, Nat.reduceLeDiff, Nat.reduceLT, Nat.zero_le, Int.reduceAdd, Int.reduceSub, Int.reduceMul, Int.reduceNeg, q_add_e, q_sub_e, q_mul_e, q_neg_e, q_upd_s, q_upd_n, zr_shr0, zr_shr1, zr_shr2, zr_shr3, zr_shr4, zr_and, zr_dyn8, zr_or, zr_shl, q_cpy_n, y_cpy26, q_i2l_e, c_X6_lowest]
              refine low _ _ _ _ ?_
              simp (disch := omega) only [b_X6_odds_0, x_loadI_1, x_iconst, y_if_eq_t, y_if_eq_f, b_X6_odds_11, x_loadI_2, b_X6_odds_21, x_loadI_3, b_X6_odds_30, x_loadI_4, y_if_ne_t, y_if_ne_f, b_X6_odds_40, x_lconst, x_lret, b_X6_odds_44, x_storeL_5, x_storeI_7, x_loadI_7, y_ic_ge_t, y_ic_ge_f, b_X6_odds_56, x_loadR_0, x_loadS_0, x_iadd, x_popI, x_popR, x_loadL_5, f_6_36, y_ic_gt_t, y_ic_gt_f, b_X6_odds_75, x_goto, b_X6_odds_79, b_X6_odds_80, x_ladd, x_iinc_7, b_X6_odds_89, x_i2l, q_isL_I, q_isL_R, q_isL_S, true_and, and_true, and_self, List.length_nil, List.length_cons, Nat.zero_add, x_K, x_Kn, Int.reduceToNat, Nat.reduceAdd, Nat.reduceMul, Nat.reduceLeDiff, Nat.reduceLT, Nat.zero_le, Int.reduceAdd, Int.reduceSub, Int.reduceMul, Int.reduceNeg, q_add_e, q_sub_e, q_mul_e, q_neg_e, q_upd_s, q_upd_n, zr_shr0, zr_shr1, zr_shr2, zr_shr3, zr_shr4, zr_and, zr_dyn8, zr_or, zr_shl, q_cpy_n, y_cpy26]
              exact hq M1 h1
            | succ j ih =>
              intro k hk M1 h1
              have hb := G_odd_le (V := V) (S := mW M) (seed := seed) (most := most) k
              have ih2 := ih (k + 1) (by omega)
              rw [G_odd, mW_90] at ih2
              rw [b_X6_odds_50]
              simp (disch := omega) only [b_X6_odds_0, x_loadI_1, x_iconst, y_if_eq_t, y_if_eq_f, b_X6_odds_11, x_loadI_2, b_X6_odds_21, x_loadI_3, b_X6_odds_30, x_loadI_4, y_if_ne_t, y_if_ne_f, b_X6_odds_40, x_lconst, x_lret, b_X6_odds_44, x_storeL_5, x_storeI_7, x_loadI_7, y_ic_ge_t, y_ic_ge_f, b_X6_odds_56, x_loadR_0, x_loadS_0, x_iadd, x_popI, x_popR, x_loadL_5, f_6_36, y_ic_gt_t, y_ic_gt_f, b_X6_odds_75, x_goto, b_X6_odds_79, b_X6_odds_80, x_ladd, x_iinc_7, b_X6_odds_89, x_i2l, q_isL_I, q_isL_R, q_isL_S, true_and, and_true, and_self, List.length_nil, List.length_cons, Nat.zero_add, x_K, x_Kn, Int.reduceToNat, Nat.reduceAdd, Nat.reduceMul, Nat.reduceLeDiff, Nat.reduceLT, Nat.zero_le, Int.reduceAdd, Int.reduceSub, Int.reduceMul, Int.reduceNeg, q_add_e, q_sub_e, q_mul_e, q_neg_e, q_upd_s, q_upd_n, zr_shr0, zr_shr1, zr_shr2, zr_shr3, zr_shr4, zr_and, zr_dyn8, zr_or, zr_shl, q_cpy_n, y_cpy26, c_X6_weather]
              refine mp_weather C h1 (by omega) (by omega) (fun M3 h3 e3 => ?_)
              by_cases c5 : F_cnt ((G_wth V (mW M) (seed + k) 8).2 4) 5 (M 100 0).toNat ≤ most
              · rw [if_pos c5] at ih2
                simp (disch := omega) only [b_X6_odds_0, x_loadI_1, x_iconst, y_if_eq_t, y_if_eq_f, b_X6_odds_11, x_loadI_2, b_X6_odds_21, x_loadI_3, b_X6_odds_30, x_loadI_4, y_if_ne_t, y_if_ne_f, b_X6_odds_40, x_lconst, x_lret, b_X6_odds_44, x_storeL_5, x_storeI_7, x_loadI_7, y_ic_ge_t, y_ic_ge_f, b_X6_odds_56, x_loadR_0, x_loadS_0, x_iadd, x_popI, x_popR, x_loadL_5, f_6_36, y_ic_gt_t, y_ic_gt_f, b_X6_odds_75, x_goto, b_X6_odds_79, b_X6_odds_80, x_ladd, x_iinc_7, b_X6_odds_89, x_i2l, q_isL_I, q_isL_R, q_isL_S, true_and, and_true, and_self, List.length_nil, List.length_cons, Nat.zero_add, x_K, x_Kn, Int.reduceToNat, Nat.reduceAdd, Nat.reduceMul, Nat.reduceLeDiff, Nat.reduceLT, Nat.zero_le, Int.reduceAdd, Int.reduceSub, Int.reduceMul, Int.reduceNeg, q_add_e, q_sub_e, q_mul_e, q_neg_e, q_upd_s, q_upd_n, zr_shr0, zr_shr1, zr_shr2, zr_shr3, zr_shr4, zr_and, zr_dyn8, zr_or, zr_shl, q_cpy_n, y_cpy26, e3, q_ladd_e]
                exact ih2 M3 h3
              · rw [if_neg c5] at ih2
                simp (disch := omega) only [b_X6_odds_0, x_loadI_1, x_iconst, y_if_eq_t, y_if_eq_f, b_X6_odds_11, x_loadI_2, b_X6_odds_21, x_loadI_3, b_X6_odds_30, x_loadI_4, y_if_ne_t, y_if_ne_f, b_X6_odds_40, x_lconst, x_lret, b_X6_odds_44, x_storeL_5, x_storeI_7, x_loadI_7, y_ic_ge_t, y_ic_ge_f, b_X6_odds_56, x_loadR_0, x_loadS_0, x_iadd, x_popI, x_popR, x_loadL_5, f_6_36, y_ic_gt_t, y_ic_gt_f, b_X6_odds_75, x_goto, b_X6_odds_79, b_X6_odds_80, x_ladd, x_iinc_7, b_X6_odds_89, x_i2l, q_isL_I, q_isL_R, q_isL_S, true_and, and_true, and_self, List.length_nil, List.length_cons, Nat.zero_add, x_K, x_Kn, Int.reduceToNat, Nat.reduceAdd, Nat.reduceMul, Nat.reduceLeDiff, Nat.reduceLT, Nat.zero_le, Int.reduceAdd, Int.reduceSub, Int.reduceMul, Int.reduceNeg, q_add_e, q_sub_e, q_mul_e, q_neg_e, q_upd_s, q_upd_n, zr_shr0, zr_shr1, zr_shr2, zr_shr3, zr_shr4, zr_and, zr_dyn8, zr_or, zr_shl, q_cpy_n, y_cpy26, e3, q_ladd_e]
                exact ih2 M3 h3
          simp (disch := omega) only [b_X6_odds_0, x_loadI_1, x_iconst, y_if_eq_t, y_if_eq_f, b_X6_odds_11, x_loadI_2, b_X6_odds_21, x_loadI_3, b_X6_odds_30, x_loadI_4, y_if_ne_t, y_if_ne_f, b_X6_odds_40, x_lconst, x_lret, b_X6_odds_44, x_storeL_5, x_storeI_7, x_loadI_7, y_ic_ge_t, y_ic_ge_f, b_X6_odds_56, x_loadR_0, x_loadS_0, x_iadd, x_popI, x_popR, x_loadL_5, f_6_36, y_ic_gt_t, y_ic_gt_f, b_X6_odds_75, x_goto, b_X6_odds_79, b_X6_odds_80, x_ladd, x_iinc_7, b_X6_odds_89, x_i2l, q_isL_I, q_isL_R, q_isL_S, true_and, and_true, and_self, List.length_nil, List.length_cons, Nat.zero_add, x_K, x_Kn, Int.reduceToNat, Nat.reduceAdd, Nat.reduceMul, Nat.reduceLeDiff, Nat.reduceLT, Nat.zero_le, Int.reduceAdd, Int.reduceSub, Int.reduceMul, Int.reduceNeg, q_add_e, q_sub_e, q_mul_e, q_neg_e, q_upd_s, q_upd_n, zr_shr0, zr_shr1, zr_shr2, zr_shr3, zr_shr4, zr_and, zr_dyn8, zr_or, zr_shl, q_cpy_n, y_cpy26, c_X6_in, mp_in, c1, c2, c3, c4, and_self, if_true]
          exact loop seeds.toNat 0 (by omega) M q_mq_rf
        · rw [if_pos (fun z => c4 z.2.2.2)] at hq
          simp (disch := omega) only [b_X6_odds_0, x_loadI_1, x_iconst, y_if_eq_t, y_if_eq_f, b_X6_odds_11, x_loadI_2, b_X6_odds_21, x_loadI_3, b_X6_odds_30, x_loadI_4, y_if_ne_t, y_if_ne_f, b_X6_odds_40, x_lconst, x_lret, b_X6_odds_44, x_storeL_5, x_storeI_7, x_loadI_7, y_ic_ge_t, y_ic_ge_f, b_X6_odds_56, x_loadR_0, x_loadS_0, x_iadd, x_popI, x_popR, x_loadL_5, f_6_36, y_ic_gt_t, y_ic_gt_f, b_X6_odds_75, x_goto, b_X6_odds_79, b_X6_odds_80, x_ladd, x_iinc_7, b_X6_odds_89, x_i2l, q_isL_I, q_isL_R, q_isL_S, true_and, and_true, and_self, List.length_nil, List.length_cons, Nat.zero_add, x_K, x_Kn, Int.reduceToNat, Nat.reduceAdd, Nat.reduceMul, Nat.reduceLeDiff, Nat.reduceLT, Nat.zero_le, Int.reduceAdd, Int.reduceSub, Int.reduceMul, Int.reduceNeg, q_add_e, q_sub_e, q_mul_e, q_neg_e, q_upd_s, q_upd_n, zr_shr0, zr_shr1, zr_shr2, zr_shr3, zr_shr4, zr_and, zr_dyn8, zr_or, zr_shl, q_cpy_n, y_cpy26, c_X6_in, mp_in, c1, c2, c3, c4, and_self, if_true, if_false]
          exact hq M q_mq_rf
      · rw [if_pos (fun z => c3 z.2.2.1)] at hq
        simp (disch := omega) only [b_X6_odds_0, x_loadI_1, x_iconst, y_if_eq_t, y_if_eq_f, b_X6_odds_11, x_loadI_2, b_X6_odds_21, x_loadI_3, b_X6_odds_30, x_loadI_4, y_if_ne_t, y_if_ne_f, b_X6_odds_40, x_lconst, x_lret, b_X6_odds_44, x_storeL_5, x_storeI_7, x_loadI_7, y_ic_ge_t, y_ic_ge_f, b_X6_odds_56, x_loadR_0, x_loadS_0, x_iadd, x_popI, x_popR, x_loadL_5, f_6_36, y_ic_gt_t, y_ic_gt_f, b_X6_odds_75, x_goto, b_X6_odds_79, b_X6_odds_80, x_ladd, x_iinc_7, b_X6_odds_89, x_i2l, q_isL_I, q_isL_R, q_isL_S, true_and, and_true, and_self, List.length_nil, List.length_cons, Nat.zero_add, x_K, x_Kn, Int.reduceToNat, Nat.reduceAdd, Nat.reduceMul, Nat.reduceLeDiff, Nat.reduceLT, Nat.zero_le, Int.reduceAdd, Int.reduceSub, Int.reduceMul, Int.reduceNeg, q_add_e, q_sub_e, q_mul_e, q_neg_e, q_upd_s, q_upd_n, zr_shr0, zr_shr1, zr_shr2, zr_shr3, zr_shr4, zr_and, zr_dyn8, zr_or, zr_shl, q_cpy_n, y_cpy26, c_X6_in, mp_in, c1, c2, c3, and_self, if_true, if_false]
        exact hq M q_mq_rf
    · rw [if_pos (fun z => c2 z.2.1)] at hq
      simp (disch := omega) only [b_X6_odds_0, x_loadI_1, x_iconst, y_if_eq_t, y_if_eq_f, b_X6_odds_11, x_loadI_2, b_X6_odds_21, x_loadI_3, b_X6_odds_30, x_loadI_4, y_if_ne_t, y_if_ne_f, b_X6_odds_40, x_lconst, x_lret, b_X6_odds_44, x_storeL_5, x_storeI_7, x_loadI_7, y_ic_ge_t, y_ic_ge_f, b_X6_odds_56, x_loadR_0, x_loadS_0, x_iadd, x_popI, x_popR, x_loadL_5, f_6_36, y_ic_gt_t, y_ic_gt_f, b_X6_odds_75, x_goto, b_X6_odds_79, b_X6_odds_80, x_ladd, x_iinc_7, b_X6_odds_89, x_i2l, q_isL_I, q_isL_R, q_isL_S, true_and, and_true, and_self, List.length_nil, List.length_cons, Nat.zero_add, x_K, x_Kn, Int.reduceToNat, Nat.reduceAdd, Nat.reduceMul, Nat.reduceLeDiff, Nat.reduceLT, Nat.zero_le, Int.reduceAdd, Int.reduceSub, Int.reduceMul, Int.reduceNeg, q_add_e, q_sub_e, q_mul_e, q_neg_e, q_upd_s, q_upd_n, zr_shr0, zr_shr1, zr_shr2, zr_shr3, zr_shr4, zr_and, zr_dyn8, zr_or, zr_shl, q_cpy_n, y_cpy26, c_X6_in, mp_in, c1, c2, and_self, if_true, if_false]
      exact hq M q_mq_rf
  · rw [if_pos (fun z => c1 z.1)] at hq
    simp (disch := omega) only [b_X6_odds_0, x_loadI_1, x_iconst, y_if_eq_t, y_if_eq_f, b_X6_odds_11, x_loadI_2, b_X6_odds_21, x_loadI_3, b_X6_odds_30, x_loadI_4, y_if_ne_t, y_if_ne_f, b_X6_odds_40, x_lconst, x_lret, b_X6_odds_44, x_storeL_5, x_storeI_7, x_loadI_7, y_ic_ge_t, y_ic_ge_f, b_X6_odds_56, x_loadR_0, x_loadS_0, x_iadd, x_popI, x_popR, x_loadL_5, f_6_36, y_ic_gt_t, y_ic_gt_f, b_X6_odds_75, x_goto, b_X6_odds_79, b_X6_odds_80, x_ladd, x_iinc_7, b_X6_odds_89, x_i2l, q_isL_I, q_isL_R, q_isL_S, true_and, and_true, and_self, List.length_nil, List.length_cons, Nat.zero_add, x_K, x_Kn, Int.reduceToNat, Nat.reduceAdd, Nat.reduceMul, Nat.reduceLeDiff, Nat.reduceLT, Nat.zero_le, Int.reduceAdd, Int.reduceSub, Int.reduceMul, Int.reduceNeg, q_add_e, q_sub_e, q_mul_e, q_neg_e, q_upd_s, q_upd_n, zr_shr0, zr_shr1, zr_shr2, zr_shr3, zr_shr4, zr_and, zr_dyn8, zr_or, zr_shl, q_cpy_n, y_cpy26, c_X6_in, mp_in, c1, if_false]
    exact hq M q_mq_rf
