/-! THE MODEL: film -/
def q_flM (M : q_M) (s : Nat) (n : Int) (k : Nat) (f : Nat → Int) : q_M := fun a i => if a = 110 ∧ i = s then 0 else if a = 111 ∧ i = s then n else if a = 112 ∧ 40 * s ≤ i ∧ i < 40 * s + k then f (i - 40 * s) else M a i
theorem q_flM_n {M : q_M} {s k a i : Nat} {n : Int} {f : Nat → Int} (h1 : a ≠ 110) (h2 : a ≠ 111) (h3 : a ≠ 112) : q_flM M s n k f a i = M a i := by
  unfold q_flM
  rw [if_neg (fun z => h1 z.1), if_neg (fun z => h2 z.1), if_neg (fun z => h3 z.1)]
theorem q_flM_u {M : q_M} {s k : Nat} {n v w : Int} {f : Nat → Int} (h : f k = v) : q_upd (q_upd (q_flM M s n k f) 112 (40 * s + k) w) 112 (40 * s + k) v = q_flM M s n (k + 1) f := by
  funext a i
  by_cases c : a = 112 ∧ i = 40 * s + k
  · obtain ⟨rfl, rfl⟩ := c
    rw [q_upd_s]
    unfold q_flM
    rw [if_neg (by omega), if_neg (by omega), if_pos (by omega), show 40 * s + k - 40 * s = k by omega, h]
  · rw [q_upd_n (by omega), q_upd_n (by omega)]
    unfold q_flM
    by_cases c1 : a = 110 ∧ i = s
    · rw [if_pos c1, if_pos c1]
    · rw [if_neg c1, if_neg c1]
      by_cases c2 : a = 111 ∧ i = s
      · rw [if_pos c2, if_pos c2]
      · rw [if_neg c2, if_neg c2]
        by_cases c3 : a = 112 ∧ 40 * s ≤ i ∧ i < 40 * s + k
        · rw [if_pos c3, if_pos (by omega)]
        · rw [if_neg c3, if_neg (by omega)]
theorem q_upd_u {M : q_M} {a i : Nat} {v w : Int} : q_upd (q_upd M a i w) a i v = q_upd M a i v := by
  funext b j
  by_cases e : b = a ∧ j = i
  · obtain ⟨rfl, rfl⟩ := e
    rw [q_upd_s, q_upd_s]
  · rw [q_upd_n (by omega), q_upd_n (by omega), q_upd_n (by omega)]
theorem q_mt_upB {M M2 : q_M} {i : Nat} {v : Int} (h : q_mt M M2) : q_mt (q_upd M 112 i v) (q_upd M2 112 i v) := by
  obtain ⟨⟨k1, k2, k3⟩, h3⟩ := h
  refine ⟨⟨fun j hj => ?_, fun j hj => ?_, ?_⟩, fun x j q1 q2 q3 q4 => ?_⟩
  · rw [q_upd_n (by omega), q_upd_n (by omega)]
    exact k1 j hj
  · rw [q_upd_n (by omega), q_upd_n (by omega)]
    exact k2 j hj
  · rw [q_upd_n (by omega), q_upd_n (by omega)]
    exact k3
  · by_cases e : x = 112 ∧ j = i
    · obtain ⟨rfl, rfl⟩ := e
      rw [q_upd_s, q_upd_s]
    · rw [q_upd_n (by omega), q_upd_n (by omega)]
      exact h3 x j q1 q2 q3 q4
def G_flm (V : Nat → (Nat → Int) → Int) (S : q_M) (p n : Nat) : Nat → Int := fun i => if i < n then G_ys V S (i + 1) 2 p else 0
def B_film (M : q_M) (s p n : Int) : Int := if ¬(0 ≤ s ∧ s ≤ 3) then -2 else if ¬(0 ≤ p ∧ p ≤ M 100 0 - 1) then -5 else if ¬(0 ≤ n ∧ n ≤ 20) then -7 else n
def q_filmB (V : Nat → (Nat → Int) → Int) (M : q_M) (s p n : Int) : q_M := if (0 ≤ s ∧ s ≤ 3) ∧ (0 ≤ p ∧ p ≤ M 100 0 - 1) ∧ (0 ≤ n ∧ n ≤ 20) then q_flM M s.toNat n 40 (G_flm V (mW M) p.toNat n.toNat) else M
set_option maxHeartbeats 4000000 in
theorem mp_film {V : Nat → (Nat → Int) → Int} {d : Nat} {g : q_G} {M : q_M} {s p n : Int} {Q : Option q_V → q_G → q_M → Prop} (C : q_mi V M) (hq : ∀ M2 : q_M, q_mq (q_filmB V M s p n) M2 → Q (some (qI (B_film M s p n))) g M2) : q_S 1 (d + 8) 187 [qR 6 100, qI s, qI p, qI n] g M Q := by
  have n0 := C.1.1.1
  have y0 := C.1.1.2.1
  have y9 := C.2.1
  rw [s_X6_film]
  by_cases c1 : 0 ≤ s ∧ s ≤ 3
  · by_cases c2 : 0 ≤ p ∧ p ≤ M 100 0 - 1
    · by_cases c3 : 0 ≤ n ∧ n ≤ 20
      · rw [show B_film M s p n = n by (unfold B_film; rw [if_neg (fun z => z c1), if_neg (fun z => z c2), if_neg (fun z => z c3)]), show q_filmB V M s p n = q_flM M s.toNat n 40 (G_flm V (mW M) p.toNat n.toNat) from if_pos ⟨c1, c2, c3⟩] at hq
        obtain ⟨S, rfl⟩ : ∃ S : Nat, s = S := ⟨s.toNat, by omega⟩
        obtain ⟨N, rfl⟩ : ∃ N : Nat, p = N := ⟨p.toNat, by omega⟩
        obtain ⟨K, rfl⟩ : ∃ K : Nat, n = K := ⟨n.toNat, by omega⟩
        simp only [Int.toNat_natCast] at hq
        have hS : S < 4 := by omega
        have loop : ∀ j k : Nat, k + j = 40 → ∀ M1 : q_M, q_ml V M1 → mW M1 = G_ys V (mW M) (if k < K then k else K) → M1 100 5 + j ≤ 1500 → M1 100 0 = M 100 0 → q_mt (q_flM M S K k (G_flm V (mW M) N K)) M1 → q_T 1 (d + 8) qP_X6_film 57 [] [qR 6 100, qI S, qI N, qI K, qI k] [] g M1 Q := by
          intro j
          induction j with
          | zero =>
            intro k hk M1 m1 w1 y1 e0 t1
            have e : k = 40 := by omega
            subst e
            rw [b_X6_film_57]
            simp (disch := omega) only [b_X6_film_0, x_loadI_1, x_iconst, y_if_ne_t, y_if_ne_f, b_X6_film_9, x_ret0, b_X6_film_12, x_loadR_0, x_loadS_0, x_loadI_2, b_X6_film_20, b_X6_film_23, x_loadI_3, b_X6_film_33, b_X6_film_36, f_6_15, y_iast_24, y_iast_35, y_iast_180, f_6_16, x_storeI_4, x_loadI_4, y_ic_ge_t, y_ic_ge_f, b_X6_film_64, f_6_17, x_imul, x_iadd, b_X6_film_83, x_popI, x_popR, f_6_4, y_iald_24, y_iald_35, y_iald_180, b_X6_film_108, x_iinc_4, x_goto, b_X6_film_114, q_isL_I, q_isL_R, q_isL_S, true_and, and_true, and_self, List.length_nil, List.length_cons, Nat.zero_add, x_K, x_Kn, Int.reduceToNat, Nat.reduceAdd, Nat.reduceMul, Nat.reduceLeDiff, Nat.reduceLT, Nat.zero_le, Int.reduceAdd, Int.reduceSub, Int.reduceMul, Int.reduceNeg, q_add_e, q_sub_e, q_mul_e, q_neg_e, q_upd_s, q_upd_n, zr_shr0, zr_shr1, zr_shr2, zr_shr3, zr_shr4, zr_and, zr_dyn8, zr_or, zr_shl, q_cpy_n, y_cpy26, c_X6_lays]
            refine mp_layT t1 (fun M2 h2 _ => ?_)
            simp (disch := omega) only [b_X6_film_0, x_loadI_1, x_iconst, y_if_ne_t, y_if_ne_f, b_X6_film_9, x_ret0, b_X6_film_12, x_loadR_0, x_loadS_0, x_loadI_2, b_X6_film_20, b_X6_film_23, x_loadI_3, b_X6_film_33, b_X6_film_36, f_6_15, y_iast_24, y_iast_35, y_iast_180, f_6_16, x_storeI_4, x_loadI_4, y_ic_ge_t, y_ic_ge_f, b_X6_film_64, f_6_17, x_imul, x_iadd, b_X6_film_83, x_popI, x_popR, f_6_4, y_iald_24, y_iald_35, y_iald_180, b_X6_film_108, x_iinc_4, x_goto, b_X6_film_114, q_isL_I, q_isL_R, q_isL_S, true_and, and_true, and_self, List.length_nil, List.length_cons, Nat.zero_add, x_K, x_Kn, Int.reduceToNat, Nat.reduceAdd, Nat.reduceMul, Nat.reduceLeDiff, Nat.reduceLT, Nat.zero_le, Int.reduceAdd, Int.reduceSub, Int.reduceMul, Int.reduceNeg, q_add_e, q_sub_e, q_mul_e, q_neg_e, q_upd_s, q_upd_n, zr_shr0, zr_shr1, zr_shr2, zr_shr3, zr_shr4, zr_and, zr_dyn8, zr_or, zr_shl, q_cpy_n, y_cpy26]
            exact hq M2 h2
          | succ j ih =>
            intro k hk M1 m1 w1 y1 e0 t1
            have t2 := q_mt_upB (i := 40 * S + k) (v := 0) t1
            have same : ∀ (X : q_M) (v : Int), mW (q_upd X 112 (40 * S + k) v) = mW X := fun X v => mW_same (fun a i ha => q_upd_n (by omega))
            have sml : ∀ (X : q_M) (v : Int), q_ml V X → q_ml V (q_upd X 112 (40 * S + k) v) := fun X v h => q_ml_same (fun a i ha => q_upd_n (by omega)) h
            rw [b_X6_film_57]
            by_cases c : k < K
            · rw [if_pos c] at w1
              simp (disch := omega) only [b_X6_film_0, x_loadI_1, x_iconst, y_if_ne_t, y_if_ne_f, b_X6_film_9, x_ret0, b_X6_film_12, x_loadR_0, x_loadS_0, x_loadI_2, b_X6_film_20, b_X6_film_23, x_loadI_3, b_X6_film_33, b_X6_film_36, f_6_15, y_iast_24, y_iast_35, y_iast_180, f_6_16, x_storeI_4, x_loadI_4, y_ic_ge_t, y_ic_ge_f, b_X6_film_64, f_6_17, x_imul, x_iadd, b_X6_film_83, x_popI, x_popR, f_6_4, y_iald_24, y_iald_35, y_iald_180, b_X6_film_108, x_iinc_4, x_goto, b_X6_film_114, q_isL_I, q_isL_R, q_isL_S, true_and, and_true, and_self, List.length_nil, List.length_cons, Nat.zero_add, x_K, x_Kn, Int.reduceToNat, Nat.reduceAdd, Nat.reduceMul, Nat.reduceLeDiff, Nat.reduceLT, Nat.zero_le, Int.reduceAdd, Int.reduceSub, Int.reduceMul, Int.reduceNeg, q_add_e, q_sub_e, q_mul_e, q_neg_e, q_upd_s, q_upd_n, zr_shr0, zr_shr1, zr_shr2, zr_shr3, zr_shr4, zr_and, zr_dyn8, zr_or, zr_shl, q_cpy_n, y_cpy26, tn_c, c_X6_yearOf]
              refine mp_yearT (sml _ _ m1) (by rw [q_upd_n (by omega)]; omega) t2 (fun M3 m3 w3 y3 n3 t3 => ?_)
              rw [q_upd_n (by omega)] at y3 n3
              rw [same, w1] at w3
              have w4 : mW M3 = G_ys V (mW M) (k + 1) := w3
              have ea : G_ys V (mW M) (k + 1) 2 N = M3 104 (3 * N) := by rw [← w4]; exact mW_2 (by rw [n3, e0]; omega)
              have t4 := q_mt_upB (i := 40 * S + k) (v := M3 104 (3 * N)) t3
              rw [q_flM_u (by unfold G_flm; rw [if_pos c]; exact ea)] at t4
              simp (disch := omega) only [b_X6_film_0, x_loadI_1, x_iconst, y_if_ne_t, y_if_ne_f, b_X6_film_9, x_ret0, b_X6_film_12, x_loadR_0, x_loadS_0, x_loadI_2, b_X6_film_20, b_X6_film_23, x_loadI_3, b_X6_film_33, b_X6_film_36, f_6_15, y_iast_24, y_iast_35, y_iast_180, f_6_16, x_storeI_4, x_loadI_4, y_ic_ge_t, y_ic_ge_f, b_X6_film_64, f_6_17, x_imul, x_iadd, b_X6_film_83, x_popI, x_popR, f_6_4, y_iald_24, y_iald_35, y_iald_180, b_X6_film_108, x_iinc_4, x_goto, b_X6_film_114, q_isL_I, q_isL_R, q_isL_S, true_and, and_true, and_self, List.length_nil, List.length_cons, Nat.zero_add, x_K, x_Kn, Int.reduceToNat, Nat.reduceAdd, Nat.reduceMul, Nat.reduceLeDiff, Nat.reduceLT, Nat.zero_le, Int.reduceAdd, Int.reduceSub, Int.reduceMul, Int.reduceNeg, q_add_e, q_sub_e, q_mul_e, q_neg_e, q_upd_s, q_upd_n, zr_shr0, zr_shr1, zr_shr2, zr_shr3, zr_shr4, zr_and, zr_dyn8, zr_or, zr_shl, q_cpy_n, y_cpy26, tn_c, tn_30]
              refine ih (k + 1) (by omega) _ (sml _ _ m3) ?_ ?_ ?_ t4
              · rw [same, w4]
                by_cases c4 : k + 1 < K
                · rw [if_pos c4]
                · rw [if_neg c4, show K = k + 1 by omega]
              · rw [q_upd_n (by omega)]
                omega
              · rw [q_upd_n (by omega)]
                exact n3.trans e0
            · rw [if_neg c] at w1
              have t4 : q_mt (q_flM M S K (k + 1) (G_flm V (mW M) N K)) (q_upd M1 112 (40 * S + k) 0) := by
                rw [← q_flM_u (w := 0) (v := 0) (show G_flm V (mW M) N K k = 0 by unfold G_flm; rw [if_neg c]), q_upd_u]
                exact t2
              simp (disch := omega) only [b_X6_film_0, x_loadI_1, x_iconst, y_if_ne_t, y_if_ne_f, b_X6_film_9, x_ret0, b_X6_film_12, x_loadR_0, x_loadS_0, x_loadI_2, b_X6_film_20, b_X6_film_23, x_loadI_3, b_X6_film_33, b_X6_film_36, f_6_15, y_iast_24, y_iast_35, y_iast_180, f_6_16, x_storeI_4, x_loadI_4, y_ic_ge_t, y_ic_ge_f, b_X6_film_64, f_6_17, x_imul, x_iadd, b_X6_film_83, x_popI, x_popR, f_6_4, y_iald_24, y_iald_35, y_iald_180, b_X6_film_108, x_iinc_4, x_goto, b_X6_film_114, q_isL_I, q_isL_R, q_isL_S, true_and, and_true, and_self, List.length_nil, List.length_cons, Nat.zero_add, x_K, x_Kn, Int.reduceToNat, Nat.reduceAdd, Nat.reduceMul, Nat.reduceLeDiff, Nat.reduceLT, Nat.zero_le, Int.reduceAdd, Int.reduceSub, Int.reduceMul, Int.reduceNeg, q_add_e, q_sub_e, q_mul_e, q_neg_e, q_upd_s, q_upd_n, zr_shr0, zr_shr1, zr_shr2, zr_shr3, zr_shr4, zr_and, zr_dyn8, zr_or, zr_shl, q_cpy_n, y_cpy26, tn_c]
              refine ih (k + 1) (by omega) _ (sml _ _ m1) ?_ ?_ ?_ t4
              · rw [same, w1, if_neg (by omega)]
              · rw [q_upd_n (by omega)]
                omega
              · rw [q_upd_n (by omega)]
                exact e0
        have eB : q_upd (q_upd M 110 S 0) 111 S K = q_flM M S K 0 (G_flm V (mW M) N K) := by
          funext a i
          unfold q_flM
          by_cases k1 : a = 110 ∧ i = S
          · obtain ⟨rfl, rfl⟩ := k1
            rw [if_pos ⟨rfl, rfl⟩, q_upd_n (by omega), q_upd_s]
          · rw [if_neg k1]
            by_cases k2 : a = 111 ∧ i = S
            · obtain ⟨rfl, rfl⟩ := k2
              rw [if_pos ⟨rfl, rfl⟩, q_upd_s]
            · rw [if_neg k2, if_neg (by omega), q_upd_n (by omega), q_upd_n (by omega)]
        have mB : q_ml V (q_flM M S K 0 (G_flm V (mW M) N K)) := q_ml_same (fun a i ha => q_flM_n (by omega) (by omega) (by omega)) C.1
        have wB : mW (q_flM M S K 0 (G_flm V (mW M) N K)) = mW M := mW_same (fun a i ha => q_flM_n (by omega) (by omega) (by omega))
        simp (disch := omega) only [b_X6_film_0, x_loadI_1, x_iconst, y_if_ne_t, y_if_ne_f, b_X6_film_9, x_ret0, b_X6_film_12, x_loadR_0, x_loadS_0, x_loadI_2, b_X6_film_20, b_X6_film_23, x_loadI_3, b_X6_film_33, b_X6_film_36, f_6_15, y_iast_24, y_iast_35, y_iast_180, f_6_16, x_storeI_4, x_loadI_4, y_ic_ge_t, y_ic_ge_f, b_X6_film_64, f_6_17, x_imul, x_iadd, b_X6_film_83, x_popI, x_popR, f_6_4, y_iald_24, y_iald_35, y_iald_180, b_X6_film_108, x_iinc_4, x_goto, b_X6_film_114, q_isL_I, q_isL_R, q_isL_S, true_and, and_true, and_self, List.length_nil, List.length_cons, Nat.zero_add, x_K, x_Kn, Int.reduceToNat, Nat.reduceAdd, Nat.reduceMul, Nat.reduceLeDiff, Nat.reduceLT, Nat.zero_le, Int.reduceAdd, Int.reduceSub, Int.reduceMul, Int.reduceNeg, q_add_e, q_sub_e, q_mul_e, q_neg_e, q_upd_s, q_upd_n, zr_shr0, zr_shr1, zr_shr2, zr_shr3, zr_shr4, zr_and, zr_dyn8, zr_or, zr_shl, q_cpy_n, y_cpy26, c_X6_in, mp_in, c1, c_X6_isStone, mp_isStone, c2, c3, and_self, if_true, Int.toNat_natCast, eB, c_X6_keeps]
        refine mp_keepT mB q_mq_rf (fun M2 m2 w2 t2 => ?_)
        rw [wB] at w2
        have e5 : M2 100 5 = M 100 5 := by rw [← mW_91 (M := M2), w2, mW_91]
        have e0 : M2 100 0 = M 100 0 := by rw [← mW_90 (M := M2), w2, mW_90]
        simp (disch := omega) only [b_X6_film_0, x_loadI_1, x_iconst, y_if_ne_t, y_if_ne_f, b_X6_film_9, x_ret0, b_X6_film_12, x_loadR_0, x_loadS_0, x_loadI_2, b_X6_film_20, b_X6_film_23, x_loadI_3, b_X6_film_33, b_X6_film_36, f_6_15, y_iast_24, y_iast_35, y_iast_180, f_6_16, x_storeI_4, x_loadI_4, y_ic_ge_t, y_ic_ge_f, b_X6_film_64, f_6_17, x_imul, x_iadd, b_X6_film_83, x_popI, x_popR, f_6_4, y_iald_24, y_iald_35, y_iald_180, b_X6_film_108, x_iinc_4, x_goto, b_X6_film_114, q_isL_I, q_isL_R, q_isL_S, true_and, and_true, and_self, List.length_nil, List.length_cons, Nat.zero_add, x_K, x_Kn, Int.reduceToNat, Nat.reduceAdd, Nat.reduceMul, Nat.reduceLeDiff, Nat.reduceLT, Nat.zero_le, Int.reduceAdd, Int.reduceSub, Int.reduceMul, Int.reduceNeg, q_add_e, q_sub_e, q_mul_e, q_neg_e, q_upd_s, q_upd_n, zr_shr0, zr_shr1, zr_shr2, zr_shr3, zr_shr4, zr_and, zr_dyn8, zr_or, zr_shl, q_cpy_n, y_cpy26]
        refine loop 40 0 rfl M2 m2 ?_ (by omega) e0 t2
        rw [w2]
        by_cases c4 : 0 < K
        · rw [if_pos c4]
          rfl
        · rw [if_neg c4, show K = 0 by omega]
          rfl
      · rw [show B_film M s p n = -7 by (unfold B_film; rw [if_neg (fun z => z c1), if_neg (fun z => z c2), if_pos c3]), show q_filmB V M s p n = M from if_neg (fun z => c3 z.2.2)] at hq
        simp (disch := omega) only [b_X6_film_0, x_loadI_1, x_iconst, y_if_ne_t, y_if_ne_f, b_X6_film_9, x_ret0, b_X6_film_12, x_loadR_0, x_loadS_0, x_loadI_2, b_X6_film_20, b_X6_film_23, x_loadI_3, b_X6_film_33, b_X6_film_36, f_6_15, y_iast_24, y_iast_35, y_iast_180, f_6_16, x_storeI_4, x_loadI_4, y_ic_ge_t, y_ic_ge_f, b_X6_film_64, f_6_17, x_imul, x_iadd, b_X6_film_83, x_popI, x_popR, f_6_4, y_iald_24, y_iald_35, y_iald_180, b_X6_film_108, x_iinc_4, x_goto, b_X6_film_114, q_isL_I, q_isL_R, q_isL_S, true_and, and_true, and_self, List.length_nil, List.length_cons, Nat.zero_add, x_K, x_Kn, Int.reduceToNat, Nat.reduceAdd, Nat.reduceMul, Nat.reduceLeDiff, Nat.reduceLT, Nat.zero_le, Int.reduceAdd, Int.reduceSub, Int.reduceMul, Int.reduceNeg, q_add_e, q_sub_e, q_mul_e, q_neg_e, q_upd_s, q_upd_n, zr_shr0, zr_shr1, zr_shr2, zr_shr3, zr_shr4, zr_and, zr_dyn8, zr_or, zr_shl, q_cpy_n, y_cpy26, c_X6_in, mp_in, c1, c_X6_isStone, mp_isStone, c2, c3, and_self, if_true, if_false]
        exact hq M q_mq_rf
    · rw [show B_film M s p n = -5 by (unfold B_film; rw [if_neg (fun z => z c1), if_pos c2]), show q_filmB V M s p n = M from if_neg (fun z => c2 z.2.1)] at hq
      simp (disch := omega) only [b_X6_film_0, x_loadI_1, x_iconst, y_if_ne_t, y_if_ne_f, b_X6_film_9, x_ret0, b_X6_film_12, x_loadR_0, x_loadS_0, x_loadI_2, b_X6_film_20, b_X6_film_23, x_loadI_3, b_X6_film_33, b_X6_film_36, f_6_15, y_iast_24, y_iast_35, y_iast_180, f_6_16, x_storeI_4, x_loadI_4, y_ic_ge_t, y_ic_ge_f, b_X6_film_64, f_6_17, x_imul, x_iadd, b_X6_film_83, x_popI, x_popR, f_6_4, y_iald_24, y_iald_35, y_iald_180, b_X6_film_108, x_iinc_4, x_goto, b_X6_film_114, q_isL_I, q_isL_R, q_isL_S, true_and, and_true, and_self, List.length_nil, List.length_cons, Nat.zero_add, x_K, x_Kn, Int.reduceToNat, Nat.reduceAdd, Nat.reduceMul, Nat.reduceLeDiff, Nat.reduceLT, Nat.zero_le, Int.reduceAdd, Int.reduceSub, Int.reduceMul, Int.reduceNeg, q_add_e, q_sub_e, q_mul_e, q_neg_e, q_upd_s, q_upd_n, zr_shr0, zr_shr1, zr_shr2, zr_shr3, zr_shr4, zr_and, zr_dyn8, zr_or, zr_shl, q_cpy_n, y_cpy26, c_X6_in, mp_in, c1, c_X6_isStone, mp_isStone, c2, and_self, if_true, if_false]
      exact hq M q_mq_rf
  · rw [show B_film M s p n = -2 by (unfold B_film; rw [if_pos c1]), show q_filmB V M s p n = M from if_neg (fun z => c1 z.1)] at hq
    simp (disch := omega) only [b_X6_film_0, x_loadI_1, x_iconst, y_if_ne_t, y_if_ne_f, b_X6_film_9, x_ret0, b_X6_film_12, x_loadR_0, x_loadS_0, x_loadI_2, b_X6_film_20, b_X6_film_23, x_loadI_3, b_X6_film_33, b_X6_film_36, f_6_15, y_iast_24, y_iast_35, y_iast_180, f_6_16, x_storeI_4, x_loadI_4, y_ic_ge_t, y_ic_ge_f, b_X6_film_64, f_6_17, x_imul, x_iadd, b_X6_film_83, x_popI, x_popR, f_6_4, y_iald_24, y_iald_35, y_iald_180, b_X6_film_108, x_iinc_4, x_goto, b_X6_film_114, q_isL_I, q_isL_R, q_isL_S, true_and, and_true, and_self, List.length_nil, List.length_cons, Nat.zero_add, x_K, x_Kn, Int.reduceToNat, Nat.reduceAdd, Nat.reduceMul, Nat.reduceLeDiff, Nat.reduceLT, Nat.zero_le, Int.reduceAdd, Int.reduceSub, Int.reduceMul, Int.reduceNeg, q_add_e, q_sub_e, q_mul_e, q_neg_e, q_upd_s, q_upd_n, zr_shr0, zr_shr1, zr_shr2, zr_shr3, zr_shr4, zr_and, zr_dyn8, zr_or, zr_shl, q_cpy_n, y_cpy26, c_X6_in, mp_in, c1, if_false]
    exact hq M q_mq_rf
