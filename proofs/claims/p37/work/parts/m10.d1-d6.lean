section
/-! THE MODEL: film -/
def q_flM (M : q_M) (s : Nat) (n : Int) (k : Nat) (f : Nat → Int) : q_M := fun a i => if a = 110 ∧ i = s then 0 else if a = 111 ∧ i = s then n else if a = 112 ∧ 40 * s ≤ i ∧ i < 40 * s + k then f (i - 40 * s) else M a i
theorem q_flM_n {M : q_M} {s k a i : Nat} {n : Int} {f : Nat → Int} (h1 : a ≠ 110) (h2 : a ≠ 111) (h3 : a ≠ 112) : q_flM M s n k f a i = M a i := by
  unfold q_flM
  rw [if_neg (fun z => h1 z.1), if_neg (fun z => h2 z.1), if_neg (fun z => h3 z.1)]
theorem q_flM_u {M : q_M} {s k : Nat} {n v w : Int} {f : Nat → Int} (h : f k = v) : q_upd (q_upd (q_flM M s n k f) 112 (40 * s + k) w) 112 (40 * s + k) v = q_flM M s n (k + 1) f := by
  funext a i
  by_cases c : a = 112 ∧ i = 40 * s + k
  · obtain ⟨rfl, rfl⟩ := c
    rw [q_upd_s]
    unfold q_flM
    rw [if_neg (by omega), if_neg (by omega), if_pos (by omega), show 40 * s + k - 40 * s = k by omega, h]
  · rw [q_upd_n (by omega), q_upd_n (by omega)]
    unfold q_flM
    by_cases c1 : a = 110 ∧ i = s
    · rw [if_pos c1, if_pos c1]
    · rw [if_neg c1, if_neg c1]
      by_cases c2 : a = 111 ∧ i = s
      · rw [if_pos c2, if_pos c2]
      · rw [if_neg c2, if_neg c2]
        by_cases c3 : a = 112 ∧ 40 * s ≤ i ∧ i < 40 * s + k
        · rw [if_pos c3, if_pos (by omega)]
        · rw [if_neg c3, if_neg (by omega)]
theorem q_upd_u {M : q_M} {a i : Nat} {v w : Int} : q_upd (q_upd M a i w) a i v = q_upd M a i v := by
  funext b j
  by_cases e : b = a ∧ j = i
  · obtain ⟨rfl, rfl⟩ := e
    rw [q_upd_s, q_upd_s]
  · rw [q_upd_n (by omega), q_upd_n (by omega), q_upd_n (by omega)]
theorem q_mt_upB {M M2 : q_M} {i : Nat} {v : Int} (h : q_mt M M2) : q_mt (q_upd M 112 i v) (q_upd M2 112 i v) := by
  obtain ⟨⟨k1, k2, k3⟩, h3⟩ := h
  refine ⟨⟨fun j hj => ?_, fun j hj => ?_, ?_⟩, fun x j q1 q2 q3 q4 => ?_⟩
  · rw [q_upd_n (by omega), q_upd_n (by omega)]
    exact k1 j hj
  · rw [q_upd_n (by omega), q_upd_n (by omega)]
    exact k2 j hj
  · rw [q_upd_n (by omega), q_upd_n (by omega)]
    exact k3
  · by_cases e : x = 112 ∧ j = i
    · obtain ⟨rfl, rfl⟩ := e
      rw [q_upd_s, q_upd_s]
    · rw [q_upd_n (by omega), q_upd_n (by omega)]
      exact h3 x j q1 q2 q3 q4
def G_flm (V : Nat → (Nat → Int) → Int) (S : q_M) (p n : Nat) : Nat → Int := fun i => if i < n then G_ys V S (i + 1) 2 p else 0
def B_film (M : q_M) (s p n : Int) : Int := if ¬(0 ≤ s ∧ s ≤ 3) then -2 else if ¬(0 ≤ p ∧ p ≤ M 100 0 - 1) then -5 else if ¬(0 ≤ n ∧ n ≤ 20) then -7 else n
def q_filmB (V : Nat → (Nat → Int) → Int) (M : q_M) (s p n : Int) : q_M := if (0 ≤ s ∧ s ≤ 3) ∧ (0 ≤ p ∧ p ≤ M 100 0 - 1) ∧ (0 ≤ n ∧ n ≤ 20) then q_flM M s.toNat n 40 (G_flm V (mW M) p.toNat n.toNat) else M
set_option maxHeartbeats 4000000 in
theorem mp_film {V : Nat → (Nat → Int) → Int} {d : Nat} {g : q_G} {M : q_M} {s p n : Int} {Q : Option q_V → q_G → q_M → Prop} (C : q_mi V M) (hq : ∀ M2 : q_M, q_mq (q_filmB V M s p n) M2 → Q (some (qI (B_film M s p n))) g M2) : q_S 1 (d + 8) 187 [qR 6 100, qI s, qI p, qI n] g M Q := by
  have n0 := C.1.1.1
  have y0 := C.1.1.2.1
  have y9 := C.2.1
  rw [s_X6_film]
  by_cases c1 : 0 ≤ s ∧ s ≤ 3
  · by_cases c2 : 0 ≤ p ∧ p ≤ M 100 0 - 1
    · by_cases c3 : 0 ≤ n ∧ n ≤ 20
      · rw [show B_film M s p n = n by (unfold B_film; rw [if_neg (fun z => z c1), if_neg (fun z => z c2), if_neg (fun z => z c3)]), show q_filmB V M s p n = q_flM M s.toNat n 40 (G_flm V (mW M) p.toNat n.toNat) from if_pos ⟨c1, c2, c3⟩] at hq
        obtain ⟨S, rfl⟩ : ∃ S : Nat, s = S := ⟨s.toNat, by omega⟩
        obtain ⟨N, rfl⟩ : ∃ N : Nat, p = N := ⟨p.toNat, by omega⟩
        obtain ⟨K, rfl⟩ : ∃ K : Nat, n = K := ⟨n.toNat, by omega⟩
        simp only [Int.toNat_natCast] at hq
        have hS : S < 4 := by omega
        have loop : ∀ j k : Nat, k + j = 40 → ∀ M1 : q_M, q_ml V M1 → mW M1 = G_ys V (mW M) (if k < K then k else K) → M1 100 5 + j ≤ 1500 → M1 100 0 = M 100 0 → q_mt (q_flM M S K k (G_flm V (mW M) N K)) M1 → q_T 1 (d + 8) qP_X6_film 57 [] [qR 6 100, qI S, qI N, qI K, qI k] [] g M1 Q := by
          intro j
          induction j with
          | zero =>
            intro k hk M1 m1 w1 y1 e0 t1
            have e : k = 40 := by omega
            subst e
            rw [b_X6_film_57]
            simp (disch := omega) only [b_X6_film_0, x_loadI_1, x_iconst, y_if_ne_t, y_if_ne_f, b_X6_film_9, x_ret0, b_X6_film_12, x_loadR_0, x_loadS_0, x_loadI_2, b_X6_film_20, b_X6_film_23, x_loadI_3, b_X6_film_33, b_X6_film_36, f_6_15, y_iast_24, y_iast_35, y_iast_180, f_6_16, x_storeI_4, x_loadI_4, y_ic_ge_t, y_ic_ge_f, b_X6_film_64, f_6_17, x_imul, x_iadd, b_X6_film_83, x_popI, x_popR, f_6_4, y_iald_24, y_iald_35, y_iald_180, b_X6_film_108, x_iinc_4, x_goto, b_X6_film_114, q_isL_I, q_isL_R, q_isL_S, true_and, and_true, and_self, List.length_nil, List.length_cons, Nat.zero_add, x_K, x_Kn, Int.reduceToNat, Nat.reduceAdd, Nat.reduceMul, Nat.reduceLeDiff, Nat.reduceLT, Nat.zero_le, Int.reduceAdd, Int.reduceSub, Int.reduceMul, Int.reduceNeg, q_add_e, q_sub_e, q_mul_e, q_neg_e, q_upd_s, q_upd_n, zr_shr0, zr_shr1, zr_shr2, zr_shr3, zr_shr4, zr_and, zr_dyn8, zr_or, zr_shl, q_cpy_n, y_cpy26, c_X6_lays]
            refine mp_layT t1 (fun M2 h2 _ => ?_)
            simp (disch := omega) only [b_X6_film_0, x_loadI_1, x_iconst, y_if_ne_t, y_if_ne_f, b_X6_film_9, x_ret0, b_X6_film_12, x_loadR_0, x_loadS_0, x_loadI_2, b_X6_film_20, b_X6_film_23, x_loadI_3, b_X6_film_33, b_X6_film_36, f_6_15, y_iast_24, y_iast_35, y_iast_180, f_6_16, x_storeI_4, x_loadI_4, y_ic_ge_t, y_ic_ge_f, b_X6_film_64, f_6_17, x_imul, x_iadd, b_X6_film_83, x_popI, x_popR, f_6_4, y_iald_24, y_iald_35, y_iald_180, b_X6_film_108, x_iinc_4, x_goto, b_X6_film_114, q_isL_I, q_isL_R, q_isL_S, true_and, and_true, and_self, List.length_nil, List.length_cons, Nat.zero_add, x_K, x_Kn, Int.reduceToNat, Nat.reduceAdd, Nat.reduceMul, Nat.reduceLeDiff, Nat.reduceLT, Nat.zero_le, Int.reduceAdd, Int.reduceSub, Int.reduceMul, Int.reduceNeg, q_add_e, q_sub_e, q_mul_e, q_neg_e, q_upd_s, q_upd_n, zr_shr0, zr_shr1, zr_shr2, zr_shr3, zr_shr4, zr_and, zr_dyn8, zr_or, zr_shl, q_cpy_n, y_cpy26]
            exact hq M2 h2
          | succ j ih =>
            intro k hk M1 m1 w1 y1 e0 t1
            have t2 := q_mt_upB (i := 40 * S + k) (v := 0) t1
            have same : ∀ (X : q_M) (v : Int), mW (q_upd X 112 (40 * S + k) v) = mW X := fun X v => mW_same (fun a i ha => q_upd_n (by omega))
            have sml : ∀ (X : q_M) (v : Int), q_ml V X → q_ml V (q_upd X 112 (40 * S + k) v) := fun X v h => q_ml_same (fun a i ha => q_upd_n (by omega)) h
            rw [b_X6_film_57]
            by_cases c : k < K
            · rw [if_pos c] at w1
              simp (disch := omega) only [b_X6_film_0, x_loadI_1, x_iconst, y_if_ne_t, y_if_ne_f, b_X6_film_9, x_ret0, b_X6_film_12, x_loadR_0, x_loadS_0, x_loadI_2, b_X6_film_20, b_X6_film_23, x_loadI_3, b_X6_film_33, b_X6_film_36, f_6_15, y_iast_24, y_iast_35, y_iast_180, f_6_16, x_storeI_4, x_loadI_4, y_ic_ge_t, y_ic_ge_f, b_X6_film_64, f_6_17, x_imul, x_iadd, b_X6_film_83, x_popI, x_popR, f_6_4, y_iald_24, y_iald_35, y_iald_180, b_X6_film_108, x_iinc_4, x_goto, b_X6_film_114, q_isL_I, q_isL_R, q_isL_S, true_and, and_true, and_self, List.length_nil, List.length_cons, Nat.zero_add, x_K, x_Kn, Int.reduceToNat, Nat.reduceAdd, Nat.reduceMul, Nat.reduceLeDiff, Nat.reduceLT, Nat.zero_le, Int.reduceAdd, Int.reduceSub, Int.reduceMul, Int.reduceNeg, q_add_e, q_sub_e, q_mul_e, q_neg_e, q_upd_s, q_upd_n, zr_shr0, zr_shr1, zr_shr2, zr_shr3, zr_shr4, zr_and, zr_dyn8, zr_or, zr_shl, q_cpy_n, y_cpy26, tn_c, c_X6_yearOf]
              refine mp_yearT (sml _ _ m1) (by rw [q_upd_n (by omega)]; omega) t2 (fun M3 m3 w3 y3 n3 t3 => ?_)
              rw [q_upd_n (by omega)] at y3 n3
              rw [same, w1] at w3
              have w4 : mW M3 = G_ys V (mW M) (k + 1) := w3
              have ea : G_ys V (mW M) (k + 1) 2 N = M3 104 (3 * N) := by rw [← w4]; exact mW_2 (by rw [n3, e0]; omega)
              have t4 := q_mt_upB (i := 40 * S + k) (v := M3 104 (3 * N)) t3
              rw [q_flM_u (by unfold G_flm; rw [if_pos c]; exact ea)] at t4
              simp (disch := omega) only [b_X6_film_0, x_loadI_1, x_iconst, y_if_ne_t, y_if_ne_f, b_X6_film_9, x_ret0, b_X6_film_12, x_loadR_0, x_loadS_0, x_loadI_2, b_X6_film_20, b_X6_film_23, x_loadI_3, b_X6_film_33, b_X6_film_36, f_6_15, y_iast_24, y_iast_35, y_iast_180, f_6_16, x_storeI_4, x_loadI_4, y_ic_ge_t, y_ic_ge_f, b_X6_film_64, f_6_17, x_imul, x_iadd, b_X6_film_83, x_popI, x_popR, f_6_4, y_iald_24, y_iald_35, y_iald_180, b_X6_film_108, x_iinc_4, x_goto, b_X6_film_114, q_isL_I, q_isL_R, q_isL_S, true_and, and_true, and_self, List.length_nil, List.length_cons, Nat.zero_add, x_K, x_Kn, Int.reduceToNat, Nat.reduceAdd, Nat.reduceMul, Nat.reduceLeDiff, Nat.reduceLT, Nat.zero_le, Int.reduceAdd, Int.reduceSub, Int.reduceMul, Int.reduceNeg, q_add_e, q_sub_e, q_mul_e, q_neg_e, q_upd_s, q_upd_n, zr_shr0, zr_shr1, zr_shr2, zr_shr3, zr_shr4, zr_and, zr_dyn8, zr_or, zr_shl, q_cpy_n, y_cpy26, tn_c, tn_30]
              refine ih (k + 1) (by omega) _ (sml _ _ m3) ?_ ?_ ?_ t4
              · rw [same, w4]
                by_cases c4 : k + 1 < K
                · rw [if_pos c4]
                · rw [if_neg c4, show K = k + 1 by omega]
              · rw [q_upd_n (by omega)]
                omega
              · rw [q_upd_n (by omega)]
                exact n3.trans e0
            · rw [if_neg c] at w1
              have t4 : q_mt (q_flM M S K (k + 1) (G_flm V (mW M) N K)) (q_upd M1 112 (40 * S + k) 0) := by
                rw [← q_flM_u (w := 0) (v := 0) (show G_flm V (mW M) N K k = 0 by unfold G_flm; rw [if_neg c]), q_upd_u]
                exact t2
              simp (disch := omega) only [b_X6_film_0, x_loadI_1, x_iconst, y_if_ne_t, y_if_ne_f, b_X6_film_9, x_ret0, b_X6_film_12, x_loadR_0, x_loadS_0, x_loadI_2, b_X6_film_20, b_X6_film_23, x_loadI_3, b_X6_film_33, b_X6_film_36, f_6_15, y_iast_24, y_iast_35, y_iast_180, f_6_16, x_storeI_4, x_loadI_4, y_ic_ge_t, y_ic_ge_f, b_X6_film_64, f_6_17, x_imul, x_iadd, b_X6_film_83, x_popI, x_popR, f_6_4, y_iald_24, y_iald_35, y_iald_180, b_X6_film_108, x_iinc_4, x_goto, b_X6_film_114, q_isL_I, q_isL_R, q_isL_S, true_and, and_true, and_self, List.length_nil, List.length_cons, Nat.zero_add, x_K, x_Kn, Int.reduceToNat, Nat.reduceAdd, Nat.reduceMul, Nat.reduceLeDiff, Nat.reduceLT, Nat.zero_le, Int.reduceAdd, Int.reduceSub, Int.reduceMul, Int.reduceNeg, q_add_e, q_sub_e, q_mul_e, q_neg_e, q_upd_s, q_upd_n, zr_shr0, zr_shr1, zr_shr2, zr_shr3, zr_shr4, zr_and, zr_dyn8, zr_or, zr_shl, q_cpy_n, y_cpy26, tn_c]
              refine ih (k + 1) (by omega) _ (sml _ _ m1) ?_ ?_ ?_ t4
              · rw [same, w1, if_neg (by omega)]
              · rw [q_upd_n (by omega)]
                omega
              · rw [q_upd_n (by omega)]
                exact e0
        have eB : q_upd (q_upd M 110 S 0) 111 S K = q_flM M S K 0 (G_flm V (mW M) N K) := by
          funext a i
          unfold q_flM
          by_cases k1 : a = 110 ∧ i = S
          · obtain ⟨rfl, rfl⟩ := k1
            rw [if_pos ⟨rfl, rfl⟩, q_upd_n (by omega), q_upd_s]
          · rw [if_neg k1]
            by_cases k2 : a = 111 ∧ i = S
            · obtain ⟨rfl, rfl⟩ := k2
              rw [if_pos ⟨rfl, rfl⟩, q_upd_s]
            · rw [if_neg k2, if_neg (by omega), q_upd_n (by omega), q_upd_n (by omega)]
        have mB : q_ml V (q_flM M S K 0 (G_flm V (mW M) N K)) := q_ml_same (fun a i ha => q_flM_n (by omega) (by omega) (by omega)) C.1
        have wB : mW (q_flM M S K 0 (G_flm V (mW M) N K)) = mW M := mW_same (fun a i ha => q_flM_n (by omega) (by omega) (by omega))
        simp (disch := omega) only [b_X6_film_0, x_loadI_1, x_iconst, y_if_ne_t, y_if_ne_f, b_X6_film_9, x_ret0, b_X6_film_12, x_loadR_0, x_loadS_0, x_loadI_2, b_X6_film_20, b_X6_film_23, x_loadI_3, b_X6_film_33, b_X6_film_36, f_6_15, y_iast_24, y_iast_35, y_iast_180, f_6_16, x_storeI_4, x_loadI_4, y_ic_ge_t, y_ic_ge_f, b_X6_film_64, f_6_17, x_imul, x_iadd, b_X6_film_83, x_popI, x_popR, f_6_4, y_iald_24, y_iald_35, y_iald_180, b_X6_film_108, x_iinc_4, x_goto, b_X6_film_114, q_isL_I, q_isL_R, q_isL_S, true_and, and_true, and_self, List.length_nil, List.length_cons, Nat.zero_add, x_K, x_Kn, Int.reduceToNat, Nat.reduceAdd, Nat.reduceMul, Nat.reduceLeDiff, Nat.reduceLT, Nat.zero_le, Int.reduceAdd, Int.reduceSub, Int.reduceMul, Int.reduceNeg, q_add_e, q_sub_e, q_mul_e, q_neg_e, q_upd_s, q_upd_n, zr_shr0, zr_shr1, zr_shr2, zr_shr3, zr_shr4, zr_and, zr_dyn8, zr_or, zr_shl, q_cpy_n, y_cpy26, c_X6_in, mp_in, c1, c_X6_isStone, mp_isStone, c2, c3, and_self, if_true, Int.toNat_natCast, eB, c_X6_keeps]
        refine mp_keepT mB q_mq_rf (fun M2 m2 w2 t2 => ?_)
        rw [wB] at w2
        have e5 : M2 100 5 = M 100 5 := by rw [← mW_91 (M := M2), w2, mW_91]
        have e0 : M2 100 0 = M 100 0 := by rw [← mW_90 (M := M2), w2, mW_90]
        simp (disch := omega) only [b_X6_film_0, x_loadI_1, x_iconst, y_if_ne_t, y_if_ne_f, b_X6_film_9, x_ret0, b_X6_film_12, x_loadR_0, x_loadS_0, x_loadI_2, b_X6_film_20, b_X6_film_23, x_loadI_3, b_X6_film_33, b_X6_film_36, f_6_15, y_iast_24, y_iast_35, y_iast_180, f_6_16, x_storeI_4, x_loadI_4, y_ic_ge_t, y_ic_ge_f, b_X6_film_64, f_6_17, x_imul, x_iadd, b_X6_film_83, x_popI, x_popR, f_6_4, y_iald_24, y_iald_35, y_iald_180, b_X6_film_108, x_iinc_4, x_goto, b_X6_film_114, q_isL_I, q_isL_R, q_isL_S, true_and, and_true, and_self, List.length_nil, List.length_cons, Nat.zero_add, x_K, x_Kn, Int.reduceToNat, Nat.reduceAdd, Nat.reduceMul, Nat.reduceLeDiff, Nat.reduceLT, Nat.zero_le, Int.reduceAdd, Int.reduceSub, Int.reduceMul, Int.reduceNeg, q_add_e, q_sub_e, q_mul_e, q_neg_e, q_upd_s, q_upd_n, zr_shr0, zr_shr1, zr_shr2, zr_shr3, zr_shr4, zr_and, zr_dyn8, zr_or, zr_shl, q_cpy_n, y_cpy26]
        refine loop 40 0 rfl M2 m2 ?_ (by omega) e0 t2
        rw [w2]
        by_cases c4 : 0 < K
        · rw [if_pos c4]
          rfl
        · rw [if_neg c4, show K = 0 by omega]
          rfl
      · rw [show B_film M s p n = -7 by (unfold B_film; rw [if_neg (fun z => z c1), if_neg (fun z => z c2), if_pos c3]), show q_filmB V M s p n = M from if_neg (fun z => c3 z.2.2)] at hq
        simp (disch := omega) only [b_X6_film_0, x_loadI_1, x_iconst, y_if_ne_t, y_if_ne_f, b_X6_film_9, x_ret0, b_X6_film_12, x_loadR_0, x_loadS_0, x_loadI_2, b_X6_film_20, b_X6_film_23, x_loadI_3, b_X6_film_33, b_X6_film_36, f_6_15, y_iast_24, y_iast_35, y_iast_180, f_6_16, x_storeI_4, x_loadI_4, y_ic_ge_t, y_ic_ge_f, b_X6_film_64, f_6_17, x_imul, x_iadd, b_X6_film_83, x_popI, x_popR, f_6_4, y_iald_24, y_iald_35, y_iald_180, b_X6_film_108, x_iinc_4, x_goto, b_X6_film_114, q_isL_I, q_isL_R, q_isL_S, true_and, and_true, and_self, List.length_nil, List.length_cons, Nat.zero_add, x_K, x_Kn, Int.reduceToNat, Nat.reduceAdd, Nat.reduceMul, Nat.reduceLeDiff, Nat.reduceLT, Nat.zero_le, Int.reduceAdd, Int.reduceSub, Int.reduceMul, Int.reduceNeg, q_add_e, q_sub_e, q_mul_e, q_neg_e, q_upd_s, q_upd_n, zr_shr0, zr_shr1, zr_shr2, zr_shr3, zr_shr4, zr_and, zr_dyn8, zr_or, zr_shl, q_cpy_n, y_cpy26, c_X6_in, mp_in, c1, c_X6_isStone, mp_isStone, c2, c3, and_self, if_true, if_false]
        exact hq M q_mq_rf
    · rw [show B_film M s p n = -5 by (unfold B_film; rw [if_neg (fun z => z c1), if_pos c2]), show q_filmB V M s p n = M from if_neg (fun z => c2 z.2.1)] at hq
      simp (disch := omega) only [b_X6_film_0, x_loadI_1, x_iconst, y_if_ne_t, y_if_ne_f, b_X6_film_9, x_ret0, b_X6_film_12, x_loadR_0, x_loadS_0, x_loadI_2, b_X6_film_20, b_X6_film_23, x_loadI_3, b_X6_film_33, b_X6_film_36, f_6_15, y_iast_24, y_iast_35, y_iast_180, f_6_16, x_storeI_4, x_loadI_4, y_ic_ge_t, y_ic_ge_f, b_X6_film_64, f_6_17, x_imul, x_iadd, b_X6_film_83, x_popI, x_popR, f_6_4, y_iald_24, y_iald_35, y_iald_180, b_X6_film_108, x_iinc_4, x_goto, b_X6_film_114, q_isL_I, q_isL_R, q_isL_S, true_and, and_true, and_self, List.length_nil, List.length_cons, Nat.zero_add, x_K, x_Kn, Int.reduceToNat, Nat.reduceAdd, Nat.reduceMul, Nat.reduceLeDiff, Nat.reduceLT, Nat.zero_le, Int.reduceAdd, Int.reduceSub, Int.reduceMul, Int.reduceNeg, q_add_e, q_sub_e, q_mul_e, q_neg_e, q_upd_s, q_upd_n, zr_shr0, zr_shr1, zr_shr2, zr_shr3, zr_shr4, zr_and, zr_dyn8, zr_or, zr_shl, q_cpy_n, y_cpy26, c_X6_in, mp_in, c1, c_X6_isStone, mp_isStone, c2, and_self, if_true, if_false]
      exact hq M q_mq_rf
  · rw [show B_film M s p n = -2 by (unfold B_film; rw [if_pos c1]), show q_filmB V M s p n = M from if_neg (fun z => c1 z.1)] at hq
    simp (disch := omega) only [b_X6_film_0, x_loadI_1, x_iconst, y_if_ne_t, y_if_ne_f, b_X6_film_9, x_ret0, b_X6_film_12, x_loadR_0, x_loadS_0, x_loadI_2, b_X6_film_20, b_X6_film_23, x_loadI_3, b_X6_film_33, b_X6_film_36, f_6_15, y_iast_24, y_iast_35, y_iast_180, f_6_16, x_storeI_4, x_loadI_4, y_ic_ge_t, y_ic_ge_f, b_X6_film_64, f_6_17, x_imul, x_iadd, b_X6_film_83, x_popI, x_popR, f_6_4, y_iald_24, y_iald_35, y_iald_180, b_X6_film_108, x_iinc_4, x_goto, b_X6_film_114, q_isL_I, q_isL_R, q_isL_S, true_and, and_true, and_self, List.length_nil, List.length_cons, Nat.zero_add, x_K, x_Kn, Int.reduceToNat, Nat.reduceAdd, Nat.reduceMul, Nat.reduceLeDiff, Nat.reduceLT, Nat.zero_le, Int.reduceAdd, Int.reduceSub, Int.reduceMul, Int.reduceNeg, q_add_e, q_sub_e, q_mul_e, q_neg_e, q_upd_s, q_upd_n, zr_shr0, zr_shr1, zr_shr2, zr_shr3, zr_shr4, zr_and, zr_dyn8, zr_or, zr_shl, q_cpy_n, y_cpy26, c_X6_in, mp_in, c1, if_false]
    exact hq M q_mq_rf
end
section
/-! THE MODEL: weather by lots, lowest terms, share -/
def G_w1 (V : Nat → (Nat → Int) → Int) (x : Int × q_M) : Int × q_M :=
  (x.1 * 48271 % 2147483647 * 48271 % 2147483647, (G_year V (if x.1 * 48271 % 2147483647 % 5 < x.2 9 0 then F_lay x.2 (x.1 * 48271 % 2147483647 % 5).toNat (x.1 * 48271 % 2147483647 * 48271 % 2147483647 % 100) else x.2)).2)
def G_wth (V : Nat → (Nat → Int) → Int) (S : q_M) (seed : Int) : Nat → Int × q_M
  | 0 => (seed + 1, S)
  | k + 1 => G_w1 V (G_wth V S seed k)
set_option maxHeartbeats 4000000 in
theorem mp_weather {V : Nat → (Nat → Int) → Int} {d dd : Nat} {g : q_G} {M M0 : q_M} {seed : Int} {P : q_P} {nx : Nat} {ops : List Instr} {ls st : List q_V} {Q : Option q_V → q_G → q_M → Prop} (C : q_mi V M) (h0 : q_mq M M0) (hs0 : 0 ≤ seed) (hs1 : seed ≤ 1000000) (hq : ∀ M3 : q_M, q_mq M M3 → M3 100 36 = F_cnt ((G_wth V (mW M) seed 8).2 4) 5 (M 100 0).toNat → q_T 1 dd P nx ops ls (qI (F_dig ((G_wth V (mW M) seed 8).2 4) (M 100 0).toNat) :: st) g M3 Q) : q_S 1 (d + 8) 188 [qR 6 100, qI seed] g M0 (q_K 1 dd P nx ops ls st Q) := by
  have n0 := C.1.1.1
  have y9 := C.2.1
  have hpush : ∀ (v : Int) (M3 : q_M), q_K 1 dd P nx ops ls st Q (some (qI v)) g M3 = q_T 1 dd P nx ops ls (qI v :: st) g M3 Q := fun _ _ => rfl
  generalize q_K 1 dd P nx ops ls st Q = QQ at hpush ⊢
  rw [s_X6_weather]
  have loop : ∀ j k : Nat, k + j = 8 → ∀ (M1 : q_M) (l3 l5 : q_V), q_isL l3 = false → q_isL l5 = false → 0 ≤ (G_wth V (mW M) seed k).1 → (G_wth V (mW M) seed k).1 ≤ 2147483647 → q_ml V M1 → mW M1 = (G_wth V (mW M) seed k).2 → M1 100 5 + j ≤ 1900 → M1 100 0 = M 100 0 → q_mt M M1 → q_T 1 (d + 8) qP_X6_weather 12 [] [qR 6 100, qI seed, qL (G_wth V (mW M) seed k).1, l3, qI k, l5] [] g M1 QQ := by
    intro j
    induction j with
    | zero =>
      intro k hk M1 l3 l5 hl3 hl5 hx0 hx1 m1 w1 y1 e0 t1
      have e : k = 8 := by omega
      subst e
      have hin : ∀ i, i < (M1 100 0).toNat → mIn M1 i = (G_wth V (mW M) seed 8).2 4 i := fun i hi => by rw [← w1]; exact mIn_cong i hi
      rw [b_X6_weather_12]
      simp (disch := omega) only [b_X6_weather_0, x_loadI_1, x_i2l, x_lconst, x_ladd, x_storeL_2, x_loadR_0, x_loadS_0, x_iconst, x_storeI_4, x_loadI_4, y_ic_ge_t, y_ic_ge_f, b_X6_weather_19, x_loadL_2, x_lmul, y_lrem, x_l2i, x_storeI_5, x_loadI_5, f_6_0, b_X6_weather_56, f_6_4, x_imul, y_iast_35, x_iadd, b_X6_weather_83, x_popI, x_popR, x_iinc_4, x_goto, b_X6_weather_94, p_6_36, x_ret0, q_isL_I, q_isL_R, q_isL_S, true_and, and_true, and_self, List.length_nil, List.length_cons, Nat.zero_add, x_K, x_Kn, Int.reduceToNat, Nat.reduceAdd, Nat.reduceMul, Nat.reduceLeDiff, Nat.reduceLT, Nat.zero_le, Int.reduceAdd, Int.reduceSub, Int.reduceMul, Int.reduceNeg, q_add_e, q_sub_e, q_mul_e, q_neg_e, q_upd_s, q_upd_n, zr_shr0, zr_shr1, zr_shr2, zr_shr3, zr_shr4, zr_and, zr_dyn8, zr_or, zr_shl, q_cpy_n, y_cpy26, hl3, c_X6_digitsNow]
      rw [mp_digits m1.1.1.1 m1.1.1.2 m1.1.2.2.2.2.2.2.1]
      simp (disch := omega) only [b_X6_weather_0, x_loadI_1, x_i2l, x_lconst, x_ladd, x_storeL_2, x_loadR_0, x_loadS_0, x_iconst, x_storeI_4, x_loadI_4, y_ic_ge_t, y_ic_ge_f, b_X6_weather_19, x_loadL_2, x_lmul, y_lrem, x_l2i, x_storeI_5, x_loadI_5, f_6_0, b_X6_weather_56, f_6_4, x_imul, y_iast_35, x_iadd, b_X6_weather_83, x_popI, x_popR, x_iinc_4, x_goto, b_X6_weather_94, p_6_36, x_ret0, q_isL_I, q_isL_R, q_isL_S, true_and, and_true, and_self, List.length_nil, List.length_cons, Nat.zero_add, x_K, x_Kn, Int.reduceToNat, Nat.reduceAdd, Nat.reduceMul, Nat.reduceLeDiff, Nat.reduceLT, Nat.zero_le, Int.reduceAdd, Int.reduceSub, Int.reduceMul, Int.reduceNeg, q_add_e, q_sub_e, q_mul_e, q_neg_e, q_upd_s, q_upd_n, zr_shr0, zr_shr1, zr_shr2, zr_shr3, zr_shr4, zr_and, zr_dyn8, zr_or, zr_shl, q_cpy_n, y_cpy26, hl3, c_X6_outside]
      rw [mp_outside m1.1.1.1 m1.1.1.2 m1.1.2.2.2.2.2.2.1]
      have t2 : q_mt M (q_upd M1 100 36 (F_cnt (mIn M1) 5 (M1 100 0).toNat)) := by
        obtain ⟨⟨k1, k2, k3⟩, h3⟩ := t1
        exact ⟨⟨fun i hi => (q_upd_n (by omega)).trans (k1 i hi), fun i hi => (q_upd_n (by omega)).trans (k2 i hi), (q_upd_n (by omega)).trans k3⟩, fun x j q1 q2 q3 q4 => (q_upd_n (by omega)).trans (h3 x j q1 q2 q3 q4)⟩
      simp (disch := omega) only [b_X6_weather_0, x_loadI_1, x_i2l, x_lconst, x_ladd, x_storeL_2, x_loadR_0, x_loadS_0, x_iconst, x_storeI_4, x_loadI_4, y_ic_ge_t, y_ic_ge_f, b_X6_weather_19, x_loadL_2, x_lmul, y_lrem, x_l2i, x_storeI_5, x_loadI_5, f_6_0, b_X6_weather_56, f_6_4, x_imul, y_iast_35, x_iadd, b_X6_weather_83, x_popI, x_popR, x_iinc_4, x_goto, b_X6_weather_94, p_6_36, x_ret0, q_isL_I, q_isL_R, q_isL_S, true_and, and_true, and_self, List.length_nil, List.length_cons, Nat.zero_add, x_K, x_Kn, Int.reduceToNat, Nat.reduceAdd, Nat.reduceMul, Nat.reduceLeDiff, Nat.reduceLT, Nat.zero_le, Int.reduceAdd, Int.reduceSub, Int.reduceMul, Int.reduceNeg, q_add_e, q_sub_e, q_mul_e, q_neg_e, q_upd_s, q_upd_n, zr_shr0, zr_shr1, zr_shr2, zr_shr3, zr_shr4, zr_and, zr_dyn8, zr_or, zr_shl, q_cpy_n, y_cpy26, c_X6_lays]
      refine mp_layT t2 (fun M2 h2 h3 => ?_)
      simp (disch := omega) only [b_X6_weather_0, x_loadI_1, x_i2l, x_lconst, x_ladd, x_storeL_2, x_loadR_0, x_loadS_0, x_iconst, x_storeI_4, x_loadI_4, y_ic_ge_t, y_ic_ge_f, b_X6_weather_19, x_loadL_2, x_lmul, y_lrem, x_l2i, x_storeI_5, x_loadI_5, f_6_0, b_X6_weather_56, f_6_4, x_imul, y_iast_35, x_iadd, b_X6_weather_83, x_popI, x_popR, x_iinc_4, x_goto, b_X6_weather_94, p_6_36, x_ret0, q_isL_I, q_isL_R, q_isL_S, true_and, and_true, and_self, List.length_nil, List.length_cons, Nat.zero_add, x_K, x_Kn, Int.reduceToNat, Nat.reduceAdd, Nat.reduceMul, Nat.reduceLeDiff, Nat.reduceLT, Nat.zero_le, Int.reduceAdd, Int.reduceSub, Int.reduceMul, Int.reduceNeg, q_add_e, q_sub_e, q_mul_e, q_neg_e, q_upd_s, q_upd_n, zr_shr0, zr_shr1, zr_shr2, zr_shr3, zr_shr4, zr_and, zr_dyn8, zr_or, zr_shl, q_cpy_n, y_cpy26]
      rw [hpush, F_dig_cong _ hin, e0]
      refine hq M2 h2 ?_
      rw [h3, q_upd_s, F_cnt_cong _ hin, e0]
    | succ j ih =>
      intro k hk M1 l3 l5 hl3 hl5 hx0 hx1 m1 w1 y1 e0 t1
      have ih2 := ih (k + 1) (by omega)
      rw [G_wth] at ih2
      have hS9 : (G_wth V (mW M) seed k).2 9 0 = M 100 0 := by rw [← w1]; exact e0
      generalize hX : G_wth V (mW M) seed k = X at ih2 hx0 hx1 w1 hS9
      obtain ⟨x, S⟩ := X
      simp only at hx0 hx1 w1 hS9 ⊢
      unfold G_w1 at ih2
      simp only at ih2
      rw [hS9] at ih2
      obtain ⟨N, hN⟩ : ∃ N : Nat, x * 48271 % 2147483647 % 5 = N := ⟨(x * 48271 % 2147483647 % 5).toNat, by omega⟩
      have hN5 : N < 5 := by omega
      obtain ⟨y, hy1⟩ : ∃ y : Int, x * 48271 % 2147483647 * 48271 % 2147483647 = y := ⟨_, rfl⟩
      have hy0 : 0 ≤ y ∧ y < 2147483647 := by omega
      have hyr : 0 ≤ y % 100 ∧ y % 100 ≤ 99 := by omega
      rw [hN, hy1, Int.toNat_natCast] at ih2
      rw [b_X6_weather_12]
      have py : ∀ (M2 : q_M) (l3 l5 : q_V), q_isL l3 = false → q_isL l5 = false → q_ml V M2 → mW M2 = (if (N : Int) < M 100 0 then F_lay S N (y % 100) else S) → M2 100 5 + (j + 1 : Nat) ≤ 1900 → M2 100 0 = M 100 0 → q_mt M M2 → q_T 1 (d + 8) qP_X6_weather 83 [] [qR 6 100, qI seed, qL y, l3, qI k, l5] [] g M2 QQ := by
        intro M2 l3 l5 hl3 hl5 m2 w2 y2 n2 t2
        rw [b_X6_weather_83]
        simp (disch := omega) only [b_X6_weather_0, x_loadI_1, x_i2l, x_lconst, x_ladd, x_storeL_2, x_loadR_0, x_loadS_0, x_iconst, x_storeI_4, x_loadI_4, y_ic_ge_t, y_ic_ge_f, b_X6_weather_19, x_loadL_2, x_lmul, y_lrem, x_l2i, x_storeI_5, x_loadI_5, f_6_0, b_X6_weather_56, f_6_4, x_imul, y_iast_35, x_iadd, b_X6_weather_83, x_popI, x_popR, x_iinc_4, x_goto, b_X6_weather_94, p_6_36, x_ret0, q_isL_I, q_isL_R, q_isL_S, true_and, and_true, and_self, List.length_nil, List.length_cons, Nat.zero_add, x_K, x_Kn, Int.reduceToNat, Nat.reduceAdd, Nat.reduceMul, Nat.reduceLeDiff, Nat.reduceLT, Nat.zero_le, Int.reduceAdd, Int.reduceSub, Int.reduceMul, Int.reduceNeg, q_add_e, q_sub_e, q_mul_e, q_neg_e, q_upd_s, q_upd_n, zr_shr0, zr_shr1, zr_shr2, zr_shr3, zr_shr4, zr_and, zr_dyn8, zr_or, zr_shl, q_cpy_n, y_cpy26, c_X6_yearOf]
        refine mp_yearT m2 (by omega) t2 (fun M3 m3 w3 y3 n3 t3 => ?_)
        simp (disch := omega) only [b_X6_weather_0, x_loadI_1, x_i2l, x_lconst, x_ladd, x_storeL_2, x_loadR_0, x_loadS_0, x_iconst, x_storeI_4, x_loadI_4, y_ic_ge_t, y_ic_ge_f, b_X6_weather_19, x_loadL_2, x_lmul, y_lrem, x_l2i, x_storeI_5, x_loadI_5, f_6_0, b_X6_weather_56, f_6_4, x_imul, y_iast_35, x_iadd, b_X6_weather_83, x_popI, x_popR, x_iinc_4, x_goto, b_X6_weather_94, p_6_36, x_ret0, q_isL_I, q_isL_R, q_isL_S, true_and, and_true, and_self, List.length_nil, List.length_cons, Nat.zero_add, x_K, x_Kn, Int.reduceToNat, Nat.reduceAdd, Nat.reduceMul, Nat.reduceLeDiff, Nat.reduceLT, Nat.zero_le, Int.reduceAdd, Int.reduceSub, Int.reduceMul, Int.reduceNeg, q_add_e, q_sub_e, q_mul_e, q_neg_e, q_upd_s, q_upd_n, zr_shr0, zr_shr1, zr_shr2, zr_shr3, zr_shr4, zr_and, zr_dyn8, zr_or, zr_shl, q_cpy_n, y_cpy26, hl3, hl5]
        exact ih2 M3 l3 l5 hl3 hl5 hy0.1 (by omega) m3 (by rw [w3, w2]) (by omega) (n3.trans n2) t3
      by_cases c1 : (N : Int) < M 100 0
      · simp (disch := omega) only [b_X6_weather_0, x_loadI_1, x_i2l, x_lconst, x_ladd, x_storeL_2, x_loadR_0, x_loadS_0, x_iconst, x_storeI_4, x_loadI_4, y_ic_ge_t, y_ic_ge_f, b_X6_weather_19, x_loadL_2, x_lmul, y_lrem, x_l2i, x_storeI_5, x_loadI_5, f_6_0, b_X6_weather_56, f_6_4, x_imul, y_iast_35, x_iadd, x_popI, x_popR, x_iinc_4, x_goto, b_X6_weather_94, p_6_36, x_ret0, q_isL_I, q_isL_R, q_isL_S, true_and, and_true, and_self, List.length_nil, List.length_cons, Nat.zero_add, x_K, x_Kn, Int.reduceToNat, Nat.reduceAdd, Nat.reduceMul, Nat.reduceLeDiff, Nat.reduceLT, Nat.zero_le, Int.reduceAdd, Int.reduceSub, Int.reduceMul, Int.reduceNeg, q_add_e, q_sub_e, q_mul_e, q_neg_e, q_upd_s, q_upd_n, zr_shr0, zr_shr1, zr_shr2, zr_shr3, zr_shr4, zr_and, zr_dyn8, zr_or, zr_shl, q_cpy_n, y_cpy26, q_lmul_e, q_lrem_e, q_l2i_e, hy1, hN, hl3, hl5, tn_30, tn_32]
        refine py _ _ _ rfl rfl (q_ml_up (q_ml_up m1 (q_ok2 hyr) (by omega) (by omega) (by omega)) (q_ok4 (by omega)) (by omega) (by omega) (by omega)) ?_ ?_ ?_ (q_mt_up (q_mt_up t1 (by omega)) (by omega))
        · rw [if_pos c1, mW_up4 (by rw [q_upd_n (by omega), e0]; omega), mW_up2 (by rw [e0]; omega), w1]
          rfl
        · rw [q_upd_n (by omega), q_upd_n (by omega)]
          omega
        · rw [q_upd_n (by omega), q_upd_n (by omega)]
          exact e0
      · simp (disch := omega) only [b_X6_weather_0, x_loadI_1, x_i2l, x_lconst, x_ladd, x_storeL_2, x_loadR_0, x_loadS_0, x_iconst, x_storeI_4, x_loadI_4, y_ic_ge_t, y_ic_ge_f, b_X6_weather_19, x_loadL_2, x_lmul, y_lrem, x_l2i, x_storeI_5, x_loadI_5, f_6_0, b_X6_weather_56, f_6_4, x_imul, y_iast_35, x_iadd, x_popI, x_popR, x_iinc_4, x_goto, b_X6_weather_94, p_6_36, x_ret0, q_isL_I, q_isL_R, q_isL_S, true_and, and_true, and_self, List.length_nil, List.length_cons, Nat.zero_add, x_K, x_Kn, Int.reduceToNat, Nat.reduceAdd, Nat.reduceMul, Nat.reduceLeDiff, Nat.reduceLT, Nat.zero_le, Int.reduceAdd, Int.reduceSub, Int.reduceMul, Int.reduceNeg, q_add_e, q_sub_e, q_mul_e, q_neg_e, q_upd_s, q_upd_n, zr_shr0, zr_shr1, zr_shr2, zr_shr3, zr_shr4, zr_and, zr_dyn8, zr_or, zr_shl, q_cpy_n, y_cpy26, q_lmul_e, q_lrem_e, q_l2i_e, hy1, hN, hl3, hl5]
        exact py _ _ _ rfl rfl m1 (by rw [if_neg c1]; exact w1) (by omega) e0 t1
  simp (disch := omega) only [b_X6_weather_0, x_loadI_1, x_i2l, x_lconst, x_ladd, x_storeL_2, x_loadR_0, x_loadS_0, x_iconst, x_storeI_4, x_loadI_4, y_ic_ge_t, y_ic_ge_f, b_X6_weather_19, x_loadL_2, x_lmul, y_lrem, x_l2i, x_storeI_5, x_loadI_5, f_6_0, b_X6_weather_56, f_6_4, x_imul, y_iast_35, x_iadd, x_popI, x_popR, x_iinc_4, x_goto, b_X6_weather_94, p_6_36, x_ret0, q_isL_I, q_isL_R, q_isL_S, true_and, and_true, and_self, List.length_nil, List.length_cons, Nat.zero_add, x_K, x_Kn, Int.reduceToNat, Nat.reduceAdd, Nat.reduceMul, Nat.reduceLeDiff, Nat.reduceLT, Nat.zero_le, Int.reduceAdd, Int.reduceSub, Int.reduceMul, Int.reduceNeg, q_add_e, q_sub_e, q_mul_e, q_neg_e, q_upd_s, q_upd_n, zr_shr0, zr_shr1, zr_shr2, zr_shr3, zr_shr4, zr_and, zr_dyn8, zr_or, zr_shl, q_cpy_n, y_cpy26, q_i2l_e, q_ladd_e, c_X6_keeps]
  have keep : ∀ (nx : Nat) (ops : List Instr) (ls st : List q_V), (∀ M2 : q_M, q_ml V M2 → mW M2 = mW M → q_mt M M2 → q_T 1 (d + 8) qP_X6_weather nx ops ls st g M2 QQ) → q_S 1 (d + 7) 154 [qR 6 100] g M0 (q_K 1 (d + 8) qP_X6_weather nx ops ls st QQ) := fun nx ops ls st h => mp_keepT C.1 h0 h
  refine keep _ _ _ _ (fun M2 m2 w2 t2 => ?_)
  have e5 : M2 100 5 = M 100 5 := by rw [← mW_91 (M := M2), w2, mW_91]
  have e0 : M2 100 0 = M 100 0 := by rw [← mW_90 (M := M2), w2, mW_90]
  simp (disch := omega) only [b_X6_weather_0, x_loadI_1, x_i2l, x_lconst, x_ladd, x_storeL_2, x_loadR_0, x_loadS_0, x_iconst, x_storeI_4, x_loadI_4, y_ic_ge_t, y_ic_ge_f, b_X6_weather_19, x_loadL_2, x_lmul, y_lrem, x_l2i, x_storeI_5, x_loadI_5, f_6_0, b_X6_weather_56, f_6_4, x_imul, y_iast_35, x_iadd, x_popI, x_popR, x_iinc_4, x_goto, b_X6_weather_94, p_6_36, x_ret0, q_isL_I, q_isL_R, q_isL_S, true_and, and_true, and_self, List.length_nil, List.length_cons, Nat.zero_add, x_K, x_Kn, Int.reduceToNat, Nat.reduceAdd, Nat.reduceMul, Nat.reduceLeDiff, Nat.reduceLT, Nat.zero_le, Int.reduceAdd, Int.reduceSub, Int.reduceMul, Int.reduceNeg, q_add_e, q_sub_e, q_mul_e, q_neg_e, q_upd_s, q_upd_n, zr_shr0, zr_shr1, zr_shr2, zr_shr3, zr_shr4, zr_and, zr_dyn8, zr_or, zr_shl, q_cpy_n, y_cpy26]
  exact loop 8 0 rfl M2 _ _ rfl rfl (by show 0 ≤ seed + 1; omega) (by show seed + 1 ≤ 2147483647; omega) m2 w2 (by omega) e0 t2
def B_drawn (V : Nat → (Nat → Int) → Int) (S : q_M) (seed wt : Int) : Int := if ¬((0 ≤ seed ∧ seed ≤ 99999) ∧ (0 ≤ wt ∧ wt ≤ 1)) then -2 else if wt = 0 then F_dig ((G_wth V S seed 8).2 4) (S 9 0).toNat else F_cnt ((G_wth V S seed 8).2 4) 5 (S 9 0).toNat
set_option maxHeartbeats 4000000 in
theorem mp_drawn {V : Nat → (Nat → Int) → Int} {d : Nat} {g : q_G} {M : q_M} {seed wt : Int} {Q : Option q_V → q_G → q_M → Prop} (C : q_mi V M) (hq : ∀ M2 : q_M, q_mq M M2 → Q (some (qI (B_drawn V (mW M) seed wt))) g M2) : q_S 1 (d + 9) 189 [qR 6 100, qI seed, qI wt] g M Q := by
  rw [s_X6_drawn]
  unfold B_drawn at hq
  rw [mW_90] at hq
  by_cases c1 : 0 ≤ seed ∧ seed ≤ 99999
  · by_cases c2 : 0 ≤ wt ∧ wt ≤ 1
    · rw [if_neg (fun z => z ⟨c1, c2⟩)] at hq
      simp (disch := omega) only [b_X6_drawn_0, x_loadI_1, x_iconst, y_if_eq_t, y_if_eq_f, b_X6_drawn_11, x_loadI_2, y_if_ne_t, y_if_ne_f, b_X6_drawn_20, x_ret0, b_X6_drawn_23, x_loadR_0, x_loadS_0, x_storeI_3, b_X6_drawn_33, x_loadI_3, x_goto, b_X6_drawn_37, f_6_36, b_X6_drawn_41, q_isL_I, q_isL_R, q_isL_S, true_and, and_true, and_self, List.length_nil, List.length_cons, Nat.zero_add, x_K, x_Kn, Int.reduceToNat, Nat.reduceAdd, Nat.reduceMul, Nat.reduceLeDiff, Nat.reduceLT, Nat.zero_le, Int.reduceAdd, Int.reduceSub, Int.reduceMul, Int.reduceNeg, q_add_e, q_sub_e, q_mul_e, q_neg_e, q_upd_s, q_upd_n, zr_shr0, zr_shr1, zr_shr2, zr_shr3, zr_shr4, zr_and, zr_dyn8, zr_or, zr_shl, q_cpy_n, y_cpy26, c_X6_in, mp_in, c1, c2, and_self, if_true, c_X6_weather]
      refine mp_weather C q_mq_rf (by omega) (by omega) (fun M3 h3 e3 => ?_)
      rcases (show wt = 0 ∨ wt = 1 by omega) with e | e
      · rw [if_pos e] at hq
        simp (disch := omega) only [b_X6_drawn_0, x_loadI_1, x_iconst, y_if_eq_t, y_if_eq_f, b_X6_drawn_11, x_loadI_2, y_if_ne_t, y_if_ne_f, b_X6_drawn_20, x_ret0, b_X6_drawn_23, x_loadR_0, x_loadS_0, x_storeI_3, b_X6_drawn_33, x_loadI_3, x_goto, b_X6_drawn_37, f_6_36, b_X6_drawn_41, q_isL_I, q_isL_R, q_isL_S, true_and, and_true, and_self, List.length_nil, List.length_cons, Nat.zero_add, x_K, x_Kn, Int.reduceToNat, Nat.reduceAdd, Nat.reduceMul, Nat.reduceLeDiff, Nat.reduceLT, Nat.zero_le, Int.reduceAdd, Int.reduceSub, Int.reduceMul, Int.reduceNeg, q_add_e, q_sub_e, q_mul_e, q_neg_e, q_upd_s, q_upd_n, zr_shr0, zr_shr1, zr_shr2, zr_shr3, zr_shr4, zr_and, zr_dyn8, zr_or, zr_shl, q_cpy_n, y_cpy26]
        exact hq M3 h3
      · rw [if_neg (by omega)] at hq
        simp (disch := omega) only [b_X6_drawn_0, x_loadI_1, x_iconst, y_if_eq_t, y_if_eq_f, b_X6_drawn_11, x_loadI_2, y_if_ne_t, y_if_ne_f, b_X6_drawn_20, x_ret0, b_X6_drawn_23, x_loadR_0, x_loadS_0, x_storeI_3, b_X6_drawn_33, x_loadI_3, x_goto, b_X6_drawn_37, f_6_36, b_X6_drawn_41, q_isL_I, q_isL_R, q_isL_S, true_and, and_true, and_self, List.length_nil, List.length_cons, Nat.zero_add, x_K, x_Kn, Int.reduceToNat, Nat.reduceAdd, Nat.reduceMul, Nat.reduceLeDiff, Nat.reduceLT, Nat.zero_le, Int.reduceAdd, Int.reduceSub, Int.reduceMul, Int.reduceNeg, q_add_e, q_sub_e, q_mul_e, q_neg_e, q_upd_s, q_upd_n, zr_shr0, zr_shr1, zr_shr2, zr_shr3, zr_shr4, zr_and, zr_dyn8, zr_or, zr_shl, q_cpy_n, y_cpy26, e3]
        exact hq M3 h3
    · rw [if_pos (fun z => c2 z.2)] at hq
      simp (disch := omega) only [b_X6_drawn_0, x_loadI_1, x_iconst, y_if_eq_t, y_if_eq_f, b_X6_drawn_11, x_loadI_2, y_if_ne_t, y_if_ne_f, b_X6_drawn_20, x_ret0, b_X6_drawn_23, x_loadR_0, x_loadS_0, x_storeI_3, b_X6_drawn_33, x_loadI_3, x_goto, b_X6_drawn_37, f_6_36, b_X6_drawn_41, q_isL_I, q_isL_R, q_isL_S, true_and, and_true, and_self, List.length_nil, List.length_cons, Nat.zero_add, x_K, x_Kn, Int.reduceToNat, Nat.reduceAdd, Nat.reduceMul, Nat.reduceLeDiff, Nat.reduceLT, Nat.zero_le, Int.reduceAdd, Int.reduceSub, Int.reduceMul, Int.reduceNeg, q_add_e, q_sub_e, q_mul_e, q_neg_e, q_upd_s, q_upd_n, zr_shr0, zr_shr1, zr_shr2, zr_shr3, zr_shr4, zr_and, zr_dyn8, zr_or, zr_shl, q_cpy_n, y_cpy26, c_X6_in, mp_in, c1, c2, and_self, if_true, if_false]
      exact hq M q_mq_rf
  · rw [if_pos (fun z => c1 z.1)] at hq
    simp (disch := omega) only [b_X6_drawn_0, x_loadI_1, x_iconst, y_if_eq_t, y_if_eq_f, b_X6_drawn_11, x_loadI_2, y_if_ne_t, y_if_ne_f, b_X6_drawn_20, x_ret0, b_X6_drawn_23, x_loadR_0, x_loadS_0, x_storeI_3, b_X6_drawn_33, x_loadI_3, x_goto, b_X6_drawn_37, f_6_36, b_X6_drawn_41, q_isL_I, q_isL_R, q_isL_S, true_and, and_true, and_self, List.length_nil, List.length_cons, Nat.zero_add, x_K, x_Kn, Int.reduceToNat, Nat.reduceAdd, Nat.reduceMul, Nat.reduceLeDiff, Nat.reduceLT, Nat.zero_le, Int.reduceAdd, Int.reduceSub, Int.reduceMul, Int.reduceNeg, q_add_e, q_sub_e, q_mul_e, q_neg_e, q_upd_s, q_upd_n, zr_shr0, zr_shr1, zr_shr2, zr_shr3, zr_shr4, zr_and, zr_dyn8, zr_or, zr_shl, q_cpy_n, y_cpy26, c_X6_in, mp_in, c1, if_false]
    exact hq M q_mq_rf
def B_low (a b part : Int) : Int := if a = 0 then part else (if part = 0 then a else b) / (Nat.gcd a.toNat b.toNat : Nat)
set_option maxHeartbeats 4000000 in
theorem mp_low {d : Nat} {g : q_G} {M : q_M} {a b part : Int} {Q : Option q_V → q_G → q_M → Prop} (ha0 : 0 ≤ a) (ha : a ≤ 100000) (hb0 : 0 ≤ b) (hb : b ≤ 100000) (hp : 0 ≤ part ∧ part ≤ 1) (hq : Q (some (qL (B_low a b part))) g M) : q_S 1 d 177 [qL a, qL b, qI part] g M Q := by
  rw [s_X6_lowest]
  unfold B_low at hq
  by_cases c0 : a = 0
  · rw [if_pos c0] at hq
    subst c0
    have e : q_lcmp 0 0 = 0 := q_lcmp_eq rfl
    simp (disch := omega) only [b_X6_lowest_0, x_loadL_0, x_lconst, x_lcmp, y_if_ne_t, y_if_ne_f, b_X6_lowest_6, x_loadI_4, x_i2l, x_lret, b_X6_lowest_10, x_storeL_5, x_loadL_2, x_storeL_7, x_loadL_7, y_if_eq_t, y_if_eq_f, b_X6_lowest_23, x_loadL_5, y_lrem, x_storeL_9, x_loadL_9, x_goto, b_X6_lowest_41, b_X6_lowest_46, b_X6_lowest_50, b_X6_lowest_51, y_ldiv, q_isL_I, q_isL_R, q_isL_S, true_and, and_true, and_self, List.length_nil, List.length_cons, Nat.zero_add, x_K, x_Kn, Int.reduceToNat, Nat.reduceAdd, Nat.reduceMul, Nat.reduceLeDiff, Nat.reduceLT, Nat.zero_le, Int.reduceAdd, Int.reduceSub, Int.reduceMul, Int.reduceNeg, q_add_e, q_sub_e, q_mul_e, q_neg_e, q_upd_s, q_upd_n, zr_shr0, zr_shr1, zr_shr2, zr_shr3, zr_shr4, zr_and, zr_dyn8, zr_or, zr_shl, q_cpy_n, y_cpy26, e, q_i2l_e]
    exact hq
  · rw [if_neg c0] at hq
    have loop : ∀ m : Nat, ∀ x y : Nat, y ≤ m → x ≤ 100000 → y ≤ 100000 → Nat.gcd x y = Nat.gcd a.toNat b.toNat → ∀ (l6 l8 l9 l10 : q_V), q_isL l6 = false → q_isL l8 = false → q_T 1 d qP_X6_lowest 16 [] [qL a, qS 0, qL b, qS 0, qI part, qL x, l6, qL y, l8, l9, l10] [] g M Q := by
      intro m
      induction m with
      | zero =>
        intro x y hy hx hyb hg l6 l8 l9 l10 hl6 hl8
        have ey : y = 0 := by omega
        subst ey
        rw [Nat.gcd_zero_right] at hg
        rw [← hg] at hq
        have hx1 : 0 < x := by
          rw [hg]
          exact Nat.gcd_pos_of_pos_left _ (by omega)
        have e : q_lcmp ((0 : Nat) : Int) 0 = 0 := q_lcmp_eq rfl
        rw [b_X6_lowest_16]
        by_cases cp : part = 0
        · rw [if_pos cp] at hq
          simp (disch := omega) only [b_X6_lowest_0, x_loadL_0, x_lconst, x_lcmp, y_if_ne_t, y_if_ne_f, b_X6_lowest_6, x_loadI_4, x_i2l, x_lret, b_X6_lowest_10, x_storeL_5, x_loadL_2, x_storeL_7, x_loadL_7, y_if_eq_t, y_if_eq_f, b_X6_lowest_23, x_loadL_5, y_lrem, x_storeL_9, x_loadL_9, x_goto, b_X6_lowest_41, b_X6_lowest_46, b_X6_lowest_50, b_X6_lowest_51, y_ldiv, q_isL_I, q_isL_R, q_isL_S, true_and, and_true, and_self, List.length_nil, List.length_cons, Nat.zero_add, x_K, x_Kn, Int.reduceToNat, Nat.reduceAdd, Nat.reduceMul, Nat.reduceLeDiff, Nat.reduceLT, Nat.zero_le, Int.reduceAdd, Int.reduceSub, Int.reduceMul, Int.reduceNeg, q_add_e, q_sub_e, q_mul_e, q_neg_e, q_upd_s, q_upd_n, zr_shr0, zr_shr1, zr_shr2, zr_shr3, zr_shr4, zr_and, zr_dyn8, zr_or, zr_shl, q_cpy_n, y_cpy26, e, q_ldiv_e]
          exact hq
        · rw [if_neg cp] at hq
          simp (disch := omega) only [b_X6_lowest_0, x_loadL_0, x_lconst, x_lcmp, y_if_ne_t, y_if_ne_f, b_X6_lowest_6, x_loadI_4, x_i2l, x_lret, b_X6_lowest_10, x_storeL_5, x_loadL_2, x_storeL_7, x_loadL_7, y_if_eq_t, y_if_eq_f, b_X6_lowest_23, x_loadL_5, y_lrem, x_storeL_9, x_loadL_9, x_goto, b_X6_lowest_41, b_X6_lowest_46, b_X6_lowest_50, b_X6_lowest_51, y_ldiv, q_isL_I, q_isL_R, q_isL_S, true_and, and_true, and_self, List.length_nil, List.length_cons, Nat.zero_add, x_K, x_Kn, Int.reduceToNat, Nat.reduceAdd, Nat.reduceMul, Nat.reduceLeDiff, Nat.reduceLT, Nat.zero_le, Int.reduceAdd, Int.reduceSub, Int.reduceMul, Int.reduceNeg, q_add_e, q_sub_e, q_mul_e, q_neg_e, q_upd_s, q_upd_n, zr_shr0, zr_shr1, zr_shr2, zr_shr3, zr_shr4, zr_and, zr_dyn8, zr_or, zr_shl, q_cpy_n, y_cpy26, e, q_ldiv_e]
          exact hq
      | succ m ih =>
        intro x y hy hx hyb hg l6 l8 l9 l10 hl6 hl8
        by_cases ey : y = 0
        · subst ey
          rw [Nat.gcd_zero_right] at hg
          rw [← hg] at hq
          have hx1 : 0 < x := by
            rw [hg]
            exact Nat.gcd_pos_of_pos_left _ (by omega)
          have e : q_lcmp ((0 : Nat) : Int) 0 = 0 := q_lcmp_eq rfl
          rw [b_X6_lowest_16]
          by_cases cp : part = 0
          · rw [if_pos cp] at hq
            simp (disch := omega) only [b_X6_lowest_0, x_loadL_0, x_lconst, x_lcmp, y_if_ne_t, y_if_ne_f, b_X6_lowest_6, x_loadI_4, x_i2l, x_lret, b_X6_lowest_10, x_storeL_5, x_loadL_2, x_storeL_7, x_loadL_7, y_if_eq_t, y_if_eq_f, b_X6_lowest_23, x_loadL_5, y_lrem, x_storeL_9, x_loadL_9, x_goto, b_X6_lowest_41, b_X6_lowest_46, b_X6_lowest_50, b_X6_lowest_51, y_ldiv, q_isL_I, q_isL_R, q_isL_S, true_and, and_true, and_self, List.length_nil, List.length_cons, Nat.zero_add, x_K, x_Kn, Int.reduceToNat, Nat.reduceAdd, Nat.reduceMul, Nat.reduceLeDiff, Nat.reduceLT, Nat.zero_le, Int.reduceAdd, Int.reduceSub, Int.reduceMul, Int.reduceNeg, q_add_e, q_sub_e, q_mul_e, q_neg_e, q_upd_s, q_upd_n, zr_shr0, zr_shr1, zr_shr2, zr_shr3, zr_shr4, zr_and, zr_dyn8, zr_or, zr_shl, q_cpy_n, y_cpy26, e, q_ldiv_e]
            exact hq
          · rw [if_neg cp] at hq
            simp (disch := omega) only [b_X6_lowest_0, x_loadL_0, x_lconst, x_lcmp, y_if_ne_t, y_if_ne_f, b_X6_lowest_6, x_loadI_4, x_i2l, x_lret, b_X6_lowest_10, x_storeL_5, x_loadL_2, x_storeL_7, x_loadL_7, y_if_eq_t, y_if_eq_f, b_X6_lowest_23, x_loadL_5, y_lrem, x_storeL_9, x_loadL_9, x_goto, b_X6_lowest_41, b_X6_lowest_46, b_X6_lowest_50, b_X6_lowest_51, y_ldiv, q_isL_I, q_isL_R, q_isL_S, true_and, and_true, and_self, List.length_nil, List.length_cons, Nat.zero_add, x_K, x_Kn, Int.reduceToNat, Nat.reduceAdd, Nat.reduceMul, Nat.reduceLeDiff, Nat.reduceLT, Nat.zero_le, Int.reduceAdd, Int.reduceSub, Int.reduceMul, Int.reduceNeg, q_add_e, q_sub_e, q_mul_e, q_neg_e, q_upd_s, q_upd_n, zr_shr0, zr_shr1, zr_shr2, zr_shr3, zr_shr4, zr_and, zr_dyn8, zr_or, zr_shl, q_cpy_n, y_cpy26, e, q_ldiv_e]
            exact hq
        · have e : q_lcmp (y : Int) 0 = 1 := q_lcmp_gt (by omega)
          have er : q_lrem (x : Int) (y : Int) = ((x % y : Nat) : Int) := by
            rw [q_lrem_e (by omega) (by omega) (by omega) (by omega)]
            exact (Int.natCast_emod x y).symm
          have hlt : x % y < y := Nat.mod_lt _ (by omega)
          rw [b_X6_lowest_16]
          simp (disch := omega) only [b_X6_lowest_0, x_loadL_0, x_lconst, x_lcmp, y_if_ne_t, y_if_ne_f, b_X6_lowest_6, x_loadI_4, x_i2l, x_lret, b_X6_lowest_10, x_storeL_5, x_loadL_2, x_storeL_7, x_loadL_7, y_if_eq_t, y_if_eq_f, b_X6_lowest_23, x_loadL_5, y_lrem, x_storeL_9, x_loadL_9, x_goto, b_X6_lowest_41, b_X6_lowest_46, b_X6_lowest_50, b_X6_lowest_51, y_ldiv, q_isL_I, q_isL_R, q_isL_S, true_and, and_true, and_self, List.length_nil, List.length_cons, Nat.zero_add, x_K, x_Kn, Int.reduceToNat, Nat.reduceAdd, Nat.reduceMul, Nat.reduceLeDiff, Nat.reduceLT, Nat.zero_le, Int.reduceAdd, Int.reduceSub, Int.reduceMul, Int.reduceNeg, q_add_e, q_sub_e, q_mul_e, q_neg_e, q_upd_s, q_upd_n, zr_shr0, zr_shr1, zr_shr2, zr_shr3, zr_shr4, zr_and, zr_dyn8, zr_or, zr_shl, q_cpy_n, y_cpy26, e, er, hl6, hl8]
          refine ih y (x % y) (by omega) hyb (by omega) ?_ _ _ _ _ rfl rfl
          rw [Nat.gcd_comm, ← Nat.gcd_rec, Nat.gcd_comm]
          exact hg
    have e : q_lcmp a 0 = 1 := q_lcmp_gt (by omega)
    have l := loop b.toNat a.toNat b.toNat (Nat.le_refl _) (by omega) (by omega) rfl
    rw [show ((a.toNat : Nat) : Int) = a by omega, show ((b.toNat : Nat) : Int) = b by omega] at l
    simp (disch := omega) only [b_X6_lowest_0, x_loadL_0, x_lconst, x_lcmp, y_if_ne_t, y_if_ne_f, b_X6_lowest_6, x_loadI_4, x_i2l, x_lret, b_X6_lowest_10, x_storeL_5, x_loadL_2, x_storeL_7, x_loadL_7, y_if_eq_t, y_if_eq_f, b_X6_lowest_23, x_loadL_5, y_lrem, x_storeL_9, x_loadL_9, x_goto, b_X6_lowest_41, b_X6_lowest_46, b_X6_lowest_50, b_X6_lowest_51, y_ldiv, q_isL_I, q_isL_R, q_isL_S, true_and, and_true, and_self, List.length_nil, List.length_cons, Nat.zero_add, x_K, x_Kn, Int.reduceToNat, Nat.reduceAdd, Nat.reduceMul, Nat.reduceLeDiff, Nat.reduceLT, Nat.zero_le, Int.reduceAdd, Int.reduceSub, Int.reduceMul, Int.reduceNeg, q_add_e, q_sub_e, q_mul_e, q_neg_e, q_upd_s, q_upd_n, zr_shr0, zr_shr1, zr_shr2, zr_shr3, zr_shr4, zr_and, zr_dyn8, zr_or, zr_shl, q_cpy_n, y_cpy26, e]
    exact l _ _ _ _ rfl rfl
end
section
/-! THE MODEL: share, odds -/
def B_share (M : q_M) (part : Int) : Int := if (0 ≤ part ∧ part ≤ 1) ∧ 0 < (F_wt (fun i => M 104 (3 * i + 1)) (mIn M) (M 100 0).toNat).2 then B_low (F_wt (fun i => M 104 (3 * i + 1)) (mIn M) (M 100 0).toNat).1 (F_wt (fun i => M 104 (3 * i + 1)) (mIn M) (M 100 0).toNat).2 part else -4611686018427387904
theorem F_wt_cong {W W' f f' : Nat → Int} : ∀ n : Nat, (∀ k, k < n → W k = W' k) → (∀ k, k < n → f k = f' k) → F_wt W f n = F_wt W' f' n
  | 0, _, _ => rfl
  | n + 1, h1, h2 => by rw [F_wt, F_wt, F_wt_cong n (fun k hk => h1 k (by omega)) (fun k hk => h2 k (by omega)), h1 n (by omega), h2 n (by omega)]
theorem F_wt_le5 {W f : Nat → Int} {N : Nat} (h : ∀ i, i < N → 0 ≤ W i ∧ W i ≤ 99) : ∀ n : Nat, n ≤ N → 0 ≤ (F_wt W f n).1 ∧ (F_wt W f n).1 ≤ 99 * n ∧ 0 ≤ (F_wt W f n).2 ∧ (F_wt W f n).2 ≤ 99 * n
  | 0, _ => by rw [F_wt]; omega
  | n + 1, hn => by
    have h1 := F_wt_le5 (f := f) h n (by omega)
    have h2 := h n (by omega)
    rw [F_wt]
    refine ⟨?_, ?_, ?_, ?_⟩ <;> (try split) <;> omega
set_option maxHeartbeats 4000000 in
theorem mp_share {d : Nat} {g : q_G} {M : q_M} {part : Int} {Q : Option q_V → q_G → q_M → Prop} (hb : q_mb M) (hq : Q (some (qL (B_share M part))) g M) : q_S 1 (d + 1) 178 [qR 6 100, qI part] g M Q := by
  obtain ⟨r0, r1, r2, r3, r4, r5, r6, r7, r8, r9, ra⟩ := hb
  have hW : ∀ i, i < 5 → 0 ≤ (fun i => M 104 (3 * i + 1)) i ∧ (fun i => M 104 (3 * i + 1)) i ≤ 99 := r5
  rw [s_X6_share]
  unfold B_share at hq
  have loop : ∀ j k : Nat, k + j = (M 100 0).toNat → q_T 1 (d + 1) qP_X6_share 7 [] [qR 6 100, qI part, qI (F_wt (fun i => M 104 (3 * i + 1)) (mIn M) k).1, qI (F_wt (fun i => M 104 (3 * i + 1)) (mIn M) k).2, qI k] [] g M Q := by
    intro j
    induction j with
    | zero =>
      intro k hk
      have hb := F_wt_le5 (f := mIn M) hW k (by omega)
      have e : k = (M 100 0).toNat := by omega
      rw [← e] at hq
      rw [b_X6_share_7]
      by_cases c1 : 0 ≤ part ∧ part ≤ 1
      · by_cases c2 : 0 < (F_wt (fun i => M 104 (3 * i + 1)) (mIn M) k).2
        · rw [if_pos ⟨c1, c2⟩] at hq
          have low : ∀ (nx : Nat) (ops : List Instr) (ls st : List q_V), q_T 1 (d + 1) qP_X6_share nx ops ls (qL (B_low (F_wt (fun i => M 104 (3 * i + 1)) (mIn M) k).1 (F_wt (fun i => M 104 (3 * i + 1)) (mIn M) k).2 part) :: st) g M Q → q_S 1 d 177 [qL (F_wt (fun i => M 104 (3 * i + 1)) (mIn M) k).1, qL (F_wt (fun i => M 104 (3 * i + 1)) (mIn M) k).2, qI part] g M (q_K 1 (d + 1) qP_X6_share nx ops ls st Q) := fun nx ops ls st h => mp_low (by omega) (by omega) (by omega) (by omega) c1 h
          simp (disch := omega) only [b_X6_share_0, x_iconst, x_storeI_2, x_storeI_3, x_storeI_4, x_loadI_4, x_loadR_0, x_loadS_0, f_6_0, y_ic_ge_t, y_ic_ge_f, b_X6_share_16, x_loadI_3, f_6_4, x_imul, x_iadd, y_iald_35, x_loadI_2, y_ic_ne_t, y_ic_ne_f, b_X6_share_46, x_goto, b_X6_share_50, b_X6_share_61, x_iinc_4, b_X6_share_69, x_loadI_1, y_if_eq_t, y_if_eq_f, b_X6_share_78, y_if_le_t, y_if_le_f, b_X6_share_82, x_i2l, b_X6_share_93, x_lconst, b_X6_share_96, x_lret, q_isL_I, q_isL_R, q_isL_S, true_and, and_true, and_self, List.length_nil, List.length_cons, Nat.zero_add, x_K, x_Kn, Int.reduceToNat, Nat.reduceAdd, Nat.reduceMul, Nat.reduceLeDiff, Nat.reduceLT, Nat.zero_le, Int.reduceAdd, Int.reduceSub, Int.reduceMul, Int.reduceNeg, q_add_e, q_sub_e, q_mul_e, q_neg_e, q_upd_s, q_upd_n, zr_shr0, zr_shr1, zr_shr2, zr_shr3, zr_shr4, zr_and, zr_dyn8, zr_or, zr_shl, q_cpy_n, y_cpy26, c_X6_in, mp_in, c1, and_self, if_true, q_i2l_e, c_X6_lowest]
          refine low _ _ _ _ ?_
          simp (disch := omega) only [b_X6_share_0, x_iconst, x_storeI_2, x_storeI_3, x_storeI_4, x_loadI_4, x_loadR_0, x_loadS_0, f_6_0, y_ic_ge_t, y_ic_ge_f, b_X6_share_16, x_loadI_3, f_6_4, x_imul, x_iadd, y_iald_35, x_loadI_2, y_ic_ne_t, y_ic_ne_f, b_X6_share_46, x_goto, b_X6_share_50, b_X6_share_61, x_iinc_4, b_X6_share_69, x_loadI_1, y_if_eq_t, y_if_eq_f, b_X6_share_78, y_if_le_t, y_if_le_f, b_X6_share_82, x_i2l, b_X6_share_93, x_lconst, b_X6_share_96, x_lret, q_isL_I, q_isL_R, q_isL_S, true_and, and_true, and_self, List.length_nil, List.length_cons, Nat.zero_add, x_K, x_Kn, Int.reduceToNat, Nat.reduceAdd, Nat.reduceMul, Nat.reduceLeDiff, Nat.reduceLT, Nat.zero_le, Int.reduceAdd, Int.reduceSub, Int.reduceMul, Int.reduceNeg, q_add_e, q_sub_e, q_mul_e, q_neg_e, q_upd_s, q_upd_n, zr_shr0, zr_shr1, zr_shr2, zr_shr3, zr_shr4, zr_and, zr_dyn8, zr_or, zr_shl, q_cpy_n, y_cpy26]
          exact hq
        · rw [if_neg (fun z => c2 z.2)] at hq
          simp (disch := omega) only [b_X6_share_0, x_iconst, x_storeI_2, x_storeI_3, x_storeI_4, x_loadI_4, x_loadR_0, x_loadS_0, f_6_0, y_ic_ge_t, y_ic_ge_f, b_X6_share_16, x_loadI_3, f_6_4, x_imul, x_iadd, y_iald_35, x_loadI_2, y_ic_ne_t, y_ic_ne_f, b_X6_share_46, x_goto, b_X6_share_50, b_X6_share_61, x_iinc_4, b_X6_share_69, x_loadI_1, y_if_eq_t, y_if_eq_f, b_X6_share_78, y_if_le_t, y_if_le_f, b_X6_share_82, x_i2l, b_X6_share_93, x_lconst, b_X6_share_96, x_lret, q_isL_I, q_isL_R, q_isL_S, true_and, and_true, and_self, List.length_nil, List.length_cons, Nat.zero_add, x_K, x_Kn, Int.reduceToNat, Nat.reduceAdd, Nat.reduceMul, Nat.reduceLeDiff, Nat.reduceLT, Nat.zero_le, Int.reduceAdd, Int.reduceSub, Int.reduceMul, Int.reduceNeg, q_add_e, q_sub_e, q_mul_e, q_neg_e, q_upd_s, q_upd_n, zr_shr0, zr_shr1, zr_shr2, zr_shr3, zr_shr4, zr_and, zr_dyn8, zr_or, zr_shl, q_cpy_n, y_cpy26, c_X6_in, mp_in, c1, and_self, if_true]
          exact hq
      · rw [if_neg (fun z => c1 z.1)] at hq
        simp (disch := omega) only [b_X6_share_0, x_iconst, x_storeI_2, x_storeI_3, x_storeI_4, x_loadI_4, x_loadR_0, x_loadS_0, f_6_0, y_ic_ge_t, y_ic_ge_f, b_X6_share_16, x_loadI_3, f_6_4, x_imul, x_iadd, y_iald_35, x_loadI_2, y_ic_ne_t, y_ic_ne_f, b_X6_share_46, x_goto, b_X6_share_50, b_X6_share_61, x_iinc_4, b_X6_share_69, x_loadI_1, y_if_eq_t, y_if_eq_f, b_X6_share_78, y_if_le_t, y_if_le_f, b_X6_share_82, x_i2l, b_X6_share_93, x_lconst, b_X6_share_96, x_lret, q_isL_I, q_isL_R, q_isL_S, true_and, and_true, and_self, List.length_nil, List.length_cons, Nat.zero_add, x_K, x_Kn, Int.reduceToNat, Nat.reduceAdd, Nat.reduceMul, Nat.reduceLeDiff, Nat.reduceLT, Nat.zero_le, Int.reduceAdd, Int.reduceSub, Int.reduceMul, Int.reduceNeg, q_add_e, q_sub_e, q_mul_e, q_neg_e, q_upd_s, q_upd_n, zr_shr0, zr_shr1, zr_shr2, zr_shr3, zr_shr4, zr_and, zr_dyn8, zr_or, zr_shl, q_cpy_n, y_cpy26, c_X6_in, mp_in, c1, if_false]
        exact hq
    | succ j ih =>
      intro k hk
      have hb := F_wt_le5 (f := mIn M) hW k (by omega)
      have hWk := r5 k (by omega)
      have hik := r6 k (by omega)
      have ih2 := ih (k + 1) (by omega)
      rw [F_wt] at ih2
      rw [b_X6_share_7]
      by_cases c : M 104 (3 * k + 2) = -1
      · rw [if_pos (show mIn M k = 5 from if_pos c)] at ih2
        simp (disch := omega) only [b_X6_share_0, x_iconst, x_storeI_2, x_storeI_3, x_storeI_4, x_loadI_4, x_loadR_0, x_loadS_0, f_6_0, y_ic_ge_t, y_ic_ge_f, b_X6_share_16, x_loadI_3, f_6_4, x_imul, x_iadd, y_iald_35, x_loadI_2, y_ic_ne_t, y_ic_ne_f, b_X6_share_46, x_goto, b_X6_share_50, b_X6_share_61, x_iinc_4, b_X6_share_69, x_loadI_1, y_if_eq_t, y_if_eq_f, b_X6_share_78, y_if_le_t, y_if_le_f, b_X6_share_82, x_i2l, b_X6_share_93, x_lconst, b_X6_share_96, x_lret, q_isL_I, q_isL_R, q_isL_S, true_and, and_true, and_self, List.length_nil, List.length_cons, Nat.zero_add, x_K, x_Kn, Int.reduceToNat, Nat.reduceAdd, Nat.reduceMul, Nat.reduceLeDiff, Nat.reduceLT, Nat.zero_le, Int.reduceAdd, Int.reduceSub, Int.reduceMul, Int.reduceNeg, q_add_e, q_sub_e, q_mul_e, q_neg_e, q_upd_s, q_upd_n, zr_shr0, zr_shr1, zr_shr2, zr_shr3, zr_shr4, zr_and, zr_dyn8, zr_or, zr_shl, q_cpy_n, y_cpy26, tn_31, tn_32]
        exact ih2
      · rw [if_neg (show ¬mIn M k = 5 by unfold mIn; rw [if_neg c]; omega)] at ih2
        simp (disch := omega) only [b_X6_share_0, x_iconst, x_storeI_2, x_storeI_3, x_storeI_4, x_loadI_4, x_loadR_0, x_loadS_0, f_6_0, y_ic_ge_t, y_ic_ge_f, b_X6_share_16, x_loadI_3, f_6_4, x_imul, x_iadd, y_iald_35, x_loadI_2, y_ic_ne_t, y_ic_ne_f, b_X6_share_46, x_goto, b_X6_share_50, b_X6_share_61, x_iinc_4, b_X6_share_69, x_loadI_1, y_if_eq_t, y_if_eq_f, b_X6_share_78, y_if_le_t, y_if_le_f, b_X6_share_82, x_i2l, b_X6_share_93, x_lconst, b_X6_share_96, x_lret, q_isL_I, q_isL_R, q_isL_S, true_and, and_true, and_self, List.length_nil, List.length_cons, Nat.zero_add, x_K, x_Kn, Int.reduceToNat, Nat.reduceAdd, Nat.reduceMul, Nat.reduceLeDiff, Nat.reduceLT, Nat.zero_le, Int.reduceAdd, Int.reduceSub, Int.reduceMul, Int.reduceNeg, q_add_e, q_sub_e, q_mul_e, q_neg_e, q_upd_s, q_upd_n, zr_shr0, zr_shr1, zr_shr2, zr_shr3, zr_shr4, zr_and, zr_dyn8, zr_or, zr_shl, q_cpy_n, y_cpy26, tn_31, tn_32]
        exact ih2
  simp (disch := omega) only [b_X6_share_0, x_iconst, x_storeI_2, x_storeI_3, x_storeI_4, x_loadI_4, x_loadR_0, x_loadS_0, f_6_0, y_ic_ge_t, y_ic_ge_f, b_X6_share_16, x_loadI_3, f_6_4, x_imul, x_iadd, y_iald_35, x_loadI_2, y_ic_ne_t, y_ic_ne_f, b_X6_share_46, x_goto, b_X6_share_50, b_X6_share_61, x_iinc_4, b_X6_share_69, x_loadI_1, y_if_eq_t, y_if_eq_f, b_X6_share_78, y_if_le_t, y_if_le_f, b_X6_share_82, x_i2l, b_X6_share_93, x_lconst, b_X6_share_96, x_lret, q_isL_I, q_isL_R, q_isL_S, true_and, and_true, and_self, List.length_nil, List.length_cons, Nat.zero_add, x_K, x_Kn, Int.reduceToNat, Nat.reduceAdd, Nat.reduceMul, Nat.reduceLeDiff, Nat.reduceLT, Nat.zero_le, Int.reduceAdd, Int.reduceSub, Int.reduceMul, Int.reduceNeg, q_add_e, q_sub_e, q_mul_e, q_neg_e, q_upd_s, q_upd_n, zr_shr0, zr_shr1, zr_shr2, zr_shr3, zr_shr4, zr_and, zr_dyn8, zr_or, zr_shl, q_cpy_n, y_cpy26]
  exact loop (M 100 0).toNat 0 (by omega)
def G_odd (V : Nat → (Nat → Int) → Int) (S : q_M) (seed most : Int) : Nat → Int
  | 0 => 0
  | k + 1 => G_odd V S seed most k + (if F_cnt ((G_wth V S (seed + k) 8).2 4) 5 (S 9 0).toNat ≤ most then 1 else 0)
theorem G_odd_le {V : Nat → (Nat → Int) → Int} {S : q_M} {seed most : Int} : ∀ k : Nat, 0 ≤ G_odd V S seed most k ∧ G_odd V S seed most k ≤ k
  | 0 => by rw [G_odd]; omega
  | k + 1 => by
    have h := G_odd_le (V := V) (S := S) (seed := seed) (most := most) k
    rw [G_odd]
    split <;> omega
def B_odds (V : Nat → (Nat → Int) → Int) (S : q_M) (seed seeds most part : Int) : Int := if ¬((0 ≤ seed ∧ seed ≤ 99999) ∧ (1 ≤ seeds ∧ seeds ≤ 40) ∧ (0 ≤ most ∧ most ≤ 5) ∧ (0 ≤ part ∧ part ≤ 1)) then -4611686018427387904 else B_low (G_odd V S seed most seeds.toNat) seeds part
set_option maxHeartbeats 4000000 in
theorem mp_odds {V : Nat → (Nat → Int) → Int} {d : Nat} {g : q_G} {M : q_M} {seed seeds most part : Int} {Q : Option q_V → q_G → q_M → Prop} (C : q_mi V M) (hq : ∀ M2 : q_M, q_mq M M2 → Q (some (qL (B_odds V (mW M) seed seeds most part))) g M2) : q_S 1 (d + 9) 190 [qR 6 100, qI seed, qI seeds, qI most, qI part] g M Q := by
  rw [s_X6_odds]
  unfold B_odds at hq
  by_cases c1 : 0 ≤ seed ∧ seed ≤ 99999
  · by_cases c2 : 1 ≤ seeds ∧ seeds ≤ 40
    · by_cases c3 : 0 ≤ most ∧ most ≤ 5
      · by_cases c4 : 0 ≤ part ∧ part ≤ 1
        · rw [if_neg (fun z => z ⟨c1, c2, c3, c4⟩)] at hq
          have loop : ∀ j k : Nat, (k : Int) + j = seeds → ∀ M1 : q_M, q_mq M M1 → q_T 1 (d + 9) qP_X6_odds 50 [] [qR 6 100, qI seed, qI seeds, qI most, qI part, qL (G_odd V (mW M) seed most k), qS 0, qI k] [] g M1 Q := by
            intro j
            induction j with
            | zero =>
              intro k hk M1 h1
              have hb := G_odd_le (V := V) (S := mW M) (seed := seed) (most := most) k
              have e : seeds.toNat = k := by omega
              rw [e] at hq
              have low : ∀ (nx : Nat) (ops : List Instr) (ls st : List q_V), q_T 1 (d + 9) qP_X6_odds nx ops ls (qL (B_low (G_odd V (mW M) seed most k) seeds part) :: st) g M1 Q → q_S 1 (d + 8) 177 [qL (G_odd V (mW M) seed most k), qL seeds, qI part] g M1 (q_K 1 (d + 9) qP_X6_odds nx ops ls st Q) := fun nx ops ls st h => mp_low (by omega) (by omega) (by omega) (by omega) c4 h
              rw [b_X6_odds_50]
              simp (disch := omega) only [b_X6_odds_0, x_loadI_1, x_iconst, y_if_eq_t, y_if_eq_f, b_X6_odds_11, x_loadI_2, b_X6_odds_21, x_loadI_3, b_X6_odds_30, x_loadI_4, y_if_ne_t, y_if_ne_f, b_X6_odds_40, x_lconst, x_lret, b_X6_odds_44, x_storeL_5, x_storeI_7, x_loadI_7, y_ic_ge_t, y_ic_ge_f, b_X6_odds_56, x_loadR_0, x_loadS_0, x_iadd, x_popI, x_popR, x_loadL_5, f_6_36, y_ic_gt_t, y_ic_gt_f, b_X6_odds_75, x_goto, b_X6_odds_79, b_X6_odds_80, x_ladd, x_iinc_7, b_X6_odds_89, x_i2l, q_isL_I, q_isL_R, q_isL_S, true_and, and_true, and_self, List.length_nil, List.length_cons, Nat.zero_add, x_K, x_Kn, Int.reduceToNat, Nat.reduceAdd, Nat.reduceMul, Nat.reduceLeDiff, Nat.reduceLT, Nat.zero_le, Int.reduceAdd, Int.reduceSub, Int.reduceMul, Int.reduceNeg, q_add_e, q_sub_e, q_mul_e, q_neg_e, q_upd_s, q_upd_n, zr_shr0, zr_shr1, zr_shr2, zr_shr3, zr_shr4, zr_and, zr_dyn8, zr_or, zr_shl, q_cpy_n, y_cpy26, q_i2l_e, c_X6_lowest]
              refine low _ _ _ _ ?_
              simp (disch := omega) only [b_X6_odds_0, x_loadI_1, x_iconst, y_if_eq_t, y_if_eq_f, b_X6_odds_11, x_loadI_2, b_X6_odds_21, x_loadI_3, b_X6_odds_30, x_loadI_4, y_if_ne_t, y_if_ne_f, b_X6_odds_40, x_lconst, x_lret, b_X6_odds_44, x_storeL_5, x_storeI_7, x_loadI_7, y_ic_ge_t, y_ic_ge_f, b_X6_odds_56, x_loadR_0, x_loadS_0, x_iadd, x_popI, x_popR, x_loadL_5, f_6_36, y_ic_gt_t, y_ic_gt_f, b_X6_odds_75, x_goto, b_X6_odds_79, b_X6_odds_80, x_ladd, x_iinc_7, b_X6_odds_89, x_i2l, q_isL_I, q_isL_R, q_isL_S, true_and, and_true, and_self, List.length_nil, List.length_cons, Nat.zero_add, x_K, x_Kn, Int.reduceToNat, Nat.reduceAdd, Nat.reduceMul, Nat.reduceLeDiff, Nat.reduceLT, Nat.zero_le, Int.reduceAdd, Int.reduceSub, Int.reduceMul, Int.reduceNeg, q_add_e, q_sub_e, q_mul_e, q_neg_e, q_upd_s, q_upd_n, zr_shr0, zr_shr1, zr_shr2, zr_shr3, zr_shr4, zr_and, zr_dyn8, zr_or, zr_shl, q_cpy_n, y_cpy26]
              exact hq M1 h1
            | succ j ih =>
              intro k hk M1 h1
              have hb := G_odd_le (V := V) (S := mW M) (seed := seed) (most := most) k
              have ih2 := ih (k + 1) (by omega)
              rw [G_odd, mW_90] at ih2
              rw [b_X6_odds_50]
              simp (disch := omega) only [b_X6_odds_0, x_loadI_1, x_iconst, y_if_eq_t, y_if_eq_f, b_X6_odds_11, x_loadI_2, b_X6_odds_21, x_loadI_3, b_X6_odds_30, x_loadI_4, y_if_ne_t, y_if_ne_f, b_X6_odds_40, x_lconst, x_lret, b_X6_odds_44, x_storeL_5, x_storeI_7, x_loadI_7, y_ic_ge_t, y_ic_ge_f, b_X6_odds_56, x_loadR_0, x_loadS_0, x_iadd, x_popI, x_popR, x_loadL_5, f_6_36, y_ic_gt_t, y_ic_gt_f, b_X6_odds_75, x_goto, b_X6_odds_79, b_X6_odds_80, x_ladd, x_iinc_7, b_X6_odds_89, x_i2l, q_isL_I, q_isL_R, q_isL_S, true_and, and_true, and_self, List.length_nil, List.length_cons, Nat.zero_add, x_K, x_Kn, Int.reduceToNat, Nat.reduceAdd, Nat.reduceMul, Nat.reduceLeDiff, Nat.reduceLT, Nat.zero_le, Int.reduceAdd, Int.reduceSub, Int.reduceMul, Int.reduceNeg, q_add_e, q_sub_e, q_mul_e, q_neg_e, q_upd_s, q_upd_n, zr_shr0, zr_shr1, zr_shr2, zr_shr3, zr_shr4, zr_and, zr_dyn8, zr_or, zr_shl, q_cpy_n, y_cpy26, c_X6_weather]
              refine mp_weather C h1 (by omega) (by omega) (fun M3 h3 e3 => ?_)
              by_cases c5 : F_cnt ((G_wth V (mW M) (seed + k) 8).2 4) 5 (M 100 0).toNat ≤ most
              · rw [if_pos c5] at ih2
                simp (disch := omega) only [b_X6_odds_0, x_loadI_1, x_iconst, y_if_eq_t, y_if_eq_f, b_X6_odds_11, x_loadI_2, b_X6_odds_21, x_loadI_3, b_X6_odds_30, x_loadI_4, y_if_ne_t, y_if_ne_f, b_X6_odds_40, x_lconst, x_lret, b_X6_odds_44, x_storeL_5, x_storeI_7, x_loadI_7, y_ic_ge_t, y_ic_ge_f, b_X6_odds_56, x_loadR_0, x_loadS_0, x_iadd, x_popI, x_popR, x_loadL_5, f_6_36, y_ic_gt_t, y_ic_gt_f, b_X6_odds_75, x_goto, b_X6_odds_79, b_X6_odds_80, x_ladd, x_iinc_7, b_X6_odds_89, x_i2l, q_isL_I, q_isL_R, q_isL_S, true_and, and_true, and_self, List.length_nil, List.length_cons, Nat.zero_add, x_K, x_Kn, Int.reduceToNat, Nat.reduceAdd, Nat.reduceMul, Nat.reduceLeDiff, Nat.reduceLT, Nat.zero_le, Int.reduceAdd, Int.reduceSub, Int.reduceMul, Int.reduceNeg, q_add_e, q_sub_e, q_mul_e, q_neg_e, q_upd_s, q_upd_n, zr_shr0, zr_shr1, zr_shr2, zr_shr3, zr_shr4, zr_and, zr_dyn8, zr_or, zr_shl, q_cpy_n, y_cpy26, e3, q_ladd_e]
                exact ih2 M3 h3
              · rw [if_neg c5] at ih2
                simp (disch := omega) only [b_X6_odds_0, x_loadI_1, x_iconst, y_if_eq_t, y_if_eq_f, b_X6_odds_11, x_loadI_2, b_X6_odds_21, x_loadI_3, b_X6_odds_30, x_loadI_4, y_if_ne_t, y_if_ne_f, b_X6_odds_40, x_lconst, x_lret, b_X6_odds_44, x_storeL_5, x_storeI_7, x_loadI_7, y_ic_ge_t, y_ic_ge_f, b_X6_odds_56, x_loadR_0, x_loadS_0, x_iadd, x_popI, x_popR, x_loadL_5, f_6_36, y_ic_gt_t, y_ic_gt_f, b_X6_odds_75, x_goto, b_X6_odds_79, b_X6_odds_80, x_ladd, x_iinc_7, b_X6_odds_89, x_i2l, q_isL_I, q_isL_R, q_isL_S, true_and, and_true, and_self, List.length_nil, List.length_cons, Nat.zero_add, x_K, x_Kn, Int.reduceToNat, Nat.reduceAdd, Nat.reduceMul, Nat.reduceLeDiff, Nat.reduceLT, Nat.zero_le, Int.reduceAdd, Int.reduceSub, Int.reduceMul, Int.reduceNeg, q_add_e, q_sub_e, q_mul_e, q_neg_e, q_upd_s, q_upd_n, zr_shr0, zr_shr1, zr_shr2, zr_shr3, zr_shr4, zr_and, zr_dyn8, zr_or, zr_shl, q_cpy_n, y_cpy26, e3, q_ladd_e]
                exact ih2 M3 h3
          simp (disch := omega) only [b_X6_odds_0, x_loadI_1, x_iconst, y_if_eq_t, y_if_eq_f, b_X6_odds_11, x_loadI_2, b_X6_odds_21, x_loadI_3, b_X6_odds_30, x_loadI_4, y_if_ne_t, y_if_ne_f, b_X6_odds_40, x_lconst, x_lret, b_X6_odds_44, x_storeL_5, x_storeI_7, x_loadI_7, y_ic_ge_t, y_ic_ge_f, b_X6_odds_56, x_loadR_0, x_loadS_0, x_iadd, x_popI, x_popR, x_loadL_5, f_6_36, y_ic_gt_t, y_ic_gt_f, b_X6_odds_75, x_goto, b_X6_odds_79, b_X6_odds_80, x_ladd, x_iinc_7, b_X6_odds_89, x_i2l, q_isL_I, q_isL_R, q_isL_S, true_and, and_true, and_self, List.length_nil, List.length_cons, Nat.zero_add, x_K, x_Kn, Int.reduceToNat, Nat.reduceAdd, Nat.reduceMul, Nat.reduceLeDiff, Nat.reduceLT, Nat.zero_le, Int.reduceAdd, Int.reduceSub, Int.reduceMul, Int.reduceNeg, q_add_e, q_sub_e, q_mul_e, q_neg_e, q_upd_s, q_upd_n, zr_shr0, zr_shr1, zr_shr2, zr_shr3, zr_shr4, zr_and, zr_dyn8, zr_or, zr_shl, q_cpy_n, y_cpy26, c_X6_in, mp_in, c1, c2, c3, c4, and_self, if_true]
          exact loop seeds.toNat 0 (by omega) M q_mq_rf
        · rw [if_pos (fun z => c4 z.2.2.2)] at hq
          simp (disch := omega) only [b_X6_odds_0, x_loadI_1, x_iconst, y_if_eq_t, y_if_eq_f, b_X6_odds_11, x_loadI_2, b_X6_odds_21, x_loadI_3, b_X6_odds_30, x_loadI_4, y_if_ne_t, y_if_ne_f, b_X6_odds_40, x_lconst, x_lret, b_X6_odds_44, x_storeL_5, x_storeI_7, x_loadI_7, y_ic_ge_t, y_ic_ge_f, b_X6_odds_56, x_loadR_0, x_loadS_0, x_iadd, x_popI, x_popR, x_loadL_5, f_6_36, y_ic_gt_t, y_ic_gt_f, b_X6_odds_75, x_goto, b_X6_odds_79, b_X6_odds_80, x_ladd, x_iinc_7, b_X6_odds_89, x_i2l, q_isL_I, q_isL_R, q_isL_S, true_and, and_true, and_self, List.length_nil, List.length_cons, Nat.zero_add, x_K, x_Kn, Int.reduceToNat, Nat.reduceAdd, Nat.reduceMul, Nat.reduceLeDiff, Nat.reduceLT, Nat.zero_le, Int.reduceAdd, Int.reduceSub, Int.reduceMul, Int.reduceNeg, q_add_e, q_sub_e, q_mul_e, q_neg_e, q_upd_s, q_upd_n, zr_shr0, zr_shr1, zr_shr2, zr_shr3, zr_shr4, zr_and, zr_dyn8, zr_or, zr_shl, q_cpy_n, y_cpy26, c_X6_in, mp_in, c1, c2, c3, c4, and_self, if_true, if_false]
          exact hq M q_mq_rf
      · rw [if_pos (fun z => c3 z.2.2.1)] at hq
        simp (disch := omega) only [b_X6_odds_0, x_loadI_1, x_iconst, y_if_eq_t, y_if_eq_f, b_X6_odds_11, x_loadI_2, b_X6_odds_21, x_loadI_3, b_X6_odds_30, x_loadI_4, y_if_ne_t, y_if_ne_f, b_X6_odds_40, x_lconst, x_lret, b_X6_odds_44, x_storeL_5, x_storeI_7, x_loadI_7, y_ic_ge_t, y_ic_ge_f, b_X6_odds_56, x_loadR_0, x_loadS_0, x_iadd, x_popI, x_popR, x_loadL_5, f_6_36, y_ic_gt_t, y_ic_gt_f, b_X6_odds_75, x_goto, b_X6_odds_79, b_X6_odds_80, x_ladd, x_iinc_7, b_X6_odds_89, x_i2l, q_isL_I, q_isL_R, q_isL_S, true_and, and_true, and_self, List.length_nil, List.length_cons, Nat.zero_add, x_K, x_Kn, Int.reduceToNat, Nat.reduceAdd, Nat.reduceMul, Nat.reduceLeDiff, Nat.reduceLT, Nat.zero_le, Int.reduceAdd, Int.reduceSub, Int.reduceMul, Int.reduceNeg, q_add_e, q_sub_e, q_mul_e, q_neg_e, q_upd_s, q_upd_n, zr_shr0, zr_shr1, zr_shr2, zr_shr3, zr_shr4, zr_and, zr_dyn8, zr_or, zr_shl, q_cpy_n, y_cpy26, c_X6_in, mp_in, c1, c2, c3, and_self, if_true, if_false]
        exact hq M q_mq_rf
    · rw [if_pos (fun z => c2 z.2.1)] at hq
      simp (disch := omega) only [b_X6_odds_0, x_loadI_1, x_iconst, y_if_eq_t, y_if_eq_f, b_X6_odds_11, x_loadI_2, b_X6_odds_21, x_loadI_3, b_X6_odds_30, x_loadI_4, y_if_ne_t, y_if_ne_f, b_X6_odds_40, x_lconst, x_lret, b_X6_odds_44, x_storeL_5, x_storeI_7, x_loadI_7, y_ic_ge_t, y_ic_ge_f, b_X6_odds_56, x_loadR_0, x_loadS_0, x_iadd, x_popI, x_popR, x_loadL_5, f_6_36, y_ic_gt_t, y_ic_gt_f, b_X6_odds_75, x_goto, b_X6_odds_79, b_X6_odds_80, x_ladd, x_iinc_7, b_X6_odds_89, x_i2l, q_isL_I, q_isL_R, q_isL_S, true_and, and_true, and_self, List.length_nil, List.length_cons, Nat.zero_add, x_K, x_Kn, Int.reduceToNat, Nat.reduceAdd, Nat.reduceMul, Nat.reduceLeDiff, Nat.reduceLT, Nat.zero_le, Int.reduceAdd, Int.reduceSub, Int.reduceMul, Int.reduceNeg, q_add_e, q_sub_e, q_mul_e, q_neg_e, q_upd_s, q_upd_n, zr_shr0, zr_shr1, zr_shr2, zr_shr3, zr_shr4, zr_and, zr_dyn8, zr_or, zr_shl, q_cpy_n, y_cpy26, c_X6_in, mp_in, c1, c2, and_self, if_true, if_false]
      exact hq M q_mq_rf
  · rw [if_pos (fun z => c1 z.1)] at hq
    simp (disch := omega) only [b_X6_odds_0, x_loadI_1, x_iconst, y_if_eq_t, y_if_eq_f, b_X6_odds_11, x_loadI_2, b_X6_odds_21, x_loadI_3, b_X6_odds_30, x_loadI_4, y_if_ne_t, y_if_ne_f, b_X6_odds_40, x_lconst, x_lret, b_X6_odds_44, x_storeL_5, x_storeI_7, x_loadI_7, y_ic_ge_t, y_ic_ge_f, b_X6_odds_56, x_loadR_0, x_loadS_0, x_iadd, x_popI, x_popR, x_loadL_5, f_6_36, y_ic_gt_t, y_ic_gt_f, b_X6_odds_75, x_goto, b_X6_odds_79, b_X6_odds_80, x_ladd, x_iinc_7, b_X6_odds_89, x_i2l, q_isL_I, q_isL_R, q_isL_S, true_and, and_true, and_self, List.length_nil, List.length_cons, Nat.zero_add, x_K, x_Kn, Int.reduceToNat, Nat.reduceAdd, Nat.reduceMul, Nat.reduceLeDiff, Nat.reduceLT, Nat.zero_le, Int.reduceAdd, Int.reduceSub, Int.reduceMul, Int.reduceNeg, q_add_e, q_sub_e, q_mul_e, q_neg_e, q_upd_s, q_upd_n, zr_shr0, zr_shr1, zr_shr2, zr_shr3, zr_shr4, zr_and, zr_dyn8, zr_or, zr_shl, q_cpy_n, y_cpy26, c_X6_in, mp_in, c1, if_false]
    exact hq M q_mq_rf
end
section
/-! THE MODEL: who sits where, by how all like and are wanted; x: in which building (5: none), who has sent whom away -/
def m_raw (v : Int) : Int := if v = 5 then -1 else if v = -1 then 5 else v
theorem m_raw_n {v : Int} (h : v ≠ 5) (h2 : v ≠ -1) : m_raw v = v := by
  unfold m_raw
  rw [if_neg h, if_neg h2]
theorem m_raw_raw {v : Int} : m_raw (m_raw v) = v := by
  unfold m_raw
  (repeat' split) <;> omega
def q_yM (M : q_M) (x : (Nat → Int) × (Nat → Int)) : q_M := fun a i => if a = 121 then (if i < 5 then m_raw (x.1 i) else M 121 i) else if a = 122 then (if i < 5 then x.2 i else M 122 i) else M a i
theorem ry_f {M : q_M} {x : (Nat → Int) × (Nat → Int)} {i : Nat} (h : i < 5) : q_yM M x 121 i = m_raw (x.1 i) := by
  unfold q_yM
  rw [if_pos rfl, if_pos h]
theorem ry_s {M : q_M} {x : (Nat → Int) × (Nat → Int)} {i : Nat} (h : i < 5) : q_yM M x 122 i = x.2 i := by
  unfold q_yM
  rw [if_neg (by omega), if_pos rfl, if_pos h]
theorem ry_n {M : q_M} {x : (Nat → Int) × (Nat → Int)} {a i : Nat} (h : a ≠ 121) (h2 : a ≠ 122) : q_yM M x a i = M a i := by
  unfold q_yM
  rw [if_neg h, if_neg h2]
theorem uy_f {M : q_M} {x : (Nat → Int) × (Nat → Int)} {p : Nat} {v w : Int} (hp : p < 5) (h : m_raw v = w) : q_upd (q_yM M x) 121 p w = q_yM M (F_u x.1 p v, x.2) := by
  funext a i
  by_cases c : a = 121 ∧ i = p
  · obtain ⟨rfl, rfl⟩ := c
    rw [q_upd_s, ry_f hp, ← h]
    exact congrArg m_raw (if_pos rfl).symm
  · rw [q_upd_n (by omega)]
    unfold q_yM F_u
    by_cases c1 : a = 121
    · rw [if_pos c1, if_pos c1]
      have c2 : i ≠ p := fun z => c ⟨c1, z⟩
      simp only [c2, if_false]
    · rw [if_neg c1, if_neg c1]
theorem uy_s {M : q_M} {x : (Nat → Int) × (Nat → Int)} {p : Nat} {v : Int} (hp : p < 5) : q_upd (q_yM M x) 122 p v = q_yM M (x.1, F_u x.2 p v) := by
  funext a i
  by_cases c : a = 122 ∧ i = p
  · obtain ⟨rfl, rfl⟩ := c
    rw [q_upd_s, ry_s hp]
    exact (if_pos rfl).symm
  · rw [q_upd_n (by omega)]
    unfold q_yM F_u
    by_cases c1 : a = 121
    · rw [if_pos c1, if_pos c1]
    · rw [if_neg c1, if_neg c1]
      by_cases c2 : a = 122
      · rw [if_pos c2, if_pos c2]
        have c3 : i ≠ p := fun z => c ⟨c2, z⟩
        simp only [c3, if_false]
      · rw [if_neg c2, if_neg c2]
/-- how the model's rows say that a stone likes a building, is wanted by it -/
def mL (M : q_M) : Nat → Nat → Int := fun p b => if b < 5 then M 119 (5 * p + b) else 0
def mWn (M : q_M) : Nat → Nat → Int := fun p b => if b < 5 then M 120 (5 * p + b) else 0
def mR (M : q_M) : Nat → Int := fun b => M 103 (4 * b + 1)
theorem mL_e {M : q_M} {p b : Nat} (h : b < 5) : mL M p b = M 119 (5 * p + b) := if_pos h
theorem mWn_e {M : q_M} {p b : Nat} (h : b < 5) : mWn M p b = M 120 (5 * p + b) := if_pos h
theorem m_raw_eq {v : Int} {b : Nat} (hb : b < 5) (hv : 0 ≤ v ∧ v ≤ 5) : m_raw v = b ↔ v = b := by
  unfold m_raw
  (repeat' split) <;> omega
def q_x5 (n : Nat) (x : (Nat → Int) × (Nat → Int)) : Prop := ∀ i, i < n → 0 ≤ x.1 i ∧ x.1 i ≤ 5
section SITS
variable {d : Nat} {g : q_G} {M : q_M} {x : (Nat → Int) × (Nat → Int)}
theorem mp_sitting {b : Nat} (hb : b < 5) (h0 : 0 ≤ M 100 0) (h5 : M 100 0 ≤ 5) (hx : q_x5 (M 100 0).toNat x) (Q : Option q_V → q_G → q_M → Prop) : q_S 1 d 160 [qR 6 100, qI b] g (q_yM M x) Q = Q (some (qI (F_cnt x.1 b (M 100 0).toNat))) g (q_yM M x) := by
  refine q_S_eq (fun Q hq => ?_) Q
  have e0 : q_yM M x 100 0 = M 100 0 := ry_n (by omega) (by omega)
  rw [s_X6_sitting]
  have loop : ∀ j k : Nat, k + j = (M 100 0).toNat → q_T 1 d qP_X6_sitting 4 [] [qR 6 100, qI b, qI (F_cnt x.1 b k), qI k] [] g (q_yM M x) Q := by
    intro j
    induction j with
    | zero =>
      intro k hk
      have e : k = (M 100 0).toNat := by omega
      rw [← e] at hq
      rw [b_X6_sitting_4]
      simp (disch := omega) only [b_X6_sitting_0, x_iconst, x_storeI_2, x_storeI_3, x_loadI_3, x_loadR_0, x_loadS_0, f_6_0, y_ic_ge_t, y_ic_ge_f, b_X6_sitting_12, x_loadI_2, f_6_33, y_iald_25, x_loadI_1, y_ic_ne_t, y_ic_ne_f, b_X6_sitting_23, x_goto, b_X6_sitting_27, b_X6_sitting_28, x_iadd, x_iinc_3, b_X6_sitting_36, x_ret0, q_isL_I, q_isL_R, q_isL_S, true_and, and_true, and_self, List.length_nil, List.length_cons, Nat.zero_add, x_K, x_Kn, Int.reduceToNat, Nat.reduceAdd, Nat.reduceMul, Nat.reduceLeDiff, Nat.reduceLT, Nat.zero_le, Int.reduceAdd, Int.reduceSub, Int.reduceMul, Int.reduceNeg, q_add_e, q_sub_e, q_mul_e, q_neg_e, q_upd_s, q_upd_n, zr_shr0, zr_shr1, zr_shr2, zr_shr3, zr_shr4, zr_and, zr_dyn8, zr_or, zr_shl, q_cpy_n, y_cpy26, e0]
      exact hq
    | succ j ih =>
      intro k hk
      have hc := F_cnt_le x.1 b k
      have hxk := hx k (by omega)
      have hr := m_raw_eq hb hxk
      have ih2 := ih (k + 1) (by omega)
      rw [F_cnt] at ih2
      rw [b_X6_sitting_4]
      by_cases c : x.1 k = b
      · rw [if_pos c] at ih2
        have c2 := hr.mpr c
        simp (disch := omega) only [b_X6_sitting_0, x_iconst, x_storeI_2, x_storeI_3, x_loadI_3, x_loadR_0, x_loadS_0, f_6_0, y_ic_ge_t, y_ic_ge_f, b_X6_sitting_12, x_loadI_2, f_6_33, y_iald_25, x_loadI_1, y_ic_ne_t, y_ic_ne_f, b_X6_sitting_23, x_goto, b_X6_sitting_27, b_X6_sitting_28, x_iadd, x_iinc_3, b_X6_sitting_36, x_ret0, q_isL_I, q_isL_R, q_isL_S, true_and, and_true, and_self, List.length_nil, List.length_cons, Nat.zero_add, x_K, x_Kn, Int.reduceToNat, Nat.reduceAdd, Nat.reduceMul, Nat.reduceLeDiff, Nat.reduceLT, Nat.zero_le, Int.reduceAdd, Int.reduceSub, Int.reduceMul, Int.reduceNeg, q_add_e, q_sub_e, q_mul_e, q_neg_e, q_upd_s, q_upd_n, zr_shr0, zr_shr1, zr_shr2, zr_shr3, zr_shr4, zr_and, zr_dyn8, zr_or, zr_shl, q_cpy_n, y_cpy26, e0, Int.toNat_natCast, ry_f]
        exact ih2
      · rw [if_neg c] at ih2
        have c2 : m_raw (x.1 k) ≠ b := fun z => c (hr.mp z)
        simp (disch := omega) only [b_X6_sitting_0, x_iconst, x_storeI_2, x_storeI_3, x_loadI_3, x_loadR_0, x_loadS_0, f_6_0, y_ic_ge_t, y_ic_ge_f, b_X6_sitting_12, x_loadI_2, f_6_33, y_iald_25, x_loadI_1, y_ic_ne_t, y_ic_ne_f, b_X6_sitting_23, x_goto, b_X6_sitting_27, b_X6_sitting_28, x_iadd, x_iinc_3, b_X6_sitting_36, x_ret0, q_isL_I, q_isL_R, q_isL_S, true_and, and_true, and_self, List.length_nil, List.length_cons, Nat.zero_add, x_K, x_Kn, Int.reduceToNat, Nat.reduceAdd, Nat.reduceMul, Nat.reduceLeDiff, Nat.reduceLT, Nat.zero_le, Int.reduceAdd, Int.reduceSub, Int.reduceMul, Int.reduceNeg, q_add_e, q_sub_e, q_mul_e, q_neg_e, q_upd_s, q_upd_n, zr_shr0, zr_shr1, zr_shr2, zr_shr3, zr_shr4, zr_and, zr_dyn8, zr_or, zr_shl, q_cpy_n, y_cpy26, e0, Int.toNat_natCast, ry_f]
        exact ih2
  simp (disch := omega) only [b_X6_sitting_0, x_iconst, x_storeI_2, x_storeI_3, x_loadI_3, x_loadR_0, x_loadS_0, f_6_0, y_ic_ge_t, y_ic_ge_f, b_X6_sitting_12, x_loadI_2, f_6_33, y_iald_25, x_loadI_1, y_ic_ne_t, y_ic_ne_f, b_X6_sitting_23, x_goto, b_X6_sitting_27, b_X6_sitting_28, x_iadd, x_iinc_3, b_X6_sitting_36, x_ret0, q_isL_I, q_isL_R, q_isL_S, true_and, and_true, and_self, List.length_nil, List.length_cons, Nat.zero_add, x_K, x_Kn, Int.reduceToNat, Nat.reduceAdd, Nat.reduceMul, Nat.reduceLeDiff, Nat.reduceLT, Nat.zero_le, Int.reduceAdd, Int.reduceSub, Int.reduceMul, Int.reduceNeg, q_add_e, q_sub_e, q_mul_e, q_neg_e, q_upd_s, q_upd_n, zr_shr0, zr_shr1, zr_shr2, zr_shr3, zr_shr4, zr_and, zr_dyn8, zr_or, zr_shl, q_cpy_n, y_cpy26]
  exact loop (M 100 0).toNat 0 (by omega)
set_option maxHeartbeats 4000000 in
theorem mp_lastSitting {b : Nat} (hb : b < 5) (h0 : 0 ≤ M 100 0) (h5 : M 100 0 ≤ 5) (hx : q_x5 (M 100 0).toNat x) (Q : Option q_V → q_G → q_M → Prop) : q_S 1 d 161 [qR 6 100, qI b] g (q_yM M x) Q = Q (some (qI (m_no (F_last x.1 (fun q => mWn M q b) b (M 100 0).toNat)))) g (q_yM M x) := by
  refine q_S_eq (fun Q hq => ?_) Q
  have e0 : q_yM M x 100 0 = M 100 0 := ry_n (by omega) (by omega)
  have eW : ∀ i, q_yM M x 120 i = M 120 i := fun i => ry_n (by omega) (by omega)
  rw [s_X6_lastSitting]
  have loop : ∀ j k : Nat, k + j = (M 100 0).toNat → ∀ l4 : q_V, q_isL l4 = false → q_T 1 d qP_X6_lastSitting 4 [] [qR 6 100, qI b, qI (m_no (F_last x.1 (fun q => mWn M q b) b k)), qI k, l4] [] g (q_yM M x) Q := by
    intro j
    induction j with
    | zero =>
      intro k hk l4 hl4
      have e : k = (M 100 0).toNat := by omega
      rw [← e] at hq
      rw [b_X6_lastSitting_4]
      simp (disch := omega) only [b_X6_lastSitting_0, x_iconst, x_storeI_2, x_storeI_3, x_loadI_3, x_loadR_0, x_loadS_0, f_6_0, y_ic_ge_t, y_ic_ge_f, b_X6_lastSitting_12, f_6_33, y_iald_25, y_iald_45, x_loadI_1, y_ic_ne_t, y_ic_ne_f, b_X6_lastSitting_22, x_loadI_2, b_X6_lastSitting_27, x_goto, b_X6_lastSitting_31, b_X6_lastSitting_32, x_storeI_4, x_loadI_4, y_if_ne_t, y_if_ne_f, b_X6_lastSitting_39, f_6_32, x_imul, x_iadd, y_ic_gt_t, y_ic_gt_f, b_X6_lastSitting_62, b_X6_lastSitting_66, b_X6_lastSitting_67, b_X6_lastSitting_69, y_if_eq_t, y_if_eq_f, b_X6_lastSitting_74, b_X6_lastSitting_78, b_X6_lastSitting_79, b_X6_lastSitting_80, x_iinc_3, b_X6_lastSitting_86, x_ret0, q_isL_I, q_isL_R, q_isL_S, true_and, and_true, and_self, List.length_nil, List.length_cons, Nat.zero_add, x_K, x_Kn, Int.reduceToNat, Nat.reduceAdd, Nat.reduceMul, Nat.reduceLeDiff, Nat.reduceLT, Nat.zero_le, Int.reduceAdd, Int.reduceSub, Int.reduceMul, Int.reduceNeg, q_add_e, q_sub_e, q_mul_e, q_neg_e, q_upd_s, q_upd_n, zr_shr0, zr_shr1, zr_shr2, zr_shr3, zr_shr4, zr_and, zr_dyn8, zr_or, zr_shl, q_cpy_n, y_cpy26, e0]
      exact hq
    | succ j ih =>
      intro k hk l4 hl4
      have hxk := hx k (by omega)
      have hr := m_raw_eq hb hxk
      have h1 := F_last_1 x.1 (fun q => mWn M q b) b k
      have ih2 := ih (k + 1) (by omega)
      rw [F_last] at ih2
      have ek : m_no k = (k : Int) := if_neg (by omega)
      rw [b_X6_lastSitting_4]
      generalize F_last x.1 (fun q => mWn M q b) b k = F at h1 ih2 ⊢
      by_cases c : x.1 k = b
      · have c2 := hr.mpr c
        by_cases c5 : F = 5
        · subst c5
          rw [if_pos ⟨c, Or.inl rfl⟩] at ih2
          simp only [ek] at ih2
          simp (disch := omega) only [b_X6_lastSitting_0, x_iconst, x_storeI_2, x_storeI_3, x_loadI_3, x_loadR_0, x_loadS_0, f_6_0, y_ic_ge_t, y_ic_ge_f, b_X6_lastSitting_12, f_6_33, y_iald_25, y_iald_45, x_loadI_1, y_ic_ne_t, y_ic_ne_f, b_X6_lastSitting_22, x_loadI_2, b_X6_lastSitting_27, x_goto, b_X6_lastSitting_31, b_X6_lastSitting_32, x_storeI_4, x_loadI_4, y_if_ne_t, y_if_ne_f, b_X6_lastSitting_39, f_6_32, x_imul, x_iadd, y_ic_gt_t, y_ic_gt_f, b_X6_lastSitting_62, b_X6_lastSitting_66, b_X6_lastSitting_67, b_X6_lastSitting_69, y_if_eq_t, y_if_eq_f, b_X6_lastSitting_74, b_X6_lastSitting_78, b_X6_lastSitting_79, b_X6_lastSitting_80, x_iinc_3, b_X6_lastSitting_86, x_ret0, q_isL_I, q_isL_R, q_isL_S, true_and, and_true, and_self, List.length_nil, List.length_cons, Nat.zero_add, x_K, x_Kn, Int.reduceToNat, Nat.reduceAdd, Nat.reduceMul, Nat.reduceLeDiff, Nat.reduceLT, Nat.zero_le, Int.reduceAdd, Int.reduceSub, Int.reduceMul, Int.reduceNeg, q_add_e, q_sub_e, q_mul_e, q_neg_e, q_upd_s, q_upd_n, zr_shr0, zr_shr1, zr_shr2, zr_shr3, zr_shr4, zr_and, zr_dyn8, zr_or, zr_shl, q_cpy_n, y_cpy26, e0, Int.toNat_natCast, ry_f, m_no, if_true, hl4]
          exact ih2 _ rfl
        · have em : m_no F = (F : Int) := if_neg c5
          have w1 : mWn M k b = M 120 (5 * k + b) := mWn_e hb
          have w2 : mWn M F b = M 120 (5 * F + b) := mWn_e hb
          by_cases cw : mWn M k b ≤ mWn M F b
          · rw [if_pos ⟨c, Or.inr cw⟩] at ih2
            simp only [ek] at ih2
            simp (disch := omega) only [b_X6_lastSitting_0, x_iconst, x_storeI_2, x_storeI_3, x_loadI_3, x_loadR_0, x_loadS_0, f_6_0, y_ic_ge_t, y_ic_ge_f, b_X6_lastSitting_12, f_6_33, y_iald_25, y_iald_45, x_loadI_1, y_ic_ne_t, y_ic_ne_f, b_X6_lastSitting_22, x_loadI_2, b_X6_lastSitting_27, x_goto, b_X6_lastSitting_31, b_X6_lastSitting_32, x_storeI_4, x_loadI_4, y_if_ne_t, y_if_ne_f, b_X6_lastSitting_39, f_6_32, x_imul, x_iadd, y_ic_gt_t, y_ic_gt_f, b_X6_lastSitting_62, b_X6_lastSitting_66, b_X6_lastSitting_67, b_X6_lastSitting_69, y_if_eq_t, y_if_eq_f, b_X6_lastSitting_74, b_X6_lastSitting_78, b_X6_lastSitting_79, b_X6_lastSitting_80, x_iinc_3, b_X6_lastSitting_86, x_ret0, q_isL_I, q_isL_R, q_isL_S, true_and, and_true, and_self, List.length_nil, List.length_cons, Nat.zero_add, x_K, x_Kn, Int.reduceToNat, Nat.reduceAdd, Nat.reduceMul, Nat.reduceLeDiff, Nat.reduceLT, Nat.zero_le, Int.reduceAdd, Int.reduceSub, Int.reduceMul, Int.reduceNeg, q_add_e, q_sub_e, q_mul_e, q_neg_e, q_upd_s, q_upd_n, zr_shr0, zr_shr1, zr_shr2, zr_shr3, zr_shr4, zr_and, zr_dyn8, zr_or, zr_shl, q_cpy_n, y_cpy26, e0, Int.toNat_natCast, ry_f, em, hl4, tn_5, eW]
            exact ih2 _ rfl
          · rw [if_neg (fun z => z.2.elim c5 cw)] at ih2
            simp (disch := omega) only [b_X6_lastSitting_0, x_iconst, x_storeI_2, x_storeI_3, x_loadI_3, x_loadR_0, x_loadS_0, f_6_0, y_ic_ge_t, y_ic_ge_f, b_X6_lastSitting_12, f_6_33, y_iald_25, y_iald_45, x_loadI_1, y_ic_ne_t, y_ic_ne_f, b_X6_lastSitting_22, x_loadI_2, b_X6_lastSitting_27, x_goto, b_X6_lastSitting_31, b_X6_lastSitting_32, x_storeI_4, x_loadI_4, y_if_ne_t, y_if_ne_f, b_X6_lastSitting_39, f_6_32, x_imul, x_iadd, y_ic_gt_t, y_ic_gt_f, b_X6_lastSitting_62, b_X6_lastSitting_66, b_X6_lastSitting_67, b_X6_lastSitting_69, y_if_eq_t, y_if_eq_f, b_X6_lastSitting_74, b_X6_lastSitting_78, b_X6_lastSitting_79, b_X6_lastSitting_80, x_iinc_3, b_X6_lastSitting_86, x_ret0, q_isL_I, q_isL_R, q_isL_S, true_and, and_true, and_self, List.length_nil, List.length_cons, Nat.zero_add, x_K, x_Kn, Int.reduceToNat, Nat.reduceAdd, Nat.reduceMul, Nat.reduceLeDiff, Nat.reduceLT, Nat.zero_le, Int.reduceAdd, Int.reduceSub, Int.reduceMul, Int.reduceNeg, q_add_e, q_sub_e, q_mul_e, q_neg_e, q_upd_s, q_upd_n, zr_shr0, zr_shr1, zr_shr2, zr_shr3, zr_shr4, zr_and, zr_dyn8, zr_or, zr_shl, q_cpy_n, y_cpy26, e0, Int.toNat_natCast, ry_f, em, hl4, tn_5, eW]
            rw [em] at ih2
            exact ih2 _ rfl
      · rw [if_neg (fun z => c z.1)] at ih2
        have c2 : m_raw (x.1 k) ≠ b := fun z => c (hr.mp z)
        simp (disch := omega) only [b_X6_lastSitting_0, x_iconst, x_storeI_2, x_storeI_3, x_loadI_3, x_loadR_0, x_loadS_0, f_6_0, y_ic_ge_t, y_ic_ge_f, b_X6_lastSitting_12, f_6_33, y_iald_25, y_iald_45, x_loadI_1, y_ic_ne_t, y_ic_ne_f, b_X6_lastSitting_22, x_loadI_2, b_X6_lastSitting_27, x_goto, b_X6_lastSitting_31, b_X6_lastSitting_32, x_storeI_4, x_loadI_4, y_if_ne_t, y_if_ne_f, b_X6_lastSitting_39, f_6_32, x_imul, x_iadd, y_ic_gt_t, y_ic_gt_f, b_X6_lastSitting_62, b_X6_lastSitting_66, b_X6_lastSitting_67, b_X6_lastSitting_69, y_if_eq_t, y_if_eq_f, b_X6_lastSitting_74, b_X6_lastSitting_78, b_X6_lastSitting_79, b_X6_lastSitting_80, x_iinc_3, b_X6_lastSitting_86, x_ret0, q_isL_I, q_isL_R, q_isL_S, true_and, and_true, and_self, List.length_nil, List.length_cons, Nat.zero_add, x_K, x_Kn, Int.reduceToNat, Nat.reduceAdd, Nat.reduceMul, Nat.reduceLeDiff, Nat.reduceLT, Nat.zero_le, Int.reduceAdd, Int.reduceSub, Int.reduceMul, Int.reduceNeg, q_add_e, q_sub_e, q_mul_e, q_neg_e, q_upd_s, q_upd_n, zr_shr0, zr_shr1, zr_shr2, zr_shr3, zr_shr4, zr_and, zr_dyn8, zr_or, zr_shl, q_cpy_n, y_cpy26, e0, Int.toNat_natCast, ry_f, hl4]
        exact ih2 _ hl4
  simp (disch := omega) only [b_X6_lastSitting_0, x_iconst, x_storeI_2, x_storeI_3, x_loadI_3, x_loadR_0, x_loadS_0, f_6_0, y_ic_ge_t, y_ic_ge_f, b_X6_lastSitting_12, f_6_33, y_iald_25, y_iald_45, x_loadI_1, y_ic_ne_t, y_ic_ne_f, b_X6_lastSitting_22, x_loadI_2, b_X6_lastSitting_27, x_goto, b_X6_lastSitting_31, b_X6_lastSitting_32, x_storeI_4, x_loadI_4, y_if_ne_t, y_if_ne_f, b_X6_lastSitting_39, f_6_32, x_imul, x_iadd, y_ic_gt_t, y_ic_gt_f, b_X6_lastSitting_62, b_X6_lastSitting_66, b_X6_lastSitting_67, b_X6_lastSitting_69, y_if_eq_t, y_if_eq_f, b_X6_lastSitting_74, b_X6_lastSitting_78, b_X6_lastSitting_79, b_X6_lastSitting_80, x_iinc_3, b_X6_lastSitting_86, x_ret0, q_isL_I, q_isL_R, q_isL_S, true_and, and_true, and_self, List.length_nil, List.length_cons, Nat.zero_add, x_K, x_Kn, Int.reduceToNat, Nat.reduceAdd, Nat.reduceMul, Nat.reduceLeDiff, Nat.reduceLT, Nat.zero_le, Int.reduceAdd, Int.reduceSub, Int.reduceMul, Int.reduceNeg, q_add_e, q_sub_e, q_mul_e, q_neg_e, q_upd_s, q_upd_n, zr_shr0, zr_shr1, zr_shr2, zr_shr3, zr_shr4, zr_and, zr_dyn8, zr_or, zr_shl, q_cpy_n, y_cpy26]
  exact loop (M 100 0).toNat 0 (by omega) _ rfl
set_option maxHeartbeats 4000000 in
theorem mp_wouldTake {b p : Nat} (hb : b < 5) (hp : p < 5) (h0 : 0 ≤ M 100 0) (h5 : M 100 0 ≤ 5) (hx : q_x5 (M 100 0).toNat x) (Q : Option q_V → q_G → q_M → Prop) : q_S 1 (d + 1) 162 [qR 6 100, qI b, qI p] g (q_yM M x) Q = Q (some (qI (if F_takes x.1 (fun q => mWn M q b) (mR M b) b (M 100 0).toNat p = true then 1 else 0))) g (q_yM M x) := by
  refine q_S_eq (fun Q hq => ?_) Q
  have e0 : q_yM M x 100 0 = M 100 0 := ry_n (by omega) (by omega)
  have eW : ∀ i, q_yM M x 120 i = M 120 i := fun i => ry_n (by omega) (by omega)
  have eR : q_yM M x 103 (4 * b + 1) = mR M b := ry_n (by omega) (by omega)
  have h1 := F_last_1 x.1 (fun q => mWn M q b) b (M 100 0).toNat
  rw [s_X6_wouldTake]
  unfold F_takes at hq
  by_cases c1 : F_cnt x.1 b (M 100 0).toNat < mR M b
  · rw [if_pos c1, if_pos rfl] at hq
    simp (disch := omega) only [b_X6_wouldTake_0, x_loadR_0, x_loadS_0, x_loadI_1, f_6_3, x_iconst, x_imul, x_iadd, y_iald_40, y_iald_45, y_ic_ge_t, y_ic_ge_f, b_X6_wouldTake_18, x_ret1_0, x_ret1_1, b_X6_wouldTake_20, x_storeI_3, x_loadI_3, y_ic_ne_t, y_ic_ne_f, b_X6_wouldTake_31, b_X6_wouldTake_33, f_6_32, x_loadI_2, x_storeI_4, x_storeI_5, x_loadI_4, x_loadI_5, y_ic_gt_t, y_ic_gt_f, b_X6_wouldTake_64, b_X6_wouldTake_71, b_X6_wouldTake_76, x_goto, b_X6_wouldTake_80, b_X6_wouldTake_81, q_isL_I, q_isL_R, q_isL_S, true_and, and_true, and_self, List.length_nil, List.length_cons, Nat.zero_add, x_K, x_Kn, Int.reduceToNat, Nat.reduceAdd, Nat.reduceMul, Nat.reduceLeDiff, Nat.reduceLT, Nat.zero_le, Int.reduceAdd, Int.reduceSub, Int.reduceMul, Int.reduceNeg, q_add_e, q_sub_e, q_mul_e, q_neg_e, q_upd_s, q_upd_n, zr_shr0, zr_shr1, zr_shr2, zr_shr3, zr_shr4, zr_and, zr_dyn8, zr_or, zr_shl, q_cpy_n, y_cpy26, c_X6_sitting, mp_sitting, hx, tn_41, eR]
    exact hq
  · rw [if_neg c1] at hq
    simp (disch := omega) only [b_X6_wouldTake_0, x_loadR_0, x_loadS_0, x_loadI_1, f_6_3, x_iconst, x_imul, x_iadd, y_iald_40, y_iald_45, y_ic_ge_t, y_ic_ge_f, b_X6_wouldTake_18, x_ret1_0, x_ret1_1, b_X6_wouldTake_20, x_storeI_3, x_loadI_3, y_ic_ne_t, y_ic_ne_f, b_X6_wouldTake_31, b_X6_wouldTake_33, f_6_32, x_loadI_2, x_storeI_4, x_storeI_5, x_loadI_4, x_loadI_5, y_ic_gt_t, y_ic_gt_f, b_X6_wouldTake_64, b_X6_wouldTake_71, b_X6_wouldTake_76, x_goto, b_X6_wouldTake_80, b_X6_wouldTake_81, q_isL_I, q_isL_R, q_isL_S, true_and, and_true, and_self, List.length_nil, List.length_cons, Nat.zero_add, x_K, x_Kn, Int.reduceToNat, Nat.reduceAdd, Nat.reduceMul, Nat.reduceLeDiff, Nat.reduceLT, Nat.zero_le, Int.reduceAdd, Int.reduceSub, Int.reduceMul, Int.reduceNeg, q_add_e, q_sub_e, q_mul_e, q_neg_e, q_upd_s, q_upd_n, zr_shr0, zr_shr1, zr_shr2, zr_shr3, zr_shr4, zr_and, zr_dyn8, zr_or, zr_shl, q_cpy_n, y_cpy26, c_X6_sitting, mp_sitting, hx, tn_41, eR, c_X6_lastSitting, mp_lastSitting]
    generalize F_last x.1 (fun q => mWn M q b) b (M 100 0).toNat = F at h1 hq ⊢
    by_cases c5 : F = 5
    · subst c5
      rw [if_pos rfl, if_neg (by decide)] at hq
      simp (disch := omega) only [b_X6_wouldTake_0, x_loadR_0, x_loadS_0, x_loadI_1, f_6_3, x_iconst, x_imul, x_iadd, y_iald_40, y_iald_45, y_ic_ge_t, y_ic_ge_f, b_X6_wouldTake_18, x_ret1_0, x_ret1_1, b_X6_wouldTake_20, x_storeI_3, x_loadI_3, y_ic_ne_t, y_ic_ne_f, b_X6_wouldTake_31, b_X6_wouldTake_33, f_6_32, x_loadI_2, x_storeI_4, x_storeI_5, x_loadI_4, x_loadI_5, y_ic_gt_t, y_ic_gt_f, b_X6_wouldTake_64, b_X6_wouldTake_71, b_X6_wouldTake_76, x_goto, b_X6_wouldTake_80, b_X6_wouldTake_81, q_isL_I, q_isL_R, q_isL_S, true_and, and_true, and_self, List.length_nil, List.length_cons, Nat.zero_add, x_K, x_Kn, Int.reduceToNat, Nat.reduceAdd, Nat.reduceMul, Nat.reduceLeDiff, Nat.reduceLT, Nat.zero_le, Int.reduceAdd, Int.reduceSub, Int.reduceMul, Int.reduceNeg, q_add_e, q_sub_e, q_mul_e, q_neg_e, q_upd_s, q_upd_n, zr_shr0, zr_shr1, zr_shr2, zr_shr3, zr_shr4, zr_and, zr_dyn8, zr_or, zr_shl, q_cpy_n, y_cpy26, m_no, if_true]
      exact hq
    · have em : m_no F = (F : Int) := if_neg c5
      have w1 : mWn M p b = M 120 (5 * p + b) := mWn_e hb
      have w2 : mWn M F b = M 120 (5 * F + b) := mWn_e hb
      rw [if_neg c5] at hq
      by_cases c6 : mWn M F b < mWn M p b ∨ (mWn M p b = mWn M F b ∧ p < F)
      · rw [if_pos (decide_eq_true c6)] at hq
        rcases c6 with c7 | ⟨c7, c8⟩
        · simp (disch := omega) only [b_X6_wouldTake_0, x_loadR_0, x_loadS_0, x_loadI_1, f_6_3, x_iconst, x_imul, x_iadd, y_iald_40, y_iald_45, y_ic_ge_t, y_ic_ge_f, b_X6_wouldTake_18, x_ret1_0, x_ret1_1, b_X6_wouldTake_20, x_storeI_3, x_loadI_3, y_ic_ne_t, y_ic_ne_f, b_X6_wouldTake_31, b_X6_wouldTake_33, f_6_32, x_loadI_2, x_storeI_4, x_storeI_5, x_loadI_4, x_loadI_5, y_ic_gt_t, y_ic_gt_f, b_X6_wouldTake_64, b_X6_wouldTake_71, b_X6_wouldTake_76, x_goto, b_X6_wouldTake_80, b_X6_wouldTake_81, q_isL_I, q_isL_R, q_isL_S, true_and, and_true, and_self, List.length_nil, List.length_cons, Nat.zero_add, x_K, x_Kn, Int.reduceToNat, Nat.reduceAdd, Nat.reduceMul, Nat.reduceLeDiff, Nat.reduceLT, Nat.zero_le, Int.reduceAdd, Int.reduceSub, Int.reduceMul, Int.reduceNeg, q_add_e, q_sub_e, q_mul_e, q_neg_e, q_upd_s, q_upd_n, zr_shr0, zr_shr1, zr_shr2, zr_shr3, zr_shr4, zr_and, zr_dyn8, zr_or, zr_shl, q_cpy_n, y_cpy26, em, tn_5, eW]
          exact hq
        · simp (disch := omega) only [b_X6_wouldTake_0, x_loadR_0, x_loadS_0, x_loadI_1, f_6_3, x_iconst, x_imul, x_iadd, y_iald_40, y_iald_45, y_ic_ge_t, y_ic_ge_f, b_X6_wouldTake_18, x_ret1_0, x_ret1_1, b_X6_wouldTake_20, x_storeI_3, x_loadI_3, y_ic_ne_t, y_ic_ne_f, b_X6_wouldTake_31, b_X6_wouldTake_33, f_6_32, x_loadI_2, x_storeI_4, x_storeI_5, x_loadI_4, x_loadI_5, y_ic_gt_t, y_ic_gt_f, b_X6_wouldTake_64, b_X6_wouldTake_71, b_X6_wouldTake_76, x_goto, b_X6_wouldTake_80, b_X6_wouldTake_81, q_isL_I, q_isL_R, q_isL_S, true_and, and_true, and_self, List.length_nil, List.length_cons, Nat.zero_add, x_K, x_Kn, Int.reduceToNat, Nat.reduceAdd, Nat.reduceMul, Nat.reduceLeDiff, Nat.reduceLT, Nat.zero_le, Int.reduceAdd, Int.reduceSub, Int.reduceMul, Int.reduceNeg, q_add_e, q_sub_e, q_mul_e, q_neg_e, q_upd_s, q_upd_n, zr_shr0, zr_shr1, zr_shr2, zr_shr3, zr_shr4, zr_and, zr_dyn8, zr_or, zr_shl, q_cpy_n, y_cpy26, em, tn_5, eW]
          exact hq
      · rw [if_neg (fun z => c6 (of_decide_eq_true z))] at hq
        by_cases c7 : mWn M p b = mWn M F b
        · simp (disch := omega) only [b_X6_wouldTake_0, x_loadR_0, x_loadS_0, x_loadI_1, f_6_3, x_iconst, x_imul, x_iadd, y_iald_40, y_iald_45, y_ic_ge_t, y_ic_ge_f, b_X6_wouldTake_18, x_ret1_0, x_ret1_1, b_X6_wouldTake_20, x_storeI_3, x_loadI_3, y_ic_ne_t, y_ic_ne_f, b_X6_wouldTake_31, b_X6_wouldTake_33, f_6_32, x_loadI_2, x_storeI_4, x_storeI_5, x_loadI_4, x_loadI_5, y_ic_gt_t, y_ic_gt_f, b_X6_wouldTake_64, b_X6_wouldTake_71, b_X6_wouldTake_76, x_goto, b_X6_wouldTake_80, b_X6_wouldTake_81, q_isL_I, q_isL_R, q_isL_S, true_and, and_true, and_self, List.length_nil, List.length_cons, Nat.zero_add, x_K, x_Kn, Int.reduceToNat, Nat.reduceAdd, Nat.reduceMul, Nat.reduceLeDiff, Nat.reduceLT, Nat.zero_le, Int.reduceAdd, Int.reduceSub, Int.reduceMul, Int.reduceNeg, q_add_e, q_sub_e, q_mul_e, q_neg_e, q_upd_s, q_upd_n, zr_shr0, zr_shr1, zr_shr2, zr_shr3, zr_shr4, zr_and, zr_dyn8, zr_or, zr_shl, q_cpy_n, y_cpy26, em, tn_5, eW]
          exact hq
        · simp (disch := omega) only [b_X6_wouldTake_0, x_loadR_0, x_loadS_0, x_loadI_1, f_6_3, x_iconst, x_imul, x_iadd, y_iald_40, y_iald_45, y_ic_ge_t, y_ic_ge_f, b_X6_wouldTake_18, x_ret1_0, x_ret1_1, b_X6_wouldTake_20, x_storeI_3, x_loadI_3, y_ic_ne_t, y_ic_ne_f, b_X6_wouldTake_31, b_X6_wouldTake_33, f_6_32, x_loadI_2, x_storeI_4, x_storeI_5, x_loadI_4, x_loadI_5, y_ic_gt_t, y_ic_gt_f, b_X6_wouldTake_64, b_X6_wouldTake_71, b_X6_wouldTake_76, x_goto, b_X6_wouldTake_80, b_X6_wouldTake_81, q_isL_I, q_isL_R, q_isL_S, true_and, and_true, and_self, List.length_nil, List.length_cons, Nat.zero_add, x_K, x_Kn, Int.reduceToNat, Nat.reduceAdd, Nat.reduceMul, Nat.reduceLeDiff, Nat.reduceLT, Nat.zero_le, Int.reduceAdd, Int.reduceSub, Int.reduceMul, Int.reduceNeg, q_add_e, q_sub_e, q_mul_e, q_neg_e, q_upd_s, q_upd_n, zr_shr0, zr_shr1, zr_shr2, zr_shr3, zr_shr4, zr_and, zr_dyn8, zr_or, zr_shl, q_cpy_n, y_cpy26, em, tn_5, eW]
          exact hq
set_option maxHeartbeats 4000000 in
theorem mp_wouldRather {b p : Nat} (hb : b < 5) (hp : p < (M 100 0).toNat) (h5 : M 100 0 ≤ 5) (hx : q_x5 (M 100 0).toNat x) (Q : Option q_V → q_G → q_M → Prop) : q_S 1 d 163 [qR 6 100, qI p, qI b] g (q_yM M x) Q = Q (some (qI (if F_rth (mL M p) b (x.1 p).toNat = true then 1 else 0))) g (q_yM M x) := by
  refine q_S_eq (fun Q hq => ?_) Q
  have eL : ∀ i, q_yM M x 119 i = M 119 i := fun i => ry_n (by omega) (by omega)
  have hxp := hx p hp
  have l1 : mL M p b = M 119 (5 * p + b) := mL_e hb
  rw [s_X6_wouldRather]
  unfold F_rth at hq
  by_cases c0 : 0 < mL M p b
  · by_cases c5 : x.1 p = 5
    · have c6 : mL M p (x.1 p).toNat = 0 := by rw [c5]; rfl
      rw [if_pos (decide_eq_true ⟨c0, Or.inl (by omega)⟩)] at hq
      have er : m_raw (x.1 p) = -1 := if_pos c5
      simp (disch := omega) only [b_X6_wouldRather_0, x_loadR_0, x_loadS_0, f_6_31, x_iconst, x_loadI_1, x_imul, x_loadI_2, x_iadd, y_iald_25, y_iald_45, x_storeI_3, f_6_33, x_storeI_4, x_loadI_3, y_if_le_t, y_if_le_f, b_X6_wouldRather_23, x_loadI_4, y_ic_ne_t, y_ic_ne_f, b_X6_wouldRather_29, x_ret1_0, x_ret1_1, b_X6_wouldRather_31, b_X6_wouldRather_37, b_X6_wouldRather_39, x_storeI_5, x_loadI_5, y_ic_gt_t, y_ic_gt_f, b_X6_wouldRather_58, b_X6_wouldRather_64, y_ic_ge_t, y_ic_ge_f, b_X6_wouldRather_70, x_goto, b_X6_wouldRather_74, b_X6_wouldRather_75, q_isL_I, q_isL_R, q_isL_S, true_and, and_true, and_self, List.length_nil, List.length_cons, Nat.zero_add, x_K, x_Kn, Int.reduceToNat, Nat.reduceAdd, Nat.reduceMul, Nat.reduceLeDiff, Nat.reduceLT, Nat.zero_le, Int.reduceAdd, Int.reduceSub, Int.reduceMul, Int.reduceNeg, q_add_e, q_sub_e, q_mul_e, q_neg_e, q_upd_s, q_upd_n, zr_shr0, zr_shr1, zr_shr2, zr_shr3, zr_shr4, zr_and, zr_dyn8, zr_or, zr_shl, q_cpy_n, y_cpy26, Int.toNat_natCast, tn_5, eL, ry_f, er]
      exact hq
    · obtain ⟨F, hF⟩ : ∃ F : Nat, x.1 p = F := ⟨(x.1 p).toNat, by omega⟩
      have hF5 : F < 5 := by omega
      have er : m_raw (F : Int) = F := m_raw_n (by omega) (by omega)
      rw [hF, Int.toNat_natCast] at hq
      have l2 : mL M p F = M 119 (5 * p + F) := mL_e hF5
      by_cases c7 : F = b
      · rw [if_neg (fun z => by have := of_decide_eq_true z; rw [c7] at this; omega)] at hq
        simp (disch := omega) only [b_X6_wouldRather_0, x_loadR_0, x_loadS_0, f_6_31, x_iconst, x_loadI_1, x_imul, x_loadI_2, x_iadd, y_iald_25, y_iald_45, x_storeI_3, f_6_33, x_storeI_4, x_loadI_3, y_if_le_t, y_if_le_f, b_X6_wouldRather_23, x_loadI_4, y_ic_ne_t, y_ic_ne_f, b_X6_wouldRather_29, x_ret1_0, x_ret1_1, b_X6_wouldRather_31, b_X6_wouldRather_37, b_X6_wouldRather_39, x_storeI_5, x_loadI_5, y_ic_gt_t, y_ic_gt_f, b_X6_wouldRather_58, b_X6_wouldRather_64, y_ic_ge_t, y_ic_ge_f, b_X6_wouldRather_70, x_goto, b_X6_wouldRather_74, b_X6_wouldRather_75, q_isL_I, q_isL_R, q_isL_S, true_and, and_true, and_self, List.length_nil, List.length_cons, Nat.zero_add, x_K, x_Kn, Int.reduceToNat, Nat.reduceAdd, Nat.reduceMul, Nat.reduceLeDiff, Nat.reduceLT, Nat.zero_le, Int.reduceAdd, Int.reduceSub, Int.reduceMul, Int.reduceNeg, q_add_e, q_sub_e, q_mul_e, q_neg_e, q_upd_s, q_upd_n, zr_shr0, zr_shr1, zr_shr2, zr_shr3, zr_shr4, zr_and, zr_dyn8, zr_or, zr_shl, q_cpy_n, y_cpy26, Int.toNat_natCast, tn_5, eL, ry_f, er, hF]
        exact hq
      · by_cases c8 : mL M p F < mL M p b ∨ (mL M p b = mL M p F ∧ b < F)
        · rw [if_pos (decide_eq_true ⟨c0, c8⟩)] at hq
          rcases c8 with c9 | ⟨c9, c10⟩
          · simp (disch := omega) only [b_X6_wouldRather_0, x_loadR_0, x_loadS_0, f_6_31, x_iconst, x_loadI_1, x_imul, x_loadI_2, x_iadd, y_iald_25, y_iald_45, x_storeI_3, f_6_33, x_storeI_4, x_loadI_3, y_if_le_t, y_if_le_f, b_X6_wouldRather_23, x_loadI_4, y_ic_ne_t, y_ic_ne_f, b_X6_wouldRather_29, x_ret1_0, x_ret1_1, b_X6_wouldRather_31, b_X6_wouldRather_37, b_X6_wouldRather_39, x_storeI_5, x_loadI_5, y_ic_gt_t, y_ic_gt_f, b_X6_wouldRather_58, b_X6_wouldRather_64, y_ic_ge_t, y_ic_ge_f, b_X6_wouldRather_70, x_goto, b_X6_wouldRather_74, b_X6_wouldRather_75, q_isL_I, q_isL_R, q_isL_S, true_and, and_true, and_self, List.length_nil, List.length_cons, Nat.zero_add, x_K, x_Kn, Int.reduceToNat, Nat.reduceAdd, Nat.reduceMul, Nat.reduceLeDiff, Nat.reduceLT, Nat.zero_le, Int.reduceAdd, Int.reduceSub, Int.reduceMul, Int.reduceNeg, q_add_e, q_sub_e, q_mul_e, q_neg_e, q_upd_s, q_upd_n, zr_shr0, zr_shr1, zr_shr2, zr_shr3, zr_shr4, zr_and, zr_dyn8, zr_or, zr_shl, q_cpy_n, y_cpy26, Int.toNat_natCast, tn_5, eL, ry_f, er, hF]
            exact hq
          · simp (disch := omega) only [b_X6_wouldRather_0, x_loadR_0, x_loadS_0, f_6_31, x_iconst, x_loadI_1, x_imul, x_loadI_2, x_iadd, y_iald_25, y_iald_45, x_storeI_3, f_6_33, x_storeI_4, x_loadI_3, y_if_le_t, y_if_le_f, b_X6_wouldRather_23, x_loadI_4, y_ic_ne_t, y_ic_ne_f, b_X6_wouldRather_29, x_ret1_0, x_ret1_1, b_X6_wouldRather_31, b_X6_wouldRather_37, b_X6_wouldRather_39, x_storeI_5, x_loadI_5, y_ic_gt_t, y_ic_gt_f, b_X6_wouldRather_58, b_X6_wouldRather_64, y_ic_ge_t, y_ic_ge_f, b_X6_wouldRather_70, x_goto, b_X6_wouldRather_74, b_X6_wouldRather_75, q_isL_I, q_isL_R, q_isL_S, true_and, and_true, and_self, List.length_nil, List.length_cons, Nat.zero_add, x_K, x_Kn, Int.reduceToNat, Nat.reduceAdd, Nat.reduceMul, Nat.reduceLeDiff, Nat.reduceLT, Nat.zero_le, Int.reduceAdd, Int.reduceSub, Int.reduceMul, Int.reduceNeg, q_add_e, q_sub_e, q_mul_e, q_neg_e, q_upd_s, q_upd_n, zr_shr0, zr_shr1, zr_shr2, zr_shr3, zr_shr4, zr_and, zr_dyn8, zr_or, zr_shl, q_cpy_n, y_cpy26, Int.toNat_natCast, tn_5, eL, ry_f, er, hF]
            exact hq
        · rw [if_neg (fun z => c8 (of_decide_eq_true z).2)] at hq
          by_cases c9 : mL M p b = mL M p F
          · simp (disch := omega) only [b_X6_wouldRather_0, x_loadR_0, x_loadS_0, f_6_31, x_iconst, x_loadI_1, x_imul, x_loadI_2, x_iadd, y_iald_25, y_iald_45, x_storeI_3, f_6_33, x_storeI_4, x_loadI_3, y_if_le_t, y_if_le_f, b_X6_wouldRather_23, x_loadI_4, y_ic_ne_t, y_ic_ne_f, b_X6_wouldRather_29, x_ret1_0, x_ret1_1, b_X6_wouldRather_31, b_X6_wouldRather_37, b_X6_wouldRather_39, x_storeI_5, x_loadI_5, y_ic_gt_t, y_ic_gt_f, b_X6_wouldRather_58, b_X6_wouldRather_64, y_ic_ge_t, y_ic_ge_f, b_X6_wouldRather_70, x_goto, b_X6_wouldRather_74, b_X6_wouldRather_75, q_isL_I, q_isL_R, q_isL_S, true_and, and_true, and_self, List.length_nil, List.length_cons, Nat.zero_add, x_K, x_Kn, Int.reduceToNat, Nat.reduceAdd, Nat.reduceMul, Nat.reduceLeDiff, Nat.reduceLT, Nat.zero_le, Int.reduceAdd, Int.reduceSub, Int.reduceMul, Int.reduceNeg, q_add_e, q_sub_e, q_mul_e, q_neg_e, q_upd_s, q_upd_n, zr_shr0, zr_shr1, zr_shr2, zr_shr3, zr_shr4, zr_and, zr_dyn8, zr_or, zr_shl, q_cpy_n, y_cpy26, Int.toNat_natCast, tn_5, eL, ry_f, er, hF]
            exact hq
          · simp (disch := omega) only [b_X6_wouldRather_0, x_loadR_0, x_loadS_0, f_6_31, x_iconst, x_loadI_1, x_imul, x_loadI_2, x_iadd, y_iald_25, y_iald_45, x_storeI_3, f_6_33, x_storeI_4, x_loadI_3, y_if_le_t, y_if_le_f, b_X6_wouldRather_23, x_loadI_4, y_ic_ne_t, y_ic_ne_f, b_X6_wouldRather_29, x_ret1_0, x_ret1_1, b_X6_wouldRather_31, b_X6_wouldRather_37, b_X6_wouldRather_39, x_storeI_5, x_loadI_5, y_ic_gt_t, y_ic_gt_f, b_X6_wouldRather_58, b_X6_wouldRather_64, y_ic_ge_t, y_ic_ge_f, b_X6_wouldRather_70, x_goto, b_X6_wouldRather_74, b_X6_wouldRather_75, q_isL_I, q_isL_R, q_isL_S, true_and, and_true, and_self, List.length_nil, List.length_cons, Nat.zero_add, x_K, x_Kn, Int.reduceToNat, Nat.reduceAdd, Nat.reduceMul, Nat.reduceLeDiff, Nat.reduceLT, Nat.zero_le, Int.reduceAdd, Int.reduceSub, Int.reduceMul, Int.reduceNeg, q_add_e, q_sub_e, q_mul_e, q_neg_e, q_upd_s, q_upd_n, zr_shr0, zr_shr1, zr_shr2, zr_shr3, zr_shr4, zr_and, zr_dyn8, zr_or, zr_shl, q_cpy_n, y_cpy26, Int.toNat_natCast, tn_5, eL, ry_f, er, hF]
            exact hq
  · rw [if_neg (fun z => c0 (of_decide_eq_true z).1)] at hq
    simp (disch := omega) only [b_X6_wouldRather_0, x_loadR_0, x_loadS_0, f_6_31, x_iconst, x_loadI_1, x_imul, x_loadI_2, x_iadd, y_iald_25, y_iald_45, x_storeI_3, f_6_33, x_storeI_4, x_loadI_3, y_if_le_t, y_if_le_f, b_X6_wouldRather_23, x_loadI_4, y_ic_ne_t, y_ic_ne_f, b_X6_wouldRather_29, x_ret1_0, x_ret1_1, b_X6_wouldRather_31, b_X6_wouldRather_37, b_X6_wouldRather_39, x_storeI_5, x_loadI_5, y_ic_gt_t, y_ic_gt_f, b_X6_wouldRather_58, b_X6_wouldRather_64, y_ic_ge_t, y_ic_ge_f, b_X6_wouldRather_70, x_goto, b_X6_wouldRather_74, b_X6_wouldRather_75, q_isL_I, q_isL_R, q_isL_S, true_and, and_true, and_self, List.length_nil, List.length_cons, Nat.zero_add, x_K, x_Kn, Int.reduceToNat, Nat.reduceAdd, Nat.reduceMul, Nat.reduceLeDiff, Nat.reduceLT, Nat.zero_le, Int.reduceAdd, Int.reduceSub, Int.reduceMul, Int.reduceNeg, q_add_e, q_sub_e, q_mul_e, q_neg_e, q_upd_s, q_upd_n, zr_shr0, zr_shr1, zr_shr2, zr_shr3, zr_shr4, zr_and, zr_dyn8, zr_or, zr_shl, q_cpy_n, y_cpy26, Int.toNat_natCast, tn_5, eL, ry_f]
    exact hq
end SITS
end
section
/-! THE MODEL: what is against peace, how much together, in digits, whom one asks next -/
section AGAINST
variable {d : Nat} {g : q_G} {M : q_M} {x : (Nat → Int) × (Nat → Int)}
/-- whom a building would take, as the model has it -/
def G_T (W : Nat → Nat → Int) (R : Nat → Int) (f : Nat → Int) (n : Nat) : Nat → Nat → Bool := fun p b => F_takes f (fun q => W q b) (R b) b n p
set_option maxHeartbeats 4000000 in
theorem mp_against (h0 : 0 ≤ M 100 0) (h5 : M 100 0 ≤ 5) (hx : q_x5 (M 100 0).toNat x) (Q : Option q_V → q_G → q_M → Prop) : q_S 1 (d + 2) 164 [qR 6 100] g (q_yM M x) Q = Q (some (qI (F_cmp (mL M) (G_T (mWn M) (mR M) x.1 (M 100 0).toNat) x.1 (M 100 0).toNat 0))) g (q_yM M x) := by
  refine q_S_eq (fun Q hq => ?_) Q
  have e0 : q_yM M x 100 0 = M 100 0 := ry_n (by omega) (by omega)
  have eL : ∀ i, q_yM M x 119 i = M 119 i := fun i => ry_n (by omega) (by omega)
  rw [s_X6_against]
  have loop : ∀ j p : Nat, p + j = (M 100 0).toNat → ∀ l2 : q_V, q_isL l2 = false → Q (some (qI (F_cmp (mL M) (G_T (mWn M) (mR M) x.1 (M 100 0).toNat) x.1 j p))) g (q_yM M x) → q_T 1 (d + 2) qP_X6_against 2 [] [qR 6 100, qI p, l2] [] g (q_yM M x) Q := by
    intro j
    induction j with
    | zero =>
      intro p hp l2 hl2 hq
      rw [F_cmp] at hq
      rw [b_X6_against_2]
      simp (disch := omega) only [b_X6_against_0, x_iconst, x_storeI_1, x_loadI_1, x_loadR_0, x_loadS_0, f_6_0, y_ic_ge_t, y_ic_ge_f, b_X6_against_10, f_6_33, y_iald_25, y_iald_45, y_ic_eq_t, y_ic_eq_f, b_X6_against_20, f_6_31, x_imul, x_iadd, y_if_gt_t, y_if_gt_f, b_X6_against_38, x_ret0, b_X6_against_46, x_storeI_2, x_loadI_2, b_X6_against_53, y_if_eq_t, y_if_eq_f, b_X6_against_62, b_X6_against_71, b_X6_against_78, x_iinc_2, x_goto, b_X6_against_84, x_iinc_1, b_X6_against_90, q_isL_I, q_isL_R, q_isL_S, true_and, and_true, and_self, List.length_nil, List.length_cons, Nat.zero_add, x_K, x_Kn, Int.reduceToNat, Nat.reduceAdd, Nat.reduceMul, Nat.reduceLeDiff, Nat.reduceLT, Nat.zero_le, Int.reduceAdd, Int.reduceSub, Int.reduceMul, Int.reduceNeg, q_add_e, q_sub_e, q_mul_e, q_neg_e, q_upd_s, q_upd_n, zr_shr0, zr_shr1, zr_shr2, zr_shr3, zr_shr4, zr_and, zr_dyn8, zr_or, zr_shl, q_cpy_n, y_cpy26, e0]
      exact hq
    | succ j ih =>
      intro p hp l2 hl2 hq
      have hxp := hx p (by omega)
      rw [F_cmp] at hq
      have inner : ∀ k b : Nat, b + k = 5 → (if F_cB (mL M) (G_T (mWn M) (mR M) x.1 (M 100 0).toNat) x.1 p k b = -1 then Q (some (qI (F_cmp (mL M) (G_T (mWn M) (mR M) x.1 (M 100 0).toNat) x.1 j (p + 1)))) g (q_yM M x) else Q (some (qI (10 * p + F_cB (mL M) (G_T (mWn M) (mR M) x.1 (M 100 0).toNat) x.1 p k b))) g (q_yM M x)) → q_T 1 (d + 2) qP_X6_against 48 [] [qR 6 100, qI p, qI b] [] g (q_yM M x) Q := by
        intro k
        induction k with
        | zero =>
          intro b hb hq
          rw [F_cB, if_pos rfl] at hq
          rw [b_X6_against_48]
          simp (disch := omega) only [b_X6_against_0, x_iconst, x_storeI_1, x_loadI_1, x_loadR_0, x_loadS_0, f_6_0, y_ic_ge_t, y_ic_ge_f, b_X6_against_10, f_6_33, y_iald_25, y_iald_45, y_ic_eq_t, y_ic_eq_f, b_X6_against_20, f_6_31, x_imul, x_iadd, y_if_gt_t, y_if_gt_f, b_X6_against_38, x_ret0, b_X6_against_46, x_storeI_2, x_loadI_2, b_X6_against_53, y_if_eq_t, y_if_eq_f, b_X6_against_62, b_X6_against_71, b_X6_against_78, x_iinc_2, x_goto, b_X6_against_84, x_iinc_1, b_X6_against_90, q_isL_I, q_isL_R, q_isL_S, true_and, and_true, and_self, List.length_nil, List.length_cons, Nat.zero_add, x_K, x_Kn, Int.reduceToNat, Nat.reduceAdd, Nat.reduceMul, Nat.reduceLeDiff, Nat.reduceLT, Nat.zero_le, Int.reduceAdd, Int.reduceSub, Int.reduceMul, Int.reduceNeg, q_add_e, q_sub_e, q_mul_e, q_neg_e, q_upd_s, q_upd_n, zr_shr0, zr_shr1, zr_shr2, zr_shr3, zr_shr4, zr_and, zr_dyn8, zr_or, zr_shl, q_cpy_n, y_cpy26]
          exact ih (p + 1) (by omega) _ rfl hq
        | succ k ih2 =>
          intro b hb hq
          have ih3 := ih2 (b + 1) (by omega)
          rw [F_cB] at hq
          rw [b_X6_against_48]
          by_cases r1 : F_rth (mL M p) b (x.1 p).toNat = true
          · by_cases r2 : G_T (mWn M) (mR M) x.1 (M 100 0).toNat p b = true
            · rw [if_pos (show F_rth (mL M p) b (x.1 p).toNat = true ∧ G_T (mWn M) (mR M) x.1 (M 100 0).toNat p b = true from ⟨r1, r2⟩), if_neg (by omega)] at hq
              have r3 : F_takes x.1 (fun q => mWn M q b) (mR M b) b (M 100 0).toNat p = true := r2
              simp (disch := omega) only [b_X6_against_0, x_iconst, x_storeI_1, x_loadI_1, x_loadR_0, x_loadS_0, f_6_0, y_ic_ge_t, y_ic_ge_f, b_X6_against_10, f_6_33, y_iald_25, y_iald_45, y_ic_eq_t, y_ic_eq_f, b_X6_against_20, f_6_31, x_imul, x_iadd, y_if_gt_t, y_if_gt_f, b_X6_against_38, x_ret0, b_X6_against_46, x_storeI_2, x_loadI_2, b_X6_against_53, y_if_eq_t, y_if_eq_f, b_X6_against_62, b_X6_against_71, b_X6_against_78, x_iinc_2, x_goto, b_X6_against_84, x_iinc_1, b_X6_against_90, q_isL_I, q_isL_R, q_isL_S, true_and, and_true, and_self, List.length_nil, List.length_cons, Nat.zero_add, x_K, x_Kn, Int.reduceToNat, Nat.reduceAdd, Nat.reduceMul, Nat.reduceLeDiff, Nat.reduceLT, Nat.zero_le, Int.reduceAdd, Int.reduceSub, Int.reduceMul, Int.reduceNeg, q_add_e, q_sub_e, q_mul_e, q_neg_e, q_upd_s, q_upd_n, zr_shr0, zr_shr1, zr_shr2, zr_shr3, zr_shr4, zr_and, zr_dyn8, zr_or, zr_shl, q_cpy_n, y_cpy26, c_X6_wouldRather, mp_wouldRather, hx, r1, if_true, c_X6_wouldTake, mp_wouldTake, r3]
              exact hq
            · rw [if_neg (show ¬(F_rth (mL M p) b (x.1 p).toNat = true ∧ G_T (mWn M) (mR M) x.1 (M 100 0).toNat p b = true) from fun z => r2 z.2)] at hq
              have r3 : ¬F_takes x.1 (fun q => mWn M q b) (mR M b) b (M 100 0).toNat p = true := r2
              simp (disch := omega) only [b_X6_against_0, x_iconst, x_storeI_1, x_loadI_1, x_loadR_0, x_loadS_0, f_6_0, y_ic_ge_t, y_ic_ge_f, b_X6_against_10, f_6_33, y_iald_25, y_iald_45, y_ic_eq_t, y_ic_eq_f, b_X6_against_20, f_6_31, x_imul, x_iadd, y_if_gt_t, y_if_gt_f, b_X6_against_38, x_ret0, b_X6_against_46, x_storeI_2, x_loadI_2, b_X6_against_53, y_if_eq_t, y_if_eq_f, b_X6_against_62, b_X6_against_71, b_X6_against_78, x_iinc_2, x_goto, b_X6_against_84, x_iinc_1, b_X6_against_90, q_isL_I, q_isL_R, q_isL_S, true_and, and_true, and_self, List.length_nil, List.length_cons, Nat.zero_add, x_K, x_Kn, Int.reduceToNat, Nat.reduceAdd, Nat.reduceMul, Nat.reduceLeDiff, Nat.reduceLT, Nat.zero_le, Int.reduceAdd, Int.reduceSub, Int.reduceMul, Int.reduceNeg, q_add_e, q_sub_e, q_mul_e, q_neg_e, q_upd_s, q_upd_n, zr_shr0, zr_shr1, zr_shr2, zr_shr3, zr_shr4, zr_and, zr_dyn8, zr_or, zr_shl, q_cpy_n, y_cpy26, c_X6_wouldRather, mp_wouldRather, hx, r1, if_true, c_X6_wouldTake, mp_wouldTake, r3, Bool.false_eq_true, if_false]
              exact ih3 hq
          · rw [if_neg (show ¬(F_rth (mL M p) b (x.1 p).toNat = true ∧ G_T (mWn M) (mR M) x.1 (M 100 0).toNat p b = true) from fun z => r1 z.1)] at hq
            simp (disch := omega) only [b_X6_against_0, x_iconst, x_storeI_1, x_loadI_1, x_loadR_0, x_loadS_0, f_6_0, y_ic_ge_t, y_ic_ge_f, b_X6_against_10, f_6_33, y_iald_25, y_iald_45, y_ic_eq_t, y_ic_eq_f, b_X6_against_20, f_6_31, x_imul, x_iadd, y_if_gt_t, y_if_gt_f, b_X6_against_38, x_ret0, b_X6_against_46, x_storeI_2, x_loadI_2, b_X6_against_53, y_if_eq_t, y_if_eq_f, b_X6_against_62, b_X6_against_71, b_X6_against_78, x_iinc_2, x_goto, b_X6_against_84, x_iinc_1, b_X6_against_90, q_isL_I, q_isL_R, q_isL_S, true_and, and_true, and_self, List.length_nil, List.length_cons, Nat.zero_add, x_K, x_Kn, Int.reduceToNat, Nat.reduceAdd, Nat.reduceMul, Nat.reduceLeDiff, Nat.reduceLT, Nat.zero_le, Int.reduceAdd, Int.reduceSub, Int.reduceMul, Int.reduceNeg, q_add_e, q_sub_e, q_mul_e, q_neg_e, q_upd_s, q_upd_n, zr_shr0, zr_shr1, zr_shr2, zr_shr3, zr_shr4, zr_and, zr_dyn8, zr_or, zr_shl, q_cpy_n, y_cpy26, c_X6_wouldRather, mp_wouldRather, hx, r1, Bool.false_eq_true, if_false]
            exact ih3 hq
      have inner0 := inner 5 0 (by omega)
      rw [b_X6_against_2]
      by_cases c1 : x.1 p = 5
      · rw [if_neg (fun z => z.1 c1)] at hq
        have er : m_raw (x.1 p) = -1 := if_pos c1
        simp (disch := omega) only [b_X6_against_0, x_iconst, x_storeI_1, x_loadI_1, x_loadR_0, x_loadS_0, f_6_0, y_ic_ge_t, y_ic_ge_f, b_X6_against_10, f_6_33, y_iald_25, y_iald_45, y_ic_eq_t, y_ic_eq_f, b_X6_against_20, f_6_31, x_imul, x_iadd, y_if_gt_t, y_if_gt_f, b_X6_against_38, x_ret0, b_X6_against_46, x_storeI_2, x_loadI_2, b_X6_against_53, y_if_eq_t, y_if_eq_f, b_X6_against_62, b_X6_against_71, b_X6_against_78, x_iinc_2, x_goto, b_X6_against_84, x_iinc_1, b_X6_against_90, q_isL_I, q_isL_R, q_isL_S, true_and, and_true, and_self, List.length_nil, List.length_cons, Nat.zero_add, x_K, x_Kn, Int.reduceToNat, Nat.reduceAdd, Nat.reduceMul, Nat.reduceLeDiff, Nat.reduceLT, Nat.zero_le, Int.reduceAdd, Int.reduceSub, Int.reduceMul, Int.reduceNeg, q_add_e, q_sub_e, q_mul_e, q_neg_e, q_upd_s, q_upd_n, zr_shr0, zr_shr1, zr_shr2, zr_shr3, zr_shr4, zr_and, zr_dyn8, zr_or, zr_shl, q_cpy_n, y_cpy26, e0, Int.toNat_natCast, ry_f, er, hl2]
        refine inner0 ?_
        split
        · rename_i z
          rw [if_pos z] at hq
          exact hq
        · rename_i z
          rw [if_neg z] at hq
          exact hq
      · obtain ⟨F, hF⟩ : ∃ F : Nat, x.1 p = F := ⟨(x.1 p).toNat, by omega⟩
        have hF5 : F < 5 := by omega
        have er : m_raw (x.1 p) = (F : Int) := by rw [hF]; exact m_raw_n (by omega) (by omega)
        have l2e : mL M p F = M 119 (5 * p + F) := mL_e hF5
        rw [hF, Int.toNat_natCast] at hq
        by_cases c2 : mL M p F ≤ 0
        · rw [if_pos ⟨by omega, c2⟩] at hq
          simp (disch := omega) only [b_X6_against_0, x_iconst, x_storeI_1, x_loadI_1, x_loadR_0, x_loadS_0, f_6_0, y_ic_ge_t, y_ic_ge_f, b_X6_against_10, f_6_33, y_iald_25, y_iald_45, y_ic_eq_t, y_ic_eq_f, b_X6_against_20, f_6_31, x_imul, x_iadd, y_if_gt_t, y_if_gt_f, b_X6_against_38, x_ret0, b_X6_against_46, x_storeI_2, x_loadI_2, b_X6_against_53, y_if_eq_t, y_if_eq_f, b_X6_against_62, b_X6_against_71, b_X6_against_78, x_iinc_2, x_goto, b_X6_against_84, x_iinc_1, b_X6_against_90, q_isL_I, q_isL_R, q_isL_S, true_and, and_true, and_self, List.length_nil, List.length_cons, Nat.zero_add, x_K, x_Kn, Int.reduceToNat, Nat.reduceAdd, Nat.reduceMul, Nat.reduceLeDiff, Nat.reduceLT, Nat.zero_le, Int.reduceAdd, Int.reduceSub, Int.reduceMul, Int.reduceNeg, q_add_e, q_sub_e, q_mul_e, q_neg_e, q_upd_s, q_upd_n, zr_shr0, zr_shr1, zr_shr2, zr_shr3, zr_shr4, zr_and, zr_dyn8, zr_or, zr_shl, q_cpy_n, y_cpy26, e0, Int.toNat_natCast, ry_f, er, tn_5, eL, hl2]
          exact hq
        · rw [if_neg (fun z => c2 z.2)] at hq
          simp (disch := omega) only [b_X6_against_0, x_iconst, x_storeI_1, x_loadI_1, x_loadR_0, x_loadS_0, f_6_0, y_ic_ge_t, y_ic_ge_f, b_X6_against_10, f_6_33, y_iald_25, y_iald_45, y_ic_eq_t, y_ic_eq_f, b_X6_against_20, f_6_31, x_imul, x_iadd, y_if_gt_t, y_if_gt_f, b_X6_against_38, x_ret0, b_X6_against_46, x_storeI_2, x_loadI_2, b_X6_against_53, y_if_eq_t, y_if_eq_f, b_X6_against_62, b_X6_against_71, b_X6_against_78, x_iinc_2, x_goto, b_X6_against_84, x_iinc_1, b_X6_against_90, q_isL_I, q_isL_R, q_isL_S, true_and, and_true, and_self, List.length_nil, List.length_cons, Nat.zero_add, x_K, x_Kn, Int.reduceToNat, Nat.reduceAdd, Nat.reduceMul, Nat.reduceLeDiff, Nat.reduceLT, Nat.zero_le, Int.reduceAdd, Int.reduceSub, Int.reduceMul, Int.reduceNeg, q_add_e, q_sub_e, q_mul_e, q_neg_e, q_upd_s, q_upd_n, zr_shr0, zr_shr1, zr_shr2, zr_shr3, zr_shr4, zr_and, zr_dyn8, zr_or, zr_shl, q_cpy_n, y_cpy26, e0, Int.toNat_natCast, ry_f, er, tn_5, eL, hl2]
          refine inner0 ?_
          split
          · rename_i z
            rw [if_pos z] at hq
            exact hq
          · rename_i z
            rw [if_neg z] at hq
            exact hq
  simp (disch := omega) only [b_X6_against_0, x_iconst, x_storeI_1, x_loadI_1, x_loadR_0, x_loadS_0, f_6_0, y_ic_ge_t, y_ic_ge_f, b_X6_against_10, f_6_33, y_iald_25, y_iald_45, y_ic_eq_t, y_ic_eq_f, b_X6_against_20, f_6_31, x_imul, x_iadd, y_if_gt_t, y_if_gt_f, b_X6_against_38, x_ret0, b_X6_against_46, x_storeI_2, x_loadI_2, b_X6_against_53, y_if_eq_t, y_if_eq_f, b_X6_against_62, b_X6_against_71, b_X6_against_78, x_iinc_2, x_goto, b_X6_against_84, x_iinc_1, b_X6_against_90, q_isL_I, q_isL_R, q_isL_S, true_and, and_true, and_self, List.length_nil, List.length_cons, Nat.zero_add, x_K, x_Kn, Int.reduceToNat, Nat.reduceAdd, Nat.reduceMul, Nat.reduceLeDiff, Nat.reduceLT, Nat.zero_le, Int.reduceAdd, Int.reduceSub, Int.reduceMul, Int.reduceNeg, q_add_e, q_sub_e, q_mul_e, q_neg_e, q_upd_s, q_upd_n, zr_shr0, zr_shr1, zr_shr2, zr_shr3, zr_shr4, zr_and, zr_dyn8, zr_or, zr_shl, q_cpy_n, y_cpy26]
  exact loop (M 100 0).toNat 0 (by omega) _ rfl hq
theorem F_sum_le3 {L : Nat → Nat → Int} {f : Nat → Int} {N : Nat} (hf : ∀ i, i < N → 0 ≤ f i ∧ f i ≤ 5) (hL : ∀ p b, p < N → b < 6 → -1000 ≤ L p b ∧ L p b ≤ 1000) : ∀ n : Nat, n ≤ N → -1000 * n ≤ F_sum L f n ∧ F_sum L f n ≤ 1000 * n
  | 0, _ => by rw [F_sum]; omega
  | n + 1, hn => by
    have h := F_sum_le3 hf hL n (by omega)
    have h3 := hf n (by omega)
    have h2 := hL n (f n).toNat (by omega) (by omega)
    rw [F_sum]
    omega
set_option maxHeartbeats 4000000 in
theorem mp_sumOf {wt : Int} (h0 : 0 ≤ M 100 0) (h5 : M 100 0 ≤ 5) (hx : q_x5 (M 100 0).toNat x) (hL : ∀ p b, p < (M 100 0).toNat → b < 6 → -1000 ≤ mL M p b ∧ mL M p b ≤ 1000) (hW : ∀ p b, p < (M 100 0).toNat → b < 6 → -1000 ≤ mWn M p b ∧ mWn M p b ≤ 1000) (Q : Option q_V → q_G → q_M → Prop) : q_S 1 d 165 [qR 6 100, qI wt] g (q_yM M x) Q = Q (some (qI (if wt = 1 then F_sum (mL M) x.1 (M 100 0).toNat else F_sum (mWn M) x.1 (M 100 0).toNat))) g (q_yM M x) := by
  refine q_S_eq (fun Q hq => ?_) Q
  have e0 : q_yM M x 100 0 = M 100 0 := ry_n (by omega) (by omega)
  have eL : ∀ i, q_yM M x 119 i = M 119 i := fun i => ry_n (by omega) (by omega)
  have eW : ∀ i, q_yM M x 120 i = M 120 i := fun i => ry_n (by omega) (by omega)
  rw [s_X6_sumOf]
  have loop : ∀ j k : Nat, k + j = (M 100 0).toNat → q_T 1 d qP_X6_sumOf 4 [] [qR 6 100, qI wt, qI (if wt = 1 then F_sum (mL M) x.1 k else F_sum (mWn M) x.1 k), qI k] [] g (q_yM M x) Q := by
    intro j
    induction j with
    | zero =>
      intro k hk
      have e : k = (M 100 0).toNat := by omega
      rw [← e] at hq
      rw [b_X6_sumOf_4]
      simp (disch := omega) only [b_X6_sumOf_0, x_iconst, x_storeI_2, x_storeI_3, x_loadI_3, x_loadR_0, x_loadS_0, f_6_0, y_ic_ge_t, y_ic_ge_f, b_X6_sumOf_12, f_6_33, y_iald_25, y_iald_45, y_ic_eq_t, y_ic_eq_f, b_X6_sumOf_22, x_loadI_2, x_loadI_1, y_ic_ne_t, y_ic_ne_f, b_X6_sumOf_28, f_6_31, x_imul, x_iadd, x_goto, b_X6_sumOf_46, f_6_32, b_X6_sumOf_61, b_X6_sumOf_63, x_iinc_3, b_X6_sumOf_69, x_ret0, q_isL_I, q_isL_R, q_isL_S, true_and, and_true, and_self, List.length_nil, List.length_cons, Nat.zero_add, x_K, x_Kn, Int.reduceToNat, Nat.reduceAdd, Nat.reduceMul, Nat.reduceLeDiff, Nat.reduceLT, Nat.zero_le, Int.reduceAdd, Int.reduceSub, Int.reduceMul, Int.reduceNeg, q_add_e, q_sub_e, q_mul_e, q_neg_e, q_upd_s, q_upd_n, zr_shr0, zr_shr1, zr_shr2, zr_shr3, zr_shr4, zr_and, zr_dyn8, zr_or, zr_shl, q_cpy_n, y_cpy26, e0]
      exact hq
    | succ j ih =>
      intro k hk
      have hxk := hx k (by omega)
      have b1 := F_sum_le3 (N := (M 100 0).toNat) (L := mL M) (f := x.1) (fun i hi => hx i hi) hL k (by omega)
      have b2 := F_sum_le3 (N := (M 100 0).toNat) (L := mWn M) (f := x.1) (fun i hi => hx i hi) hW k (by omega)
      have ih2 := ih (k + 1) (by omega)
      rw [F_sum, F_sum] at ih2
      rw [b_X6_sumOf_4]
      by_cases c5 : x.1 k = 5
      · have er : m_raw (x.1 k) = -1 := if_pos c5
        have z1 : mL M k (x.1 k).toNat = 0 := by rw [c5]; rfl
        have z2 : mWn M k (x.1 k).toNat = 0 := by rw [c5]; rfl
        rw [z1, z2, Int.add_zero, Int.add_zero] at ih2
        simp (disch := omega) only [b_X6_sumOf_0, x_iconst, x_storeI_2, x_storeI_3, x_loadI_3, x_loadR_0, x_loadS_0, f_6_0, y_ic_ge_t, y_ic_ge_f, b_X6_sumOf_12, f_6_33, y_iald_25, y_iald_45, y_ic_eq_t, y_ic_eq_f, b_X6_sumOf_22, x_loadI_2, x_loadI_1, y_ic_ne_t, y_ic_ne_f, b_X6_sumOf_28, f_6_31, x_imul, x_iadd, x_goto, b_X6_sumOf_46, f_6_32, b_X6_sumOf_61, b_X6_sumOf_63, x_iinc_3, b_X6_sumOf_69, x_ret0, q_isL_I, q_isL_R, q_isL_S, true_and, and_true, and_self, List.length_nil, List.length_cons, Nat.zero_add, x_K, x_Kn, Int.reduceToNat, Nat.reduceAdd, Nat.reduceMul, Nat.reduceLeDiff, Nat.reduceLT, Nat.zero_le, Int.reduceAdd, Int.reduceSub, Int.reduceMul, Int.reduceNeg, q_add_e, q_sub_e, q_mul_e, q_neg_e, q_upd_s, q_upd_n, zr_shr0, zr_shr1, zr_shr2, zr_shr3, zr_shr4, zr_and, zr_dyn8, zr_or, zr_shl, q_cpy_n, y_cpy26, e0, Int.toNat_natCast, ry_f, er]
        exact ih2
      · obtain ⟨F, hF⟩ : ∃ F : Nat, x.1 k = F := ⟨(x.1 k).toNat, by omega⟩
        have hF5 : F < 5 := by omega
        have er : m_raw (x.1 k) = (F : Int) := by rw [hF]; exact m_raw_n (by omega) (by omega)
        have l1 : mL M k F = M 119 (5 * k + F) := mL_e hF5
        have l2 : mWn M k F = M 120 (5 * k + F) := mWn_e hF5
        have r1 := hL k F (by omega) (by omega)
        have r2 := hW k F (by omega) (by omega)
        rw [hF, Int.toNat_natCast, l1, l2] at ih2
        by_cases cw : wt = 1
        · subst cw
          rw [if_pos rfl] at ih2
          simp (disch := omega) only [b_X6_sumOf_0, x_iconst, x_storeI_2, x_storeI_3, x_loadI_3, x_loadR_0, x_loadS_0, f_6_0, y_ic_ge_t, y_ic_ge_f, b_X6_sumOf_12, f_6_33, y_iald_25, y_iald_45, y_ic_eq_t, y_ic_eq_f, b_X6_sumOf_22, x_loadI_2, x_loadI_1, y_ic_ne_t, y_ic_ne_f, b_X6_sumOf_28, f_6_31, x_imul, x_iadd, x_goto, b_X6_sumOf_46, f_6_32, b_X6_sumOf_61, b_X6_sumOf_63, x_iinc_3, b_X6_sumOf_69, x_ret0, q_isL_I, q_isL_R, q_isL_S, true_and, and_true, and_self, List.length_nil, List.length_cons, Nat.zero_add, x_K, x_Kn, Int.reduceToNat, Nat.reduceAdd, Nat.reduceMul, Nat.reduceLeDiff, Nat.reduceLT, Nat.zero_le, Int.reduceAdd, Int.reduceSub, Int.reduceMul, Int.reduceNeg, q_add_e, q_sub_e, q_mul_e, q_neg_e, q_upd_s, q_upd_n, zr_shr0, zr_shr1, zr_shr2, zr_shr3, zr_shr4, zr_and, zr_dyn8, zr_or, zr_shl, q_cpy_n, y_cpy26, e0, Int.toNat_natCast, ry_f, er, tn_5, eL, if_true]
          exact ih2
        · rw [if_neg cw] at ih2
          simp (disch := omega) only [b_X6_sumOf_0, x_iconst, x_storeI_2, x_storeI_3, x_loadI_3, x_loadR_0, x_loadS_0, f_6_0, y_ic_ge_t, y_ic_ge_f, b_X6_sumOf_12, f_6_33, y_iald_25, y_iald_45, y_ic_eq_t, y_ic_eq_f, b_X6_sumOf_22, x_loadI_2, x_loadI_1, y_ic_ne_t, y_ic_ne_f, b_X6_sumOf_28, f_6_31, x_imul, x_iadd, x_goto, b_X6_sumOf_46, f_6_32, b_X6_sumOf_61, b_X6_sumOf_63, x_iinc_3, b_X6_sumOf_69, x_ret0, q_isL_I, q_isL_R, q_isL_S, true_and, and_true, and_self, List.length_nil, List.length_cons, Nat.zero_add, x_K, x_Kn, Int.reduceToNat, Nat.reduceAdd, Nat.reduceMul, Nat.reduceLeDiff, Nat.reduceLT, Nat.zero_le, Int.reduceAdd, Int.reduceSub, Int.reduceMul, Int.reduceNeg, q_add_e, q_sub_e, q_mul_e, q_neg_e, q_upd_s, q_upd_n, zr_shr0, zr_shr1, zr_shr2, zr_shr3, zr_shr4, zr_and, zr_dyn8, zr_or, zr_shl, q_cpy_n, y_cpy26, e0, Int.toNat_natCast, ry_f, er, tn_5, eW, cw, if_false]
          exact ih2
  have l := loop (M 100 0).toNat 0 (by omega)
  rw [F_sum, F_sum, show (if wt = 1 then (0 : Int) else 0) = 0 by split <;> rfl] at l
  simp (disch := omega) only [b_X6_sumOf_0, x_iconst, x_storeI_2, x_storeI_3, x_loadI_3, x_loadR_0, x_loadS_0, f_6_0, y_ic_ge_t, y_ic_ge_f, b_X6_sumOf_12, f_6_33, y_iald_25, y_iald_45, y_ic_eq_t, y_ic_eq_f, b_X6_sumOf_22, x_loadI_2, x_loadI_1, y_ic_ne_t, y_ic_ne_f, b_X6_sumOf_28, f_6_31, x_imul, x_iadd, x_goto, b_X6_sumOf_46, f_6_32, b_X6_sumOf_61, b_X6_sumOf_63, x_iinc_3, b_X6_sumOf_69, x_ret0, q_isL_I, q_isL_R, q_isL_S, true_and, and_true, and_self, List.length_nil, List.length_cons, Nat.zero_add, x_K, x_Kn, Int.reduceToNat, Nat.reduceAdd, Nat.reduceMul, Nat.reduceLeDiff, Nat.reduceLT, Nat.zero_le, Int.reduceAdd, Int.reduceSub, Int.reduceMul, Int.reduceNeg, q_add_e, q_sub_e, q_mul_e, q_neg_e, q_upd_s, q_upd_n, zr_shr0, zr_shr1, zr_shr2, zr_shr3, zr_shr4, zr_and, zr_dyn8, zr_or, zr_shl, q_cpy_n, y_cpy26]
  exact l
theorem mp_sittingDigits (h0 : 0 ≤ M 100 0) (h5 : M 100 0 ≤ 5) (hx : q_x5 (M 100 0).toNat x) (Q : Option q_V → q_G → q_M → Prop) : q_S 1 d 166 [qR 6 100] g (q_yM M x) Q = Q (some (qI (F_dig x.1 (M 100 0).toNat))) g (q_yM M x) := by
  refine q_S_eq (fun Q hq => ?_) Q
  have e0 : q_yM M x 100 0 = M 100 0 := ry_n (by omega) (by omega)
  have hf : ∀ i, 0 ≤ (fun i => if i < (M 100 0).toNat then x.1 i else 0) i ∧ (fun i => if i < (M 100 0).toNat then x.1 i else 0) i ≤ 5 := by
    intro i
    show 0 ≤ (if i < (M 100 0).toNat then x.1 i else 0) ∧ (if i < (M 100 0).toNat then x.1 i else 0) ≤ 5
    by_cases c : i < (M 100 0).toNat
    · rw [if_pos c]
      exact hx i c
    · rw [if_neg c]
      omega
  rw [s_X6_sittingDigits]
  have loop : ∀ j k : Nat, k + j = (M 100 0).toNat → q_T 1 d qP_X6_sittingDigits 4 [] [qR 6 100, qI (F_dig x.1 k), qI k] [] g (q_yM M x) Q := by
    intro j
    induction j with
    | zero =>
      intro k hk
      have e : k = (M 100 0).toNat := by omega
      rw [← e] at hq
      rw [b_X6_sittingDigits_4]
      simp (disch := omega) only [b_X6_sittingDigits_0, x_iconst, x_storeI_1, x_storeI_2, x_loadI_2, x_loadR_0, x_loadS_0, f_6_0, y_ic_ge_t, y_ic_ge_f, b_X6_sittingDigits_12, x_loadI_1, x_imul, f_6_33, y_iald_25, x_iadd, x_iinc_2, x_goto, b_X6_sittingDigits_32, x_ret0, q_isL_I, q_isL_R, q_isL_S, true_and, and_true, and_self, List.length_nil, List.length_cons, Nat.zero_add, x_K, x_Kn, Int.reduceToNat, Nat.reduceAdd, Nat.reduceMul, Nat.reduceLeDiff, Nat.reduceLT, Nat.zero_le, Int.reduceAdd, Int.reduceSub, Int.reduceMul, Int.reduceNeg, q_add_e, q_sub_e, q_mul_e, q_neg_e, q_upd_s, q_upd_n, zr_shr0, zr_shr1, zr_shr2, zr_shr3, zr_shr4, zr_and, zr_dyn8, zr_or, zr_shl, q_cpy_n, y_cpy26, e0]
      exact hq
    | succ j ih =>
      intro k hk
      have hxk := hx k (by omega)
      have hd := F_dig_le _ hf k (by omega)
      rw [← F_dig_cong (f := x.1) k (fun i hi => (if_pos (by omega)).symm)] at hd
      have ih2 := ih (k + 1) (by omega)
      rw [F_dig] at ih2
      have e : (if x.1 k = 5 then 0 else x.1 k + 1) = m_raw (x.1 k) + 1 := by
        unfold m_raw
        by_cases c : x.1 k = 5
        · rw [if_pos c, if_pos c]
          rfl
        · rw [if_neg c, if_neg c, if_neg (by omega)]
      have eb : -1 ≤ m_raw (x.1 k) ∧ m_raw (x.1 k) ≤ 4 := by
        unfold m_raw
        (repeat' split) <;> omega
      have e2 : 10 * F_dig x.1 k + (m_raw (x.1 k) + 1) = 10 * F_dig x.1 k + m_raw (x.1 k) + 1 := by omega
      rw [e, e2] at ih2
      rw [b_X6_sittingDigits_4]
      simp (disch := omega) only [b_X6_sittingDigits_0, x_iconst, x_storeI_1, x_storeI_2, x_loadI_2, x_loadR_0, x_loadS_0, f_6_0, y_ic_ge_t, y_ic_ge_f, b_X6_sittingDigits_12, x_loadI_1, x_imul, f_6_33, y_iald_25, x_iadd, x_iinc_2, x_goto, b_X6_sittingDigits_32, x_ret0, q_isL_I, q_isL_R, q_isL_S, true_and, and_true, and_self, List.length_nil, List.length_cons, Nat.zero_add, x_K, x_Kn, Int.reduceToNat, Nat.reduceAdd, Nat.reduceMul, Nat.reduceLeDiff, Nat.reduceLT, Nat.zero_le, Int.reduceAdd, Int.reduceSub, Int.reduceMul, Int.reduceNeg, q_add_e, q_sub_e, q_mul_e, q_neg_e, q_upd_s, q_upd_n, zr_shr0, zr_shr1, zr_shr2, zr_shr3, zr_shr4, zr_and, zr_dyn8, zr_or, zr_shl, q_cpy_n, y_cpy26, e0, Int.toNat_natCast, ry_f]
      exact ih2
  simp (disch := omega) only [b_X6_sittingDigits_0, x_iconst, x_storeI_1, x_storeI_2, x_loadI_2, x_loadR_0, x_loadS_0, f_6_0, y_ic_ge_t, y_ic_ge_f, b_X6_sittingDigits_12, x_loadI_1, x_imul, f_6_33, y_iald_25, x_iadd, x_iinc_2, x_goto, b_X6_sittingDigits_32, x_ret0, q_isL_I, q_isL_R, q_isL_S, true_and, and_true, and_self, List.length_nil, List.length_cons, Nat.zero_add, x_K, x_Kn, Int.reduceToNat, Nat.reduceAdd, Nat.reduceMul, Nat.reduceLeDiff, Nat.reduceLT, Nat.zero_le, Int.reduceAdd, Int.reduceSub, Int.reduceMul, Int.reduceNeg, q_add_e, q_sub_e, q_mul_e, q_neg_e, q_upd_s, q_upd_n, zr_shr0, zr_shr1, zr_shr2, zr_shr3, zr_shr4, zr_and, zr_dyn8, zr_or, zr_shl, q_cpy_n, y_cpy26]
  exact loop (M 100 0).toNat 0 (by omega)
set_option maxHeartbeats 4000000 in
theorem mp_nextAsked {p : Nat} (hp : p < 5) (Q : Option q_V → q_G → q_M → Prop) : q_S 1 d 168 [qR 6 100, qI p] g (q_yM M x) Q = Q (some (qI (m_no (F_best (mL M p) (fun k => decide (q_and (q_shr (x.2 p) k) 1 = 0)) 5).1))) g (q_yM M x) := by
  refine q_S_eq (fun Q hq => ?_) Q
  have eL : ∀ i, q_yM M x 119 i = M 119 i := fun i => ry_n (by omega) (by omega)
  rw [s_X6_nextAsked]
  generalize hK : (fun k : Nat => decide (q_and (q_shr (x.2 p) k) 1 = 0)) = ok at hq
  have loop : ∀ j k : Nat, k + j = 5 → q_T 1 d qP_X6_nextAsked 7 [] [qR 6 100, qI p, qI (m_no (F_best (mL M p) ok k).1), qI (F_best (mL M p) ok k).2, qI k] [] g (q_yM M x) Q := by
    intro j
    induction j with
    | zero =>
      intro k hk
      have e : k = 5 := by omega
      subst e
      rw [b_X6_nextAsked_7]
      simp (disch := omega) only [b_X6_nextAsked_0, x_iconst, x_storeI_2, x_storeI_3, x_storeI_4, x_loadI_4, y_ic_ge_t, y_ic_ge_f, b_X6_nextAsked_13, x_loadR_0, x_loadS_0, f_6_34, x_loadI_1, y_iald_25, y_iald_45, x_ishr, x_iand, y_if_ne_t, y_if_ne_f, b_X6_nextAsked_27, f_6_31, x_imul, x_iadd, x_loadI_3, y_ic_le_t, y_ic_le_f, b_X6_nextAsked_42, b_X6_nextAsked_57, x_iinc_4, x_goto, b_X6_nextAsked_63, x_loadI_2, x_ret0, q_isL_I, q_isL_R, q_isL_S, true_and, and_true, and_self, List.length_nil, List.length_cons, Nat.zero_add, x_K, x_Kn, Int.reduceToNat, Nat.reduceAdd, Nat.reduceMul, Nat.reduceLeDiff, Nat.reduceLT, Nat.zero_le, Int.reduceAdd, Int.reduceSub, Int.reduceMul, Int.reduceNeg, q_add_e, q_sub_e, q_mul_e, q_neg_e, q_upd_s, q_upd_n, zr_shr0, zr_shr1, zr_shr2, zr_shr3, zr_shr4, zr_and, zr_dyn8, zr_or, zr_shl, q_cpy_n, y_cpy26]
      exact hq
    | succ j ih =>
      intro k hk
      have ih2 := ih (k + 1) (by omega)
      rw [F_best] at ih2
      have hok : ok k = decide (q_and (q_shr (x.2 p) k) 1 = 0) := by rw [← hK]
      have l1 : mL M p k = M 119 (5 * p + k) := mL_e (by omega)
      have ek : m_no k = (k : Int) := if_neg (by omega)
      rw [b_X6_nextAsked_7]
      by_cases c1 : q_and (q_shr (x.2 p) k) 1 = 0
      · rw [hok, decide_eq_true c1, l1] at ih2
        by_cases c2 : (F_best (mL M p) ok k).2 < M 119 (5 * p + k)
        · rw [if_pos ⟨rfl, c2⟩] at ih2
          simp only [ek] at ih2
          simp (disch := omega) only [b_X6_nextAsked_0, x_iconst, x_storeI_2, x_storeI_3, x_storeI_4, x_loadI_4, y_ic_ge_t, y_ic_ge_f, b_X6_nextAsked_13, x_loadR_0, x_loadS_0, f_6_34, x_loadI_1, y_iald_25, y_iald_45, x_ishr, x_iand, y_if_ne_t, y_if_ne_f, b_X6_nextAsked_27, f_6_31, x_imul, x_iadd, x_loadI_3, y_ic_le_t, y_ic_le_f, b_X6_nextAsked_42, b_X6_nextAsked_57, x_iinc_4, x_goto, b_X6_nextAsked_63, x_loadI_2, x_ret0, q_isL_I, q_isL_R, q_isL_S, true_and, and_true, and_self, List.length_nil, List.length_cons, Nat.zero_add, x_K, x_Kn, Int.reduceToNat, Nat.reduceAdd, Nat.reduceMul, Nat.reduceLeDiff, Nat.reduceLT, Nat.zero_le, Int.reduceAdd, Int.reduceSub, Int.reduceMul, Int.reduceNeg, q_add_e, q_sub_e, q_mul_e, q_neg_e, q_upd_s, q_upd_n, zr_shr0, zr_shr1, zr_shr2, zr_shr3, zr_shr4, zr_and, zr_dyn8, zr_or, zr_shl, q_cpy_n, y_cpy26, Int.toNat_natCast, ry_s, c1, tn_5, eL]
          exact ih2
        · rw [if_neg (fun z => c2 z.2)] at ih2
          simp (disch := omega) only [b_X6_nextAsked_0, x_iconst, x_storeI_2, x_storeI_3, x_storeI_4, x_loadI_4, y_ic_ge_t, y_ic_ge_f, b_X6_nextAsked_13, x_loadR_0, x_loadS_0, f_6_34, x_loadI_1, y_iald_25, y_iald_45, x_ishr, x_iand, y_if_ne_t, y_if_ne_f, b_X6_nextAsked_27, f_6_31, x_imul, x_iadd, x_loadI_3, y_ic_le_t, y_ic_le_f, b_X6_nextAsked_42, b_X6_nextAsked_57, x_iinc_4, x_goto, b_X6_nextAsked_63, x_loadI_2, x_ret0, q_isL_I, q_isL_R, q_isL_S, true_and, and_true, and_self, List.length_nil, List.length_cons, Nat.zero_add, x_K, x_Kn, Int.reduceToNat, Nat.reduceAdd, Nat.reduceMul, Nat.reduceLeDiff, Nat.reduceLT, Nat.zero_le, Int.reduceAdd, Int.reduceSub, Int.reduceMul, Int.reduceNeg, q_add_e, q_sub_e, q_mul_e, q_neg_e, q_upd_s, q_upd_n, zr_shr0, zr_shr1, zr_shr2, zr_shr3, zr_shr4, zr_and, zr_dyn8, zr_or, zr_shl, q_cpy_n, y_cpy26, Int.toNat_natCast, ry_s, c1, tn_5, eL]
          exact ih2
      · rw [hok, decide_eq_false c1, if_neg (fun z => by cases z.1)] at ih2
        simp (disch := omega) only [b_X6_nextAsked_0, x_iconst, x_storeI_2, x_storeI_3, x_storeI_4, x_loadI_4, y_ic_ge_t, y_ic_ge_f, b_X6_nextAsked_13, x_loadR_0, x_loadS_0, f_6_34, x_loadI_1, y_iald_25, y_iald_45, x_ishr, x_iand, y_if_ne_t, y_if_ne_f, b_X6_nextAsked_27, f_6_31, x_imul, x_iadd, x_loadI_3, y_ic_le_t, y_ic_le_f, b_X6_nextAsked_42, b_X6_nextAsked_57, x_iinc_4, x_goto, b_X6_nextAsked_63, x_loadI_2, x_ret0, q_isL_I, q_isL_R, q_isL_S, true_and, and_true, and_self, List.length_nil, List.length_cons, Nat.zero_add, x_K, x_Kn, Int.reduceToNat, Nat.reduceAdd, Nat.reduceMul, Nat.reduceLeDiff, Nat.reduceLT, Nat.zero_le, Int.reduceAdd, Int.reduceSub, Int.reduceMul, Int.reduceNeg, q_add_e, q_sub_e, q_mul_e, q_neg_e, q_upd_s, q_upd_n, zr_shr0, zr_shr1, zr_shr2, zr_shr3, zr_shr4, zr_and, zr_dyn8, zr_or, zr_shl, q_cpy_n, y_cpy26, Int.toNat_natCast, ry_s]
        exact ih2
  simp (disch := omega) only [b_X6_nextAsked_0, x_iconst, x_storeI_2, x_storeI_3, x_storeI_4, x_loadI_4, y_ic_ge_t, y_ic_ge_f, b_X6_nextAsked_13, x_loadR_0, x_loadS_0, f_6_34, x_loadI_1, y_iald_25, y_iald_45, x_ishr, x_iand, y_if_ne_t, y_if_ne_f, b_X6_nextAsked_27, f_6_31, x_imul, x_iadd, x_loadI_3, y_ic_le_t, y_ic_le_f, b_X6_nextAsked_42, b_X6_nextAsked_57, x_iinc_4, x_goto, b_X6_nextAsked_63, x_loadI_2, x_ret0, q_isL_I, q_isL_R, q_isL_S, true_and, and_true, and_self, List.length_nil, List.length_cons, Nat.zero_add, x_K, x_Kn, Int.reduceToNat, Nat.reduceAdd, Nat.reduceMul, Nat.reduceLeDiff, Nat.reduceLT, Nat.zero_le, Int.reduceAdd, Int.reduceSub, Int.reduceMul, Int.reduceNeg, q_add_e, q_sub_e, q_mul_e, q_neg_e, q_upd_s, q_upd_n, zr_shr0, zr_shr1, zr_shr2, zr_shr3, zr_shr4, zr_and, zr_dyn8, zr_or, zr_shl, q_cpy_n, y_cpy26]
  exact loop 5 0 rfl
end AGAINST
end
section
/-! THE MODEL: asking in turn; it ends -/
def G_ask (W : Nat → Nat → Int) (R : Nat → Int) (n p b : Nat) (x : (Nat → Int) × (Nat → Int)) : (Nat → Int) × (Nat → Int) :=
  if F_takes x.1 (fun q => W q b) (R b) b n p = true then
    (if F_askO W R n b x.1 = 5 then (F_u x.1 p b, x.2) else (F_u (F_u x.1 (F_askO W R n b x.1) 5) p b, F_u x.2 (F_askO W R n b x.1) (q_or (x.2 (F_askO W R n b x.1)) (q_shl 1 b))))
  else (x.1, F_u x.2 p (q_or (x.2 p) (q_shl 1 b)))
def G_rd (L W : Nat → Nat → Int) (R : Nat → Int) (n : Nat) (x : (Nat → Int) × (Nat → Int)) : Nat → Bool × ((Nat → Int) × (Nat → Int))
  | 0 => (false, x)
  | p + 1 =>
    if (G_rd L W R n x p).2.1 p = 5 ∧ F_dst L (G_rd L W R n x p).2 p ≠ 5 then (true, G_ask W R n p (F_dst L (G_rd L W R n x p).2 p) (G_rd L W R n x p).2)
    else G_rd L W R n x p
def G_trn (L W : Nat → Nat → Int) (R : Nat → Int) (n : Nat) : Nat → (Nat → Int) × (Nat → Int) → (Nat → Int) × (Nat → Int)
  | 0, x => x
  | k + 1, x => if (G_rd L W R n x n).1 = true then G_trn L W R n k (G_rd L W R n x n).2 else (G_rd L W R n x n).2
theorem q_bit : ∀ v : Nat, v < 32 → ∀ b : Nat, b < 5 → q_and (q_shr v b) 1 = 0 → F_ones (q_or v (q_shl 1 b)) = F_ones v + 1 ∧ 0 ≤ q_or v (q_shl 1 b) ∧ q_or v (q_shl 1 b) ≤ 31 := by decide +kernel
theorem q_bitc : ∀ v : Nat, v < 32 → ∀ b : Nat, b < 5 → ∀ c : Nat, c < 5 → c ≠ b → q_and (q_shr (q_or v (q_shl 1 b)) c) 1 = q_and (q_shr v c) 1 := by decide +kernel
theorem q_ones5 : ∀ v : Nat, v < 32 → 0 ≤ F_ones v ∧ F_ones v ≤ 5 := by decide +kernel
/-- how much may still be asked -/
def F_ph (f s : Nat → Int) : Nat → Int
  | 0 => 0
  | k + 1 => F_ph f s k + 6 * (5 - F_ones (s k)) + (if f k = 5 then 1 else 0)
theorem F_ph_cong {f f' s s' : Nat → Int} : ∀ n : Nat, (∀ k, k < n → f k = f' k) → (∀ k, k < n → s k = s' k) → F_ph f s n = F_ph f' s' n
  | 0, _, _ => rfl
  | n + 1, h1, h2 => by rw [F_ph, F_ph, F_ph_cong n (fun k hk => h1 k (by omega)) (fun k hk => h2 k (by omega)), h1 n (by omega), h2 n (by omega)]
theorem F_u_s {f : Nat → Int} {p : Nat} {v : Int} : F_u f p v p = v := if_pos rfl
theorem F_u_n {f : Nat → Int} {p i : Nat} {v : Int} (h : i ≠ p) : F_u f p v i = f i := if_neg h
theorem F_ph_f {f s : Nat → Int} {p : Nat} {v : Int} : ∀ n : Nat, p < n → F_ph (F_u f p v) s n = F_ph f s n - (if f p = 5 then 1 else 0) + (if v = 5 then 1 else 0)
  | 0, h => absurd h (Nat.not_lt_zero p)
  | n + 1, h => by
    rw [F_ph, F_ph]
    by_cases e : p = n
    · subst e
      rw [F_ph_cong p (f := F_u f p v) (f' := f) (s := s) (s' := s) (fun k hk => F_u_n (by omega)) (fun k hk => rfl), F_u_s]
      omega
    · rw [F_ph_f n (by omega), F_u_n (f := f) (v := v) (show n ≠ p by omega)]
      omega
theorem F_ph_s {f s : Nat → Int} {p : Nat} {v : Int} : ∀ n : Nat, p < n → F_ph f (F_u s p v) n = F_ph f s n + 6 * (F_ones (s p) - F_ones v)
  | 0, h => absurd h (Nat.not_lt_zero p)
  | n + 1, h => by
    rw [F_ph, F_ph]
    by_cases e : p = n
    · subst e
      rw [F_ph_cong p (f := f) (f' := f) (s := F_u s p v) (s' := s) (fun k hk => rfl) (fun k hk => F_u_n (by omega)), F_u_s]
      omega
    · rw [F_ph_s n (by omega), F_u_n (f := s) (v := v) (show n ≠ p by omega)]
      omega
/-- what holds while all ask -/
def q_iv (n : Nat) (x : (Nat → Int) × (Nat → Int)) : Prop := ∀ p, p < n → (0 ≤ x.1 p ∧ x.1 p ≤ 5) ∧ (0 ≤ x.2 p ∧ x.2 p ≤ 31) ∧ ∀ b : Nat, b < 5 → x.1 p = b → q_and (q_shr (x.2 p) b) 1 = 0
theorem F_ph_le {n : Nat} {x : (Nat → Int) × (Nat → Int)} (h : q_iv n x) : ∀ k : Nat, k ≤ n → 0 ≤ F_ph x.1 x.2 k ∧ F_ph x.1 x.2 k ≤ 31 * k
  | 0, _ => by rw [F_ph]; omega
  | k + 1, hk => by
    have h1 := F_ph_le h k (by omega)
    have h2 := (h k (by omega)).2.1
    have h3 := q_ones5 (x.2 k).toNat (by omega)
    rw [show (((x.2 k).toNat : Nat) : Int) = x.2 k by omega] at h3
    rw [F_ph]
    split <;> omega
theorem F_best_ok {L : Nat → Int} {ok : Nat → Bool} : ∀ k : Nat, (F_best L ok k).1 = 5 ∨ ok (F_best L ok k).1 = true
  | 0 => Or.inl rfl
  | k + 1 => by
    rw [F_best]
    by_cases c : ok k = true ∧ (F_best L ok k).2 < L k
    · rw [if_pos c]
      exact Or.inr c.1
    · rw [if_neg c]
      exact F_best_ok k
theorem q_bitI {v : Int} (h0 : 0 ≤ v) (h1 : v ≤ 31) {b : Nat} (hb : b < 5) (h : q_and (q_shr v b) 1 = 0) : F_ones (q_or v (q_shl 1 b)) = F_ones v + 1 ∧ (0 ≤ q_or v (q_shl 1 b) ∧ q_or v (q_shl 1 b) ≤ 31) ∧ ∀ c : Nat, c < 5 → c ≠ b → q_and (q_shr (q_or v (q_shl 1 b)) c) 1 = q_and (q_shr v c) 1 := by
  obtain ⟨V, rfl⟩ : ∃ V : Nat, v = V := ⟨v.toNat, by omega⟩
  have h2 := q_bit V (by omega) b hb h
  exact ⟨h2.1, h2.2, fun c hc hn => q_bitc V (by omega) b hb c hc hn⟩
theorem G_ask_iv {W : Nat → Nat → Int} {R : Nat → Int} {n p b : Nat} {x : (Nat → Int) × (Nat → Int)} (h : q_iv n x) (hp : p < n) (hn : n ≤ 5) (hb : b < 5) (h5 : x.1 p = 5) (hbit : q_and (q_shr (x.2 p) b) 1 = 0) : q_iv n (G_ask W R n p b x) ∧ F_ph (G_ask W R n p b x).1 (G_ask W R n p b x).2 n < F_ph x.1 x.2 n := by
  unfold G_ask
  by_cases c1 : F_takes x.1 (fun q => W q b) (R b) b n p = true
  · rw [if_pos c1]
    have ho : F_askO W R n b x.1 = 5 ∨ (F_askO W R n b x.1 < n ∧ x.1 (F_askO W R n b x.1) = b) := by
      unfold F_askO F_cast
      split
      · exact Or.inl rfl
      · exact F_last_in n
    generalize F_askO W R n b x.1 = O at ho ⊢
    by_cases c2 : O = 5
    · rw [if_pos c2]
      refine ⟨fun q hq => ?_, ?_⟩
      · have hq2 := h q hq
        by_cases e : q = p
        · subst e
          refine ⟨?_, hq2.2.1, fun b2 hb2 he => ?_⟩
          · show 0 ≤ F_u x.1 q b q ∧ F_u x.1 q b q ≤ 5
            rw [F_u_s]
            omega
          · have he : F_u x.1 q b q = b2 := he
            rw [F_u_s] at he
            have : b = b2 := by omega
            rw [← this]
            exact hbit
        · show (0 ≤ F_u x.1 p b q ∧ F_u x.1 p b q ≤ 5) ∧ (0 ≤ x.2 q ∧ x.2 q ≤ 31) ∧ ∀ b2 : Nat, b2 < 5 → F_u x.1 p b q = b2 → q_and (q_shr (x.2 q) b2) 1 = 0
          rw [F_u_n e]
          exact hq2
      · show F_ph (F_u x.1 p b) x.2 n < _
        rw [F_ph_f n hp, if_pos h5, if_neg (by omega)]
        omega
    · rw [if_neg c2]
      rcases ho with ho | ⟨hO, hOb⟩
      · exact absurd ho c2
      · have hOp : O ≠ p := fun z => by rw [z, h5] at hOb; omega
        have hO2 := h O hO
        have hOz := hO2.2.2 b hb hOb
        have bt := q_bitI hO2.2.1.1 hO2.2.1.2 hb hOz
        refine ⟨fun q hq => ?_, ?_⟩
        · have hq2 := h q hq
          show (0 ≤ F_u (F_u x.1 O 5) p b q ∧ F_u (F_u x.1 O 5) p b q ≤ 5) ∧ (0 ≤ F_u x.2 O (q_or (x.2 O) (q_shl 1 b)) q ∧ F_u x.2 O (q_or (x.2 O) (q_shl 1 b)) q ≤ 31) ∧ ∀ b2 : Nat, b2 < 5 → F_u (F_u x.1 O 5) p b q = b2 → q_and (q_shr (F_u x.2 O (q_or (x.2 O) (q_shl 1 b)) q) b2) 1 = 0
          by_cases e : q = p
          · subst e
            rw [F_u_s, F_u_n (show q ≠ O from fun z => hOp z.symm)]
            refine ⟨by omega, hq2.2.1, fun b2 hb2 he => ?_⟩
            have : b = b2 := by omega
            rw [← this]
            exact hbit
          · rw [F_u_n e]
            by_cases e2 : q = O
            · subst e2
              rw [F_u_s, F_u_s]
              exact ⟨by omega, bt.2.1, fun b2 hb2 he => absurd he (by omega)⟩
            · rw [F_u_n e2, F_u_n e2]
              exact hq2
        · show F_ph (F_u (F_u x.1 O 5) p b) (F_u x.2 O (q_or (x.2 O) (q_shl 1 b))) n < _
          rw [F_ph_f n hp, F_ph_f n hO, F_ph_s n hO, F_u_n (show p ≠ O from fun z => hOp z.symm), if_pos h5, if_neg (show ¬(b : Int) = 5 by omega), if_pos rfl, if_neg (show ¬x.1 O = 5 by omega), bt.1]
          omega
  · rw [if_neg c1]
    have hp2 := h p hp
    have bt := q_bitI hp2.2.1.1 hp2.2.1.2 hb hbit
    refine ⟨fun q hq => ?_, ?_⟩
    · have hq2 := h q hq
      show (0 ≤ x.1 q ∧ x.1 q ≤ 5) ∧ (0 ≤ F_u x.2 p (q_or (x.2 p) (q_shl 1 b)) q ∧ F_u x.2 p (q_or (x.2 p) (q_shl 1 b)) q ≤ 31) ∧ ∀ b2 : Nat, b2 < 5 → x.1 q = b2 → q_and (q_shr (F_u x.2 p (q_or (x.2 p) (q_shl 1 b)) q) b2) 1 = 0
      by_cases e : q = p
      · subst e
        rw [F_u_s]
        exact ⟨hq2.1, bt.2.1, fun b2 hb2 he => absurd he (by omega)⟩
      · rw [F_u_n e]
        exact hq2
    · show F_ph x.1 (F_u x.2 p (q_or (x.2 p) (q_shl 1 b))) n < _
      rw [F_ph_s n hp, bt.1]
      omega
theorem F_dst_bit {L : Nat → Nat → Int} {x : (Nat → Int) × (Nat → Int)} {p : Nat} (h : F_dst L x p ≠ 5) : q_and (q_shr (x.2 p) (F_dst L x p : Nat)) 1 = 0 := by
  rcases F_best_ok (L := L p) (ok := fun k => decide (q_and (q_shr (x.2 p) k) 1 = 0)) 5 with k | k
  · exact absurd k h
  · exact of_decide_eq_true k
theorem G_rd_iv {L W : Nat → Nat → Int} {R : Nat → Int} {n : Nat} {x : (Nat → Int) × (Nat → Int)} (hn : n ≤ 5) (h : q_iv n x) : ∀ p : Nat, p ≤ n → q_iv n (G_rd L W R n x p).2 ∧ F_ph (G_rd L W R n x p).2.1 (G_rd L W R n x p).2.2 n ≤ F_ph x.1 x.2 n ∧ ((G_rd L W R n x p).1 = true → F_ph (G_rd L W R n x p).2.1 (G_rd L W R n x p).2.2 n < F_ph x.1 x.2 n)
  | 0, _ => ⟨h, Int.le_refl _, fun z => by cases z⟩
  | p + 1, hp => by
    have h1 := G_rd_iv (L := L) (W := W) (R := R) hn h p (by omega)
    rw [G_rd]
    by_cases c : (G_rd L W R n x p).2.1 p = 5 ∧ F_dst L (G_rd L W R n x p).2 p ≠ 5
    · rw [if_pos c]
      have hd := F_dst_le (L := L) (x := (G_rd L W R n x p).2) (p := p)
      have h2 := G_ask_iv (W := W) (R := R) (p := p) (b := F_dst L (G_rd L W R n x p).2 p) h1.1 (by omega) hn (by have := c.2; omega) c.1 (F_dst_bit c.2)
      exact ⟨h2.1, by show F_ph (G_ask W R n p (F_dst L (G_rd L W R n x p).2 p) (G_rd L W R n x p).2).1 (G_ask W R n p (F_dst L (G_rd L W R n x p).2 p) (G_rd L W R n x p).2).2 n ≤ _; omega, fun _ => by show F_ph (G_ask W R n p (F_dst L (G_rd L W R n x p).2 p) (G_rd L W R n x p).2).1 (G_ask W R n p (F_dst L (G_rd L W R n x p).2 p) (G_rd L W R n x p).2).2 n < _; omega⟩
    · rw [if_neg c]
      exact h1
set_option maxHeartbeats 4000000 in
theorem mp_asksOne {d : Nat} {g : q_G} {M : q_M} {x : (Nat → Int) × (Nat → Int)} {p : Nat} (hp : p < (M 100 0).toNat) (h0 : 0 ≤ M 100 0) (h5 : M 100 0 ≤ 5) (hx : q_x5 (M 100 0).toNat x) (Q : Option q_V → q_G → q_M → Prop) : q_S 1 (d + 2) 169 [qR 6 100, qI p] g (q_yM M x) Q = (if F_dst (mL M) x p = 5 then Q (some (qI 0)) g (q_yM M x) else Q (some (qI 1)) g (q_yM M (G_ask (mWn M) (mR M) (M 100 0).toNat p (F_dst (mL M) x p) x))) := by
  have main : ∀ Q : Option q_V → q_G → q_M → Prop, (if F_dst (mL M) x p = 5 then Q (some (qI 0)) g (q_yM M x) else Q (some (qI 1)) g (q_yM M (G_ask (mWn M) (mR M) (M 100 0).toNat p (F_dst (mL M) x p) x))) → q_S 1 (d + 2) 169 [qR 6 100, qI p] g (q_yM M x) Q := by
    intro Q hq
    have hp5 : p < 5 := by omega
    have hdl := F_dst_le (L := mL M) (x := x) (p := p)
    have eD : (F_best (mL M p) (fun k => decide (q_and (q_shr (x.2 p) k) 1 = 0)) 5).1 = F_dst (mL M) x p := rfl
    have eR : ∀ i, q_yM M x 103 i = M 103 i := fun i => ry_n (by omega) (by omega)
    rw [s_X6_asksOne]
    generalize F_dst (mL M) x p = D at hq hdl eD
    rcases hdl with hD | hD
    · rw [if_neg (by omega)] at hq
      have em : m_no D = (D : Int) := if_neg (by omega)
      unfold G_ask at hq
      by_cases c1 : F_takes x.1 (fun q => mWn M q D) (mR M D) D (M 100 0).toNat p = true
      · rw [if_pos c1] at hq
        have hO : F_askO (mWn M) (mR M) (M 100 0).toNat D x.1 = if F_cnt x.1 D (M 100 0).toNat < mR M D then 5 else F_last x.1 (fun q => mWn M q D) D (M 100 0).toNat := rfl
        by_cases c2 : F_cnt x.1 D (M 100 0).toNat < mR M D
        · rw [if_pos c2] at hO
          rw [hO, if_pos rfl] at hq
          have c3 : F_cnt x.1 D (M 100 0).toNat < M 103 (4 * D + 1) := c2
          have uf : q_upd (q_yM M x) 121 p (D : Nat) = q_yM M (F_u x.1 p D, x.2) := uy_f hp5 (m_raw_n (by omega) (by omega))
          simp (disch := omega) only [b_X6_asksOne_0, x_loadR_0, x_loadS_0, x_loadI_1, x_storeI_2, x_loadI_2, x_iconst, y_ic_ne_t, y_ic_ne_f, b_X6_asksOne_11, x_ret1_0, x_ret1_1, b_X6_asksOne_13, y_if_ne_t, y_if_ne_f, b_X6_asksOne_22, f_6_34, x_dup2, y_iald_25, y_iald_40, x_ishl, x_ior, y_iast_25, y_iast_40, b_X6_asksOne_36, f_6_3, x_imul, x_iadd, y_ic_lt_t, y_ic_lt_f, b_X6_asksOne_54, x_storeI_3, f_6_33, x_loadI_3, b_X6_asksOne_84, q_isL_I, q_isL_R, q_isL_S, true_and, and_true, and_self, List.length_nil, List.length_cons, Nat.zero_add, x_K, x_Kn, Int.reduceToNat, Nat.reduceAdd, Nat.reduceMul, Nat.reduceLeDiff, Nat.reduceLT, Nat.zero_le, Int.reduceAdd, Int.reduceSub, Int.reduceMul, Int.reduceNeg, q_add_e, q_sub_e, q_mul_e, q_neg_e, q_upd_s, q_upd_n, zr_shr0, zr_shr1, zr_shr2, zr_shr3, zr_shr4, zr_and, zr_dyn8, zr_or, zr_shl, q_cpy_n, y_cpy26, c_X6_nextAsked, mp_nextAsked, eD, em, c_X6_wouldTake, mp_wouldTake, hx, c1, if_true, c_X6_sitting, mp_sitting, tn_41, eR, Int.toNat_natCast, uf]
          exact hq
        · rw [if_neg c2] at hO
          have h7 := F_last_1 x.1 (fun q => mWn M q D) D (M 100 0).toNat
          have c1b := c1
          unfold F_takes at c1b
          rw [if_neg c2] at c1b
          have c3 : ¬F_cnt x.1 D (M 100 0).toNat < M 103 (4 * D + 1) := c2
          rw [hO] at hq
          generalize hF : F_last x.1 (fun q => mWn M q D) D (M 100 0).toNat = F at h7 c1b hq
          by_cases c5 : F = 5
          · rw [if_pos c5] at c1b
            exact absurd c1b (by decide)
          · have hF5 : F < 5 := by omega
            rw [if_neg c5] at hq
            have eF : m_no F = (F : Int) := if_neg c5
            have iw : (if (F : Int) < 0 then (0 : Int) else if (4 : Int) < F then 4 else F) = F := by rw [if_neg (by omega), if_neg (by omega)]
            have u1 : q_upd (q_yM M x) 121 F (-1) = q_yM M (F_u x.1 F 5, x.2) := uy_f hF5 (if_pos rfl)
            have r1 : q_yM M (F_u x.1 F 5, x.2) 122 F = x.2 F := ry_s hF5
            have u2 : ∀ v, q_upd (q_yM M (F_u x.1 F 5, x.2)) 122 F v = q_yM M (F_u x.1 F 5, F_u x.2 F v) := fun v => uy_s hF5
            have u3 : ∀ s2 : Nat → Int, q_upd (q_yM M (F_u x.1 F 5, s2)) 121 p (D : Nat) = q_yM M (F_u (F_u x.1 F 5) p D, s2) := fun s2 => uy_f hp5 (m_raw_n (by omega) (by omega))
            simp (disch := omega) only [b_X6_asksOne_0, x_loadR_0, x_loadS_0, x_loadI_1, x_storeI_2, x_loadI_2, x_iconst, y_ic_ne_t, y_ic_ne_f, b_X6_asksOne_11, x_ret1_0, x_ret1_1, b_X6_asksOne_13, y_if_ne_t, y_if_ne_f, b_X6_asksOne_22, f_6_34, x_dup2, y_iald_25, y_iald_40, x_ishl, x_ior, y_iast_25, y_iast_40, b_X6_asksOne_36, f_6_3, x_imul, x_iadd, y_ic_lt_t, y_ic_lt_f, b_X6_asksOne_54, x_storeI_3, f_6_33, x_loadI_3, b_X6_asksOne_84, q_isL_I, q_isL_R, q_isL_S, true_and, and_true, and_self, List.length_nil, List.length_cons, Nat.zero_add, x_K, x_Kn, Int.reduceToNat, Nat.reduceAdd, Nat.reduceMul, Nat.reduceLeDiff, Nat.reduceLT, Nat.zero_le, Int.reduceAdd, Int.reduceSub, Int.reduceMul, Int.reduceNeg, q_add_e, q_sub_e, q_mul_e, q_neg_e, q_upd_s, q_upd_n, zr_shr0, zr_shr1, zr_shr2, zr_shr3, zr_shr4, zr_and, zr_dyn8, zr_or, zr_shl, q_cpy_n, y_cpy26, c_X6_nextAsked, mp_nextAsked, eD, em, c_X6_wouldTake, mp_wouldTake, hx, c1, if_true, c_X6_sitting, mp_sitting, tn_41, eR, Int.toNat_natCast, c_X6_lastSitting, mp_lastSitting, hF, eF, c_X6_within, mp_within, iw, u1, r1, u2, u3]
            exact hq
      · rw [if_neg c1] at hq
        have r1 : q_yM M x 122 p = x.2 p := ry_s hp5
        have u2 : ∀ v, q_upd (q_yM M x) 122 p v = q_yM M (x.1, F_u x.2 p v) := fun v => uy_s hp5
        simp (disch := omega) only [b_X6_asksOne_0, x_loadR_0, x_loadS_0, x_loadI_1, x_storeI_2, x_loadI_2, x_iconst, y_ic_ne_t, y_ic_ne_f, b_X6_asksOne_11, x_ret1_0, x_ret1_1, b_X6_asksOne_13, y_if_ne_t, y_if_ne_f, b_X6_asksOne_22, f_6_34, x_dup2, y_iald_25, y_iald_40, x_ishl, x_ior, y_iast_25, y_iast_40, b_X6_asksOne_36, f_6_3, x_imul, x_iadd, y_ic_lt_t, y_ic_lt_f, b_X6_asksOne_54, x_storeI_3, f_6_33, x_loadI_3, b_X6_asksOne_84, q_isL_I, q_isL_R, q_isL_S, true_and, and_true, and_self, List.length_nil, List.length_cons, Nat.zero_add, x_K, x_Kn, Int.reduceToNat, Nat.reduceAdd, Nat.reduceMul, Nat.reduceLeDiff, Nat.reduceLT, Nat.zero_le, Int.reduceAdd, Int.reduceSub, Int.reduceMul, Int.reduceNeg, q_add_e, q_sub_e, q_mul_e, q_neg_e, q_upd_s, q_upd_n, zr_shr0, zr_shr1, zr_shr2, zr_shr3, zr_shr4, zr_and, zr_dyn8, zr_or, zr_shl, q_cpy_n, y_cpy26, c_X6_nextAsked, mp_nextAsked, eD, em, c_X6_wouldTake, mp_wouldTake, hx, c1, Bool.false_eq_true, if_false, Int.toNat_natCast, r1, u2]
        exact hq
    · subst hD
      rw [if_pos rfl] at hq
      simp (disch := omega) only [b_X6_asksOne_0, x_loadR_0, x_loadS_0, x_loadI_1, x_storeI_2, x_loadI_2, x_iconst, y_ic_ne_t, y_ic_ne_f, b_X6_asksOne_11, x_ret1_0, x_ret1_1, b_X6_asksOne_13, y_if_ne_t, y_if_ne_f, b_X6_asksOne_22, f_6_34, x_dup2, y_iald_25, y_iald_40, x_ishl, x_ior, y_iast_25, y_iast_40, b_X6_asksOne_36, f_6_3, x_imul, x_iadd, y_ic_lt_t, y_ic_lt_f, b_X6_asksOne_54, x_storeI_3, f_6_33, x_loadI_3, b_X6_asksOne_84, q_isL_I, q_isL_R, q_isL_S, true_and, and_true, and_self, List.length_nil, List.length_cons, Nat.zero_add, x_K, x_Kn, Int.reduceToNat, Nat.reduceAdd, Nat.reduceMul, Nat.reduceLeDiff, Nat.reduceLT, Nat.zero_le, Int.reduceAdd, Int.reduceSub, Int.reduceMul, Int.reduceNeg, q_add_e, q_sub_e, q_mul_e, q_neg_e, q_upd_s, q_upd_n, zr_shr0, zr_shr1, zr_shr2, zr_shr3, zr_shr4, zr_and, zr_dyn8, zr_or, zr_shl, q_cpy_n, y_cpy26, c_X6_nextAsked, mp_nextAsked, eD, m_no, if_true]
      exact hq
  apply propext
  constructor
  · intro h
    by_cases c : F_dst (mL M) x p = 5
    · rw [if_pos c]
      rw [q_S_eq (fun Q2 hq2 => main Q2 (by rw [if_pos c]; exact hq2)) Q] at h
      exact h
    · rw [if_neg c]
      rw [q_S_eq (fun Q2 hq2 => main Q2 (by rw [if_neg c]; exact hq2)) Q] at h
      exact h
  · exact main Q
end
