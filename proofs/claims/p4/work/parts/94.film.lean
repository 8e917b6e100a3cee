/-! THE CLASS'S ENTRIES: film, image, back, force -/
theorem q_i2b_b : ∀ k : Nat, k < 100 → q_i2b (k : Int) = k := by decide +kernel
theorem q_i2b_e {x : Int} (h0 : 0 ≤ x) (h1 : x ≤ 99) : q_i2b x = x := by
  have h := q_i2b_b x.toNat (by omega)
  rw [show ((x.toNat : Nat) : Int) = x by omega] at h
  exact h
theorem q_tq_upd {M M2 : q_M} {a i : Nat} {v : Int} (h : q_tq M M2) : q_tq (q_upd M a i v) (q_upd M2 a i v) := by
  intro b j h1 h2 h3 h4
  by_cases c : b = a ∧ j = i
  · obtain ⟨rfl, rfl⟩ := c
    rw [q_upd_s, q_upd_s]
  · rw [q_upd_n (by omega), q_upd_n (by omega)]
    exact h b j h1 h2 h3 h4
/-- where stone p lies behind 1, .. k years -/
def F_flm (V : Nat → (Nat → Int) → Int) (S : q_M) (p k : Nat) : Nat → Int := fun i => if i < k then F_ys V S (i + 1) 2 p else 0
theorem F_flm_u {V : Nat → (Nat → Int) → Int} {S : q_M} {p k : Nat} : F_u (F_flm V S p k) k (F_ys V S (k + 1) 2 p) = F_flm V S p (k + 1) := by
  funext i
  unfold F_u F_flm
  by_cases c : i = k
  · rw [if_pos c, if_pos (by omega), c]
  · rw [if_neg c]
    by_cases c2 : i < k
    · rw [if_pos c2, if_pos (by omega)]
    · rw [if_neg c2, if_neg (by omega)]
def A_film (M : q_M) (s p n : Int) : Int := if ¬(0 ≤ s ∧ s < 4) then -2 else if ¬(0 ≤ p ∧ p < M 12 5) then -5 else if ¬(0 ≤ n ∧ n ≤ 20) then -7 else n
def q_filmM (V : Nat → (Nat → Int) → Int) (M : q_M) (s p n : Int) : q_M := if (0 ≤ s ∧ s < 4) ∧ (0 ≤ p ∧ p < M 12 5) ∧ (0 ≤ n ∧ n ≤ 20) then q_shM M (6 + (86 + 2 * s.toNat)) 0 n (F_flm V (cW M 11) p.toNat n.toNat) else M
set_option maxHeartbeats 4000000 in
theorem sp_film {V : Nat → (Nat → Int) → Int} {d : Nat} {g : q_G} {M : q_M} {ta : Nat} {s p n : Int} {Q : Option q_V → q_G → q_M → Prop} (C : q_ci V M ta) (hq : ∀ M2 : q_M, q_tq (q_filmM V M s p n) M2 → Q (some (qI (A_film M s p n))) g M2) : q_S 1 (d + 6) 88 [qR 5 0, qI s, qI p, qI n] g M Q := by
  have h12 := q_ci_n C
  have h9 := q_ci_y C
  have hta := C.1
  unfold q_tas at hta
  rw [s_X5_film]
  by_cases c1 : 0 ≤ s ∧ s < 4
  · by_cases c2 : 0 ≤ p ∧ p < M 12 5
    · by_cases c3 : 0 ≤ n ∧ n ≤ 20
      · rw [show A_film M s p n = n by (unfold A_film; rw [if_neg (fun z => z c1), if_neg (fun z => z c2), if_neg (fun z => z c3)]), show q_filmM V M s p n = q_shM M (6 + (86 + 2 * s.toNat)) 0 n (F_flm V (cW M 11) p.toNat n.toNat) from if_pos ⟨c1, c2, c3⟩] at hq
        obtain ⟨S, rfl⟩ : ∃ S : Nat, s = S := ⟨s.toNat, by omega⟩
        obtain ⟨N, rfl⟩ : ∃ N : Nat, p = N := ⟨p.toNat, by omega⟩
        obtain ⟨K, rfl⟩ : ∃ K : Nat, n = K := ⟨n.toNat, by omega⟩
        simp only [Int.toNat_natCast] at hq
        have loop : ∀ j k : Nat, k + j = K → ∀ M1 : q_M, q_wl V M1 38 ta → cW M1 38 = F_ys V (cW M 11) k → q_z5 M1 38 → M1 38 9 + j ≤ 2000 → M1 (38 + 1) 5 = M 12 5 → q_tq (q_shM M (6 + (86 + 2 * S)) 0 K (F_flm V (cW M 11) N k)) M1 → q_T 1 (d + 6) qP_X5_film 59 [] [qR 5 0, qI S, qI N, qI K, qI k] [] g M1 Q := by
          intro j
          induction j with
          | zero =>
            intro k hk M1 hw hc hz hy hn hf
            have e : k = K := by omega
            subst e
            rw [b_X5_film_59]
            simp (disch := omega) only [b_X5_film_0, x_loadI_1, y_if_ne_t, y_if_ne_f, b_X5_film_7, x_iconst, x_ret0, b_X5_film_10, x_loadR_0, x_loadS_0, x_loadI_2, b_X5_film_18, b_X5_film_21, x_loadI_3, y_if_lt_t, y_if_lt_f, b_X5_film_25, y_ic_le_t, y_ic_le_f, b_X5_film_31, b_X5_film_34, f_5_4, f_5_3, f_5_7, y_aald9, x_storeI_4, x_loadI_4, y_ic_ge_t, y_ic_ge_f, b_X5_film_65, x_popI, x_popR, f_4_6, y_iald_26, x_iinc_4, x_goto, b_X5_film_99, q_isL_I, q_isL_R, q_isL_S, true_and, and_true, and_self, List.length_nil, List.length_cons, Nat.zero_add, x_K, x_Kn, Int.reduceToNat, Nat.reduceAdd, Nat.reduceMul, Nat.reduceLeDiff, Nat.reduceLT, Nat.zero_le, Int.reduceAdd, Int.reduceSub, Int.reduceMul, Int.reduceNeg, q_add_e, q_sub_e, q_mul_e, q_neg_e, q_upd_s, q_upd_n, zr_shr0, zr_shr1, zr_shr2, zr_shr3, zr_shr4, zr_and, zr_dyn8, zr_or, zr_shl, q_cpy_n, y_cpy26]
            exact hq M1 hf
          | succ j ih =>
            intro k hk M1 hw hc hz hy hn hf
            rw [b_X5_film_59]
            simp (disch := omega) only [b_X5_film_0, x_loadI_1, y_if_ne_t, y_if_ne_f, b_X5_film_7, x_iconst, x_ret0, b_X5_film_10, x_loadR_0, x_loadS_0, x_loadI_2, b_X5_film_18, b_X5_film_21, x_loadI_3, y_if_lt_t, y_if_lt_f, b_X5_film_25, y_ic_le_t, y_ic_le_f, b_X5_film_31, b_X5_film_34, f_5_4, f_5_3, f_5_7, y_aald9, x_storeI_4, x_loadI_4, y_ic_ge_t, y_ic_ge_f, b_X5_film_65, x_popI, x_popR, f_4_6, y_iald_26, x_iinc_4, x_goto, b_X5_film_99, q_isL_I, q_isL_R, q_isL_S, true_and, and_true, and_self, List.length_nil, List.length_cons, Nat.zero_add, x_K, x_Kn, Int.reduceToNat, Nat.reduceAdd, Nat.reduceMul, Nat.reduceLeDiff, Nat.reduceLT, Nat.zero_le, Int.reduceAdd, Int.reduceSub, Int.reduceMul, Int.reduceNeg, q_add_e, q_sub_e, q_mul_e, q_neg_e, q_upd_s, q_upd_n, zr_shr0, zr_shr1, zr_shr2, zr_shr3, zr_shr4, zr_and, zr_dyn8, zr_or, zr_shl, q_cpy_n, y_cpy26, c_X4_passYear]
            refine sp_passYear hw hz.1 (by omega) (fun M2 h1 h2 h3 => ?_)
            have hy2 := F_year_y h2
            have h4 := q_tq_tr hf (q_tq_th C.1 (q_th_yn h3))
            have e5 : M2 (38 + 1) 5 = M1 (38 + 1) 5 := h3 _ 5 (by omega) (by omega) (by omega) (by omega)
            have hc2 : cW M2 38 = F_ys V (cW M 11) (k + 1) := by rw [h2, hc]; rfl
            have ea : F_ys V (cW M 11) (k + 1) 2 N = M2 62 N := by rw [← hc2]; exact cW_2 (by rw [e5, hn]; omega)
            have a1 : M2 (6 + (86 + 2 * S)) 1 = 0 := (h4 _ 1 (by omega) (by omega) (by omega) (by omega)).trans q_shM_1
            have a2 : M2 (6 + (86 + 2 * S)) 2 = K := (h4 _ 2 (by omega) (by omega) (by omega) (by omega)).trans q_shM_2
            have hb : 0 ≤ M2 62 N ∧ M2 62 N ≤ 99 := h1.1.2.2.2.2.1 N
            have wr : ∀ (nx : Nat) (ops : List Instr) (ls st : List q_V), (q_T 1 (d + 6) qP_X5_film nx ops ls st g (q_upd M2 (6 + (86 + 2 * S) + 1) k (M2 62 N)) Q) → q_S 1 (d + 5) 45 [qR 2 (6 + (86 + 2 * S)), qI k, qI (M2 62 N)] g M2 (q_K 1 (d + 6) qP_X5_film nx ops ls st Q) := fun nx ops ls st h => sp_write (by omega) (by omega) (by omega) (by
              rw [a1, show F_cvt 0 (M2 62 N) = q_i2b (M2 62 N) from if_pos rfl, q_i2b_e hb.1 hb.2, Int.toNat_natCast]
              exact h)
            simp (disch := omega) only [b_X5_film_0, x_loadI_1, y_if_ne_t, y_if_ne_f, b_X5_film_7, x_iconst, x_ret0, b_X5_film_10, x_loadR_0, x_loadS_0, x_loadI_2, b_X5_film_18, b_X5_film_21, x_loadI_3, y_if_lt_t, y_if_lt_f, b_X5_film_25, y_ic_le_t, y_ic_le_f, b_X5_film_31, b_X5_film_34, f_5_4, f_5_3, f_5_7, y_aald9, x_storeI_4, x_loadI_4, y_ic_ge_t, y_ic_ge_f, b_X5_film_65, x_popI, x_popR, f_4_6, y_iald_26, x_iinc_4, x_goto, b_X5_film_99, q_isL_I, q_isL_R, q_isL_S, true_and, and_true, and_self, List.length_nil, List.length_cons, Nat.zero_add, x_K, x_Kn, Int.reduceToNat, Nat.reduceAdd, Nat.reduceMul, Nat.reduceLeDiff, Nat.reduceLT, Nat.zero_le, Int.reduceAdd, Int.reduceSub, Int.reduceMul, Int.reduceNeg, q_add_e, q_sub_e, q_mul_e, q_neg_e, q_upd_s, q_upd_n, zr_shr0, zr_shr1, zr_shr2, zr_shr3, zr_shr4, zr_and, zr_dyn8, zr_or, zr_shl, q_cpy_n, y_cpy26, c_X2_write, Int.toNat_natCast]
            refine wr _ _ _ _ ?_
            simp (disch := omega) only [b_X5_film_0, x_loadI_1, y_if_ne_t, y_if_ne_f, b_X5_film_7, x_iconst, x_ret0, b_X5_film_10, x_loadR_0, x_loadS_0, x_loadI_2, b_X5_film_18, b_X5_film_21, x_loadI_3, y_if_lt_t, y_if_lt_f, b_X5_film_25, y_ic_le_t, y_ic_le_f, b_X5_film_31, b_X5_film_34, f_5_4, f_5_3, f_5_7, y_aald9, x_storeI_4, x_loadI_4, y_ic_ge_t, y_ic_ge_f, b_X5_film_65, x_popI, x_popR, f_4_6, y_iald_26, x_iinc_4, x_goto, b_X5_film_99, q_isL_I, q_isL_R, q_isL_S, true_and, and_true, and_self, List.length_nil, List.length_cons, Nat.zero_add, x_K, x_Kn, Int.reduceToNat, Nat.reduceAdd, Nat.reduceMul, Nat.reduceLeDiff, Nat.reduceLT, Nat.zero_le, Int.reduceAdd, Int.reduceSub, Int.reduceMul, Int.reduceNeg, q_add_e, q_sub_e, q_mul_e, q_neg_e, q_upd_s, q_upd_n, zr_shr0, zr_shr1, zr_shr2, zr_shr3, zr_shr4, zr_and, zr_dyn8, zr_or, zr_shl, q_cpy_n, y_cpy26]
            have h5 := q_tq_upd (a := 6 + (86 + 2 * S) + 1) (i := k) (v := M2 62 N) h4
            rw [q_shM_u (by omega), ← ea, F_flm_u, ea] at h5
            refine ih (k + 1) (by omega) _ (q_wl_eq (fun a i ha => q_upd_n (by omega)) h1) ?_ (q_z5_eq (fun a q1 q2 => (q_upd_n (by omega)).trans (h3 a 5 (by omega) (by omega) (by omega) (by omega))) hz) ?_ ?_ h5
            · rw [← hc2]
              exact cW_same (fun a i ha => q_upd_n (by omega))
            · rw [q_upd_n (by omega)]
              omega
            · rw [q_upd_n (by omega)]
              exact e5.trans hn
        have bec : ∀ (M2 : q_M) (nx : Nat) (ops : List Instr) (ls st : List q_V), (q_T 1 (d + 6) qP_X5_film nx ops ls st g (q_shM M2 (6 + (86 + 2 * S)) 0 K (fun _ => 0)) Q) → q_S 1 (d + 5) 44 [qR 2 (6 + (86 + 2 * S)), qI 0, qI K] g M2 (q_K 1 (d + 6) qP_X5_film nx ops ls st Q) := fun M2 nx ops ls st h => sp_become h
        simp (disch := omega) only [b_X5_film_0, x_loadI_1, y_if_ne_t, y_if_ne_f, b_X5_film_7, x_iconst, x_ret0, b_X5_film_10, x_loadR_0, x_loadS_0, x_loadI_2, b_X5_film_18, b_X5_film_21, x_loadI_3, y_if_lt_t, y_if_lt_f, b_X5_film_25, y_ic_le_t, y_ic_le_f, b_X5_film_31, b_X5_film_34, f_5_4, f_5_3, f_5_7, y_aald9, x_storeI_4, x_loadI_4, y_ic_ge_t, y_ic_ge_f, b_X5_film_65, x_popI, x_popR, f_4_6, y_iald_26, x_iinc_4, x_goto, b_X5_film_99, q_isL_I, q_isL_R, q_isL_S, true_and, and_true, and_self, List.length_nil, List.length_cons, Nat.zero_add, x_K, x_Kn, Int.reduceToNat, Nat.reduceAdd, Nat.reduceMul, Nat.reduceLeDiff, Nat.reduceLT, Nat.zero_le, Int.reduceAdd, Int.reduceSub, Int.reduceMul, Int.reduceNeg, q_add_e, q_sub_e, q_mul_e, q_neg_e, q_upd_s, q_upd_n, zr_shr0, zr_shr1, zr_shr2, zr_shr3, zr_shr4, zr_and, zr_dyn8, zr_or, zr_shl, q_cpy_n, y_cpy26, c_X5_isSheet, sp_isSheet, c1, c_X5_isStone, sp_isStone, c2, and_self, if_true, c_X4_copyFrom]
        refine sp_think C q_tq_rf (fun M2 h2 => ?_)
        obtain ⟨t1, t2, t3, t4, t5, t6⟩ := h2
        simp (disch := omega) only [b_X5_film_0, x_loadI_1, y_if_ne_t, y_if_ne_f, b_X5_film_7, x_iconst, x_ret0, b_X5_film_10, x_loadR_0, x_loadS_0, x_loadI_2, b_X5_film_18, b_X5_film_21, x_loadI_3, y_if_lt_t, y_if_lt_f, b_X5_film_25, y_ic_le_t, y_ic_le_f, b_X5_film_31, b_X5_film_34, f_5_4, f_5_3, f_5_7, y_aald9, x_storeI_4, x_loadI_4, y_ic_ge_t, y_ic_ge_f, b_X5_film_65, x_popI, x_popR, f_4_6, y_iald_26, x_iinc_4, x_goto, b_X5_film_99, q_isL_I, q_isL_R, q_isL_S, true_and, and_true, and_self, List.length_nil, List.length_cons, Nat.zero_add, x_K, x_Kn, Int.reduceToNat, Nat.reduceAdd, Nat.reduceMul, Nat.reduceLeDiff, Nat.reduceLT, Nat.zero_le, Int.reduceAdd, Int.reduceSub, Int.reduceMul, Int.reduceNeg, q_add_e, q_sub_e, q_mul_e, q_neg_e, q_upd_s, q_upd_n, zr_shr0, zr_shr1, zr_shr2, zr_shr3, zr_shr4, zr_and, zr_dyn8, zr_or, zr_shl, q_cpy_n, y_cpy26, c_X2_become, Int.toNat_natCast]
        refine bec _ _ _ _ _ ?_
        simp (disch := omega) only [b_X5_film_0, x_loadI_1, y_if_ne_t, y_if_ne_f, b_X5_film_7, x_iconst, x_ret0, b_X5_film_10, x_loadR_0, x_loadS_0, x_loadI_2, b_X5_film_18, b_X5_film_21, x_loadI_3, y_if_lt_t, y_if_lt_f, b_X5_film_25, y_ic_le_t, y_ic_le_f, b_X5_film_31, b_X5_film_34, f_5_4, f_5_3, f_5_7, y_aald9, x_storeI_4, x_loadI_4, y_ic_ge_t, y_ic_ge_f, b_X5_film_65, x_popI, x_popR, f_4_6, y_iald_26, x_iinc_4, x_goto, b_X5_film_99, q_isL_I, q_isL_R, q_isL_S, true_and, and_true, and_self, List.length_nil, List.length_cons, Nat.zero_add, x_K, x_Kn, Int.reduceToNat, Nat.reduceAdd, Nat.reduceMul, Nat.reduceLeDiff, Nat.reduceLT, Nat.zero_le, Int.reduceAdd, Int.reduceSub, Int.reduceMul, Int.reduceNeg, q_add_e, q_sub_e, q_mul_e, q_neg_e, q_upd_s, q_upd_n, zr_shr0, zr_shr1, zr_shr2, zr_shr3, zr_shr4, zr_and, zr_dyn8, zr_or, zr_shl, q_cpy_n, y_cpy26]
        refine loop K 0 (by omega) _ (q_wl_eq (fun a i ha => q_shM_n (by omega) (by omega)) t1) ?_ (q_z5_eq (fun a q1 q2 => q_shM_n (by omega) (by omega)) t3) ?_ ?_ ?_
        · rw [show F_ys V (cW M 11) 0 = cW M 11 from rfl, ← t2]
          exact cW_same (fun a i ha => q_shM_n (by omega) (by omega))
        · rw [q_shM_n (by omega) (by omega)]
          omega
        · rw [q_shM_n (by omega) (by omega)]
          exact t5
        · intro b i h1 h2 h3 h4
          have e := t6 b i h1 h2 h3 h4
          unfold q_shM F_flm
          by_cases k1 : b = 6 + (86 + 2 * S) + 1 ∧ i < 40
          · rw [if_pos k1, if_pos k1, if_neg (by omega)]
          · rw [if_neg k1, if_neg k1, e]
      · rw [show A_film M s p n = -7 by (unfold A_film; rw [if_neg (fun z => z c1), if_neg (fun z => z c2), if_pos c3]), show q_filmM V M s p n = M from if_neg (fun z => c3 z.2.2)] at hq
        rcases (show n < 0 ∨ 20 < n by omega) with e | e
        · simp (disch := omega) only [b_X5_film_0, x_loadI_1, y_if_ne_t, y_if_ne_f, b_X5_film_7, x_iconst, x_ret0, b_X5_film_10, x_loadR_0, x_loadS_0, x_loadI_2, b_X5_film_18, b_X5_film_21, x_loadI_3, y_if_lt_t, y_if_lt_f, b_X5_film_25, y_ic_le_t, y_ic_le_f, b_X5_film_31, b_X5_film_34, f_5_4, f_5_3, f_5_7, y_aald9, x_storeI_4, x_loadI_4, y_ic_ge_t, y_ic_ge_f, b_X5_film_65, x_popI, x_popR, f_4_6, y_iald_26, x_iinc_4, x_goto, b_X5_film_99, q_isL_I, q_isL_R, q_isL_S, true_and, and_true, and_self, List.length_nil, List.length_cons, Nat.zero_add, x_K, x_Kn, Int.reduceToNat, Nat.reduceAdd, Nat.reduceMul, Nat.reduceLeDiff, Nat.reduceLT, Nat.zero_le, Int.reduceAdd, Int.reduceSub, Int.reduceMul, Int.reduceNeg, q_add_e, q_sub_e, q_mul_e, q_neg_e, q_upd_s, q_upd_n, zr_shr0, zr_shr1, zr_shr2, zr_shr3, zr_shr4, zr_and, zr_dyn8, zr_or, zr_shl, q_cpy_n, y_cpy26, c_X5_isSheet, sp_isSheet, c1, c_X5_isStone, sp_isStone, c2, and_self, if_true]
          exact hq M q_tq_rf
        · simp (disch := omega) only [b_X5_film_0, x_loadI_1, y_if_ne_t, y_if_ne_f, b_X5_film_7, x_iconst, x_ret0, b_X5_film_10, x_loadR_0, x_loadS_0, x_loadI_2, b_X5_film_18, b_X5_film_21, x_loadI_3, y_if_lt_t, y_if_lt_f, b_X5_film_25, y_ic_le_t, y_ic_le_f, b_X5_film_31, b_X5_film_34, f_5_4, f_5_3, f_5_7, y_aald9, x_storeI_4, x_loadI_4, y_ic_ge_t, y_ic_ge_f, b_X5_film_65, x_popI, x_popR, f_4_6, y_iald_26, x_iinc_4, x_goto, b_X5_film_99, q_isL_I, q_isL_R, q_isL_S, true_and, and_true, and_self, List.length_nil, List.length_cons, Nat.zero_add, x_K, x_Kn, Int.reduceToNat, Nat.reduceAdd, Nat.reduceMul, Nat.reduceLeDiff, Nat.reduceLT, Nat.zero_le, Int.reduceAdd, Int.reduceSub, Int.reduceMul, Int.reduceNeg, q_add_e, q_sub_e, q_mul_e, q_neg_e, q_upd_s, q_upd_n, zr_shr0, zr_shr1, zr_shr2, zr_shr3, zr_shr4, zr_and, zr_dyn8, zr_or, zr_shl, q_cpy_n, y_cpy26, c_X5_isSheet, sp_isSheet, c1, c_X5_isStone, sp_isStone, c2, and_self, if_true]
          exact hq M q_tq_rf
    · rw [show A_film M s p n = -5 by (unfold A_film; rw [if_neg (fun z => z c1), if_pos c2]), show q_filmM V M s p n = M from if_neg (fun z => c2 z.2.1)] at hq
      simp (disch := omega) only [b_X5_film_0, x_loadI_1, y_if_ne_t, y_if_ne_f, b_X5_film_7, x_iconst, x_ret0, b_X5_film_10, x_loadR_0, x_loadS_0, x_loadI_2, b_X5_film_18, b_X5_film_21, x_loadI_3, y_if_lt_t, y_if_lt_f, b_X5_film_25, y_ic_le_t, y_ic_le_f, b_X5_film_31, b_X5_film_34, f_5_4, f_5_3, f_5_7, y_aald9, x_storeI_4, x_loadI_4, y_ic_ge_t, y_ic_ge_f, b_X5_film_65, x_popI, x_popR, f_4_6, y_iald_26, x_iinc_4, x_goto, b_X5_film_99, q_isL_I, q_isL_R, q_isL_S, true_and, and_true, and_self, List.length_nil, List.length_cons, Nat.zero_add, x_K, x_Kn, Int.reduceToNat, Nat.reduceAdd, Nat.reduceMul, Nat.reduceLeDiff, Nat.reduceLT, Nat.zero_le, Int.reduceAdd, Int.reduceSub, Int.reduceMul, Int.reduceNeg, q_add_e, q_sub_e, q_mul_e, q_neg_e, q_upd_s, q_upd_n, zr_shr0, zr_shr1, zr_shr2, zr_shr3, zr_shr4, zr_and, zr_dyn8, zr_or, zr_shl, q_cpy_n, y_cpy26, c_X5_isSheet, sp_isSheet, c1, c_X5_isStone, sp_isStone, c2, and_self, if_true, if_false]
      exact hq M q_tq_rf
  · rw [show A_film M s p n = -2 by (unfold A_film; rw [if_pos c1]), show q_filmM V M s p n = M from if_neg (fun z => c1 z.1)] at hq
    simp (disch := omega) only [b_X5_film_0, x_loadI_1, y_if_ne_t, y_if_ne_f, b_X5_film_7, x_iconst, x_ret0, b_X5_film_10, x_loadR_0, x_loadS_0, x_loadI_2, b_X5_film_18, b_X5_film_21, x_loadI_3, y_if_lt_t, y_if_lt_f, b_X5_film_25, y_ic_le_t, y_ic_le_f, b_X5_film_31, b_X5_film_34, f_5_4, f_5_3, f_5_7, y_aald9, x_storeI_4, x_loadI_4, y_ic_ge_t, y_ic_ge_f, b_X5_film_65, x_popI, x_popR, f_4_6, y_iald_26, x_iinc_4, x_goto, b_X5_film_99, q_isL_I, q_isL_R, q_isL_S, true_and, and_true, and_self, List.length_nil, List.length_cons, Nat.zero_add, x_K, x_Kn, Int.reduceToNat, Nat.reduceAdd, Nat.reduceMul, Nat.reduceLeDiff, Nat.reduceLT, Nat.zero_le, Int.reduceAdd, Int.reduceSub, Int.reduceMul, Int.reduceNeg, q_add_e, q_sub_e, q_mul_e, q_neg_e, q_upd_s, q_upd_n, zr_shr0, zr_shr1, zr_shr2, zr_shr3, zr_shr4, zr_and, zr_dyn8, zr_or, zr_shl, q_cpy_n, y_cpy26, c_X5_isSheet, sp_isSheet, c1, if_false]
    exact hq M q_tq_rf
theorem sp_image {V : Nat → (Nat → Int) → Int} {d : Nat} {g : q_G} {M : q_M} {ta : Nat} {Q : Option q_V → q_G → q_M → Prop} (hw : q_wl V M 11 ta) (hq : ∀ M2 : q_M, q_cpd 65 11 M M2 → Q (some (qI (M 12 5))) g (q_upd M2 0 6 1)) : q_S 1 (d + 2) 91 [qR 5 0] g M Q := by
  have copy : ∀ (nx : Nat) (ops : List Instr) (ls st : List q_V), (∀ M2 : q_M, q_cpd 65 11 M M2 → q_T 1 (d + 2) qP_X5_image nx ops ls st g M2 Q) → q_S 1 (d + 1) 49 [qR 4 65, qR 4 11] g M (q_K 1 (d + 2) qP_X5_image nx ops ls st Q) := fun nx ops ls st h => sp_copyFrom (by omega) hw.2.2.2.1 hw.2.2.2.2.1 h
  rw [s_X5_image]
  simp (disch := omega) only [b_X5_image_0, x_loadR_0, x_loadS_0, f_5_5, f_5_3, x_iconst, p_5_6, f_4_0, f_0_5, x_ret0, q_isL_I, q_isL_R, q_isL_S, true_and, and_true, and_self, List.length_nil, List.length_cons, Nat.zero_add, x_K, x_Kn, Int.reduceToNat, Nat.reduceAdd, Nat.reduceMul, Nat.reduceLeDiff, Nat.reduceLT, Nat.zero_le, Int.reduceAdd, Int.reduceSub, Int.reduceMul, Int.reduceNeg, q_add_e, q_sub_e, q_mul_e, q_neg_e, q_upd_s, q_upd_n, zr_shr0, zr_shr1, zr_shr2, zr_shr3, zr_shr4, zr_and, zr_dyn8, zr_or, zr_shl, q_cpy_n, y_cpy26, c_X4_copyFrom]
  refine copy _ _ _ _ (fun M2 h2 => ?_)
  have e5 : M2 66 5 = M 12 5 := h2.2.1
  simp (disch := omega) only [b_X5_image_0, x_loadR_0, x_loadS_0, f_5_5, f_5_3, x_iconst, p_5_6, f_4_0, f_0_5, x_ret0, q_isL_I, q_isL_R, q_isL_S, true_and, and_true, and_self, List.length_nil, List.length_cons, Nat.zero_add, x_K, x_Kn, Int.reduceToNat, Nat.reduceAdd, Nat.reduceMul, Nat.reduceLeDiff, Nat.reduceLT, Nat.zero_le, Int.reduceAdd, Int.reduceSub, Int.reduceMul, Int.reduceNeg, q_add_e, q_sub_e, q_mul_e, q_neg_e, q_upd_s, q_upd_n, zr_shr0, zr_shr1, zr_shr2, zr_shr3, zr_shr4, zr_and, zr_dyn8, zr_or, zr_shl, q_cpy_n, y_cpy26, or_true, e5]
  exact hq M2 h2
theorem sp_backF {d : Nat} {g : q_G} {M : q_M} {Q : Option q_V → q_G → q_M → Prop} (h : M 0 6 = 0) (hq : Q (some (qI (-3))) g M) : q_S 1 d 92 [qR 5 0] g M Q := by
  rw [s_X5_back]
  simp (disch := omega) only [b_X5_back_0, x_loadR_0, x_loadS_0, f_5_6, y_if_ne_t, y_if_ne_f, b_X5_back_7, x_iconst, x_ret0, b_X5_back_10, f_5_3, f_5_5, f_4_0, f_0_5, q_isL_I, q_isL_R, q_isL_S, true_and, and_true, and_self, List.length_nil, List.length_cons, Nat.zero_add, x_K, x_Kn, Int.reduceToNat, Nat.reduceAdd, Nat.reduceMul, Nat.reduceLeDiff, Nat.reduceLT, Nat.zero_le, Int.reduceAdd, Int.reduceSub, Int.reduceMul, Int.reduceNeg, q_add_e, q_sub_e, q_mul_e, q_neg_e, q_upd_s, q_upd_n, zr_shr0, zr_shr1, zr_shr2, zr_shr3, zr_shr4, zr_and, zr_dyn8, zr_or, zr_shl, q_cpy_n, y_cpy26]
  exact hq
theorem sp_back {V : Nat → (Nat → Int) → Int} {d : Nat} {g : q_G} {M : q_M} {ta : Nat} {Q : Option q_V → q_G → q_M → Prop} (h : M 0 6 ≠ 0) (hla : M 65 10 = ta) (hta : ta < 2147483648) (hq : ∀ M2 : q_M, q_cpd 11 65 M M2 → Q (some (qI (M 66 5))) g M2) : q_S 1 (d + 2) 92 [qR 5 0] g M Q := by
  have copy : ∀ (nx : Nat) (ops : List Instr) (ls st : List q_V), (∀ M2 : q_M, q_cpd 11 65 M M2 → q_T 1 (d + 2) qP_X5_back nx ops ls st g M2 Q) → q_S 1 (d + 1) 49 [qR 4 11, qR 4 65] g M (q_K 1 (d + 2) qP_X5_back nx ops ls st Q) := fun nx ops ls st h => sp_copyFrom (by omega) hla hta h
  rw [s_X5_back]
  simp (disch := omega) only [b_X5_back_0, x_loadR_0, x_loadS_0, f_5_6, y_if_ne_t, y_if_ne_f, b_X5_back_7, x_iconst, x_ret0, b_X5_back_10, f_5_3, f_5_5, f_4_0, f_0_5, q_isL_I, q_isL_R, q_isL_S, true_and, and_true, and_self, List.length_nil, List.length_cons, Nat.zero_add, x_K, x_Kn, Int.reduceToNat, Nat.reduceAdd, Nat.reduceMul, Nat.reduceLeDiff, Nat.reduceLT, Nat.zero_le, Int.reduceAdd, Int.reduceSub, Int.reduceMul, Int.reduceNeg, q_add_e, q_sub_e, q_mul_e, q_neg_e, q_upd_s, q_upd_n, zr_shr0, zr_shr1, zr_shr2, zr_shr3, zr_shr4, zr_and, zr_dyn8, zr_or, zr_shl, q_cpy_n, y_cpy26, c_X4_copyFrom]
  refine copy _ _ _ _ (fun M2 h2 => ?_)
  have e5 : M2 12 5 = M 66 5 := h2.2.1
  simp (disch := omega) only [b_X5_back_0, x_loadR_0, x_loadS_0, f_5_6, y_if_ne_t, y_if_ne_f, b_X5_back_7, x_iconst, x_ret0, b_X5_back_10, f_5_3, f_5_5, f_4_0, f_0_5, q_isL_I, q_isL_R, q_isL_S, true_and, and_true, and_self, List.length_nil, List.length_cons, Nat.zero_add, x_K, x_Kn, Int.reduceToNat, Nat.reduceAdd, Nat.reduceMul, Nat.reduceLeDiff, Nat.reduceLT, Nat.zero_le, Int.reduceAdd, Int.reduceSub, Int.reduceMul, Int.reduceNeg, q_add_e, q_sub_e, q_mul_e, q_neg_e, q_upd_s, q_upd_n, zr_shr0, zr_shr1, zr_shr2, zr_shr3, zr_shr4, zr_and, zr_dyn8, zr_or, zr_shl, q_cpy_n, y_cpy26, e5]
  exact hq M2 h2
theorem sp_forceF {d tm : Nat} {g : q_G} {M : q_M} {t : Int} {Q : Option q_V → q_G → q_M → Prop} (htm : M 0 2 = tm) (h : ¬(0 ≤ t ∧ t < tm)) (hq : Q (some (qI (-2))) g M) : q_S 1 d 68 [qR 5 0, qI t] g M Q := by
  rw [s_X5_force]
  rcases (show t < 0 ∨ (0 ≤ t ∧ (tm : Int) ≤ t) by omega) with e | e
  · simp (disch := omega) only [b_X5_force_0, x_loadI_1, y_if_lt_t, y_if_lt_f, b_X5_force_4, x_loadR_0, x_loadS_0, f_5_2, y_ic_lt_t, y_ic_lt_f, b_X5_force_12, x_iconst, x_ret0, b_X5_force_15, f_5_3, f_4_10, f_3_0, x_storeI_2, f_5_1, y_aald8, p_4_10, x_loadI_2, q_isL_I, q_isL_R, q_isL_S, true_and, and_true, and_self, List.length_nil, List.length_cons, Nat.zero_add, x_K, x_Kn, Int.reduceToNat, Nat.reduceAdd, Nat.reduceMul, Nat.reduceLeDiff, Nat.reduceLT, Nat.zero_le, Int.reduceAdd, Int.reduceSub, Int.reduceMul, Int.reduceNeg, q_add_e, q_sub_e, q_mul_e, q_neg_e, q_upd_s, q_upd_n, zr_shr0, zr_shr1, zr_shr2, zr_shr3, zr_shr4, zr_and, zr_dyn8, zr_or, zr_shl, q_cpy_n, y_cpy26]
    exact hq
  · simp (disch := omega) only [b_X5_force_0, x_loadI_1, y_if_lt_t, y_if_lt_f, b_X5_force_4, x_loadR_0, x_loadS_0, f_5_2, y_ic_lt_t, y_ic_lt_f, b_X5_force_12, x_iconst, x_ret0, b_X5_force_15, f_5_3, f_4_10, f_3_0, x_storeI_2, f_5_1, y_aald8, p_4_10, x_loadI_2, q_isL_I, q_isL_R, q_isL_S, true_and, and_true, and_self, List.length_nil, List.length_cons, Nat.zero_add, x_K, x_Kn, Int.reduceToNat, Nat.reduceAdd, Nat.reduceMul, Nat.reduceLeDiff, Nat.reduceLT, Nat.zero_le, Int.reduceAdd, Int.reduceSub, Int.reduceMul, Int.reduceNeg, q_add_e, q_sub_e, q_mul_e, q_neg_e, q_upd_s, q_upd_n, zr_shr0, zr_shr1, zr_shr2, zr_shr3, zr_shr4, zr_and, zr_dyn8, zr_or, zr_shl, q_cpy_n, y_cpy26]
    exact hq
theorem sp_force {Vt : Nat → Nat → (Nat → Int) → Int} {d tm t l : Nat} {g : q_G} {M : q_M} {Q : Option q_V → q_G → q_M → Prop} (T : q_txs Vt tm M) (ht : t < tm) (hl : l < tm) (hla : M 11 10 = q_ta l) (hq : Q (some (qI l)) g (q_upd M 11 10 (q_ta t : Nat))) : q_S 1 d 68 [qR 5 0, qI t] g M Q := by
  obtain ⟨h1, h2, h3, h4⟩ := T
  obtain ⟨a1, a2, a3, a4⟩ := h4 t ht
  obtain ⟨b1, b2, b3, b4⟩ := h4 l hl
  have hta := q_ta_tas (t := t) (by omega)
  unfold q_tas at hta
  have hlt : q_ta t < 2147483648 := by omega
  have hy := q_dynT (k := 3) hla
  have hy2 := q_dynT (k := 3) a1
  rw [s_X5_force]
  simp (disch := omega) only [b_X5_force_0, x_loadI_1, y_if_lt_t, y_if_lt_f, b_X5_force_4, x_loadR_0, x_loadS_0, f_5_2, y_ic_lt_t, y_ic_lt_f, b_X5_force_12, x_iconst, x_ret0, b_X5_force_15, f_5_3, f_4_10, f_3_0, x_storeI_2, f_5_1, y_aald8, p_4_10, x_loadI_2, q_isL_I, q_isL_R, q_isL_S, true_and, and_true, and_self, List.length_nil, List.length_cons, Nat.zero_add, x_K, x_Kn, Int.reduceToNat, Nat.reduceAdd, Nat.reduceMul, Nat.reduceLeDiff, Nat.reduceLT, Nat.zero_le, Int.reduceAdd, Int.reduceSub, Int.reduceMul, Int.reduceNeg, q_add_e, q_sub_e, q_mul_e, q_neg_e, q_upd_s, q_upd_n, zr_shr0, zr_shr1, zr_shr2, zr_shr3, zr_shr4, zr_and, zr_dyn8, zr_or, zr_shl, q_cpy_n, y_cpy26, hy, hy2, b2, Int.toNat_natCast, hlt]
  exact hq
