/-! THE CLASS'S WORLD: one goes -/
theorem q_upd_b {M : q_M} {a i x : Nat} {v lo hi : Int} (h : ∀ j, lo ≤ M x j ∧ M x j ≤ hi) (hv : x = a → lo ≤ v ∧ v ≤ hi) : ∀ j, lo ≤ q_upd M a i v x j ∧ q_upd M a i v x j ≤ hi := by
  intro j
  by_cases e : x = a ∧ j = i
  · obtain ⟨rfl, rfl⟩ := e
    rw [q_upd_s]
    exact hv rfl
  · rw [q_upd_n (by omega)]
    exact h j
theorem q_wl_up {V : Nat → (Nat → Int) → Int} {w ta a i : Nat} {v : Int} {M : q_M} (hw : q_wl V M w ta) (h : (a = w + 24 ∧ 0 ≤ v ∧ v ≤ 99) ∨ (a = w + 3 ∧ 0 ≤ v ∧ v ≤ 5) ∨ (a = w + 21 ∧ i < 5 ∧ 0 ≤ v ∧ v ≤ 99) ∨ (a = w ∧ i = 9 ∧ 0 ≤ v ∧ v ≤ 2000)) : q_wl V (q_upd M a i v) w ta := by
  obtain ⟨⟨r0, r1, r2, r3, r4, r5, r6, r7, r8, r9, ra, rb, rc⟩, h2, h3, h4, h5, h6⟩ := hw
  refine ⟨⟨?_, ?_, q_upd_b r2 (by omega), q_upd_b r3 (by omega), q_upd_b r4 (by omega), q_upd_b r5 (by omega), q_upd_b r6 (by omega), q_upd_b r7 (by omega), q_upd_b r8 (by omega), q_upd_b r9 (by omega), q_upd_b ra (by omega), ?_, ?_⟩, h2, fun M' hM => h3 M' (fun x j hx => (hM x j hx).trans (q_upd_n (by omega))), (q_upd_n (by omega)).trans h4, h5, h6⟩
  · rw [q_upd_n (by omega)]
    exact r0
  · by_cases e : w = a ∧ 9 = i
    · obtain ⟨rfl, rfl⟩ := e
      rw [q_upd_s]
      omega
    · rw [q_upd_n (by omega)]
      exact r1
  · rw [q_upd_n (by omega)]
    exact rb
  · rw [q_upd_n (by omega)]
    exact rc
set_option maxHeartbeats 4000000 in
theorem sp_goToL {V : Nat → (Nat → Int) → Int} {d : Nat} {g : q_G} {M : q_M} {w ta p b : Nat} {st wy : Int} {Q : Option q_V → q_G → q_M → Prop} (hw : q_wl V M w ta) (hb : b < 5) (hq : ∀ M2 : q_M, q_tel w ta M M2 → (∀ k, k < (M (w + 1) 5).toNat → (k = p ∨ M (w + 3) k = b) → M2 (w + 1 + 10 + (1 + k)) b = F_wants V (cW M w) k b) → q_T 1 (d + 3) qP_X4_goTo 118 [] [qR 4 w, qI p, qI b, qI st, qI wy, qI (M (w + 1) 5)] [] g M2 Q) : q_T 1 (d + 3) qP_X4_goTo 58 [] [qR 4 w, qI p, qI b, qI st, qI wy, qS 0] [] g M Q := by
  have hn := hw.1.1
  have hds := hw.2.2.2.2.2
  have loop : ∀ j k : Nat, k + j = (M (w + 1) 5).toNat → ∀ (M1 : q_M), q_tel w ta M M1 → (∀ k', k' < k → (k' = p ∨ M (w + 3) k' = b) → M1 (w + 1 + 10 + (1 + k')) b = F_wants V (cW M w) k' b) → q_T 1 (d + 3) qP_X4_goTo 61 [] [qR 4 w, qI p, qI b, qI st, qI wy, qI k] [] g M1 Q := by
    intro j
    induction j with
    | zero =>
      intro k hk M1 hf hl
      have e5 : M1 (w + 1) 5 = M (w + 1) 5 := hf (w + 1) 5 (by omega) (by omega) (by omega)
      have hkn : (k : Int) = M (w + 1) 5 := by omega
      rw [b_X4_goTo_61]
      simp (disch := omega) only [b_X4_goTo_0, x_loadR_0, x_loadS_0, x_loadI_1, x_storeI_3, f_4_1, x_loadI_2, y_iald_26, f_4_6, x_isub, x_storeI_4, x_dup2, x_loadI_3, x_ineg, x_loadI_4, x_iadd, y_iast_26, y_ic_eq_t, y_ic_eq_f, b_X4_goTo_56, x_iconst, x_ret1_0, x_ret1_1, b_X4_goTo_58, x_storeI_5, x_loadI_5, f_4_0, f_0_5, y_ic_ge_t, y_ic_ge_f, b_X4_goTo_73, b_X4_goTo_79, f_0_1, y_ic_ne_t, y_ic_ne_f, b_X4_goTo_93, f_0_3, y_aald7, b_X4_goTo_112, x_iinc_5, x_goto, y_if_ne_t, y_if_ne_f, b_X4_goTo_130, b_X4_goTo_132, b_X4_goTo_149, b_X4_goTo_162, f_4_3, q_isL_I, q_isL_R, q_isL_S, true_and, and_true, and_self, List.length_nil, List.length_cons, Nat.zero_add, x_K, x_Kn, Int.reduceToNat, Nat.reduceAdd, Nat.reduceMul, Nat.reduceLeDiff, Nat.reduceLT, Nat.zero_le, Int.reduceAdd, Int.reduceSub, Int.reduceMul, Int.reduceNeg, q_add_e, q_sub_e, q_mul_e, q_neg_e, q_upd_s, q_upd_n, zr_shr0, zr_shr1, zr_shr2, zr_shr3, zr_shr4, zr_and, zr_dyn8, zr_or, zr_shl, q_cpy_n, y_cpy26, e5]
      rw [hkn]
      exact hq M1 hf (fun k' h1 h2 => hl k' (by omega) h2)
    | succ j ih =>
      intro k hk M1 hf hl
      have e5 : M1 (w + 1) 5 = M (w + 1) 5 := hf (w + 1) 5 (by omega) (by omega) (by omega)
      have e3 : M1 (w + 3) k = M (w + 3) k := hf (w + 3) k (by omega) (by omega) (by omega)
      have hw1 := q_tel_wl hf hw
      have hc1 := q_tel_cW hf hds
      have hp1 : k < (M1 (w + 1) 5).toNat := by omega
      have wants : ∀ (nx : Nat) (ops : List Instr) (ls st : List q_V), (∀ M2 : q_M, q_fwd w ta M1 M2 → q_T 1 (d + 3) qP_X4_goTo nx ops ls (qI (F_wants V (cW M w) k b) :: st) g M2 Q) → q_S 1 (d + 2) 55 [qR 4 w, qI k, qI b] g M1 (q_K 1 (d + 3) qP_X4_goTo nx ops ls st Q) := fun nx ops ls st h => sp_wants hw1 hp1 (by omega) (by rw [hc1]; exact h)
      have go : ∀ M2 : q_M, q_fwd w ta M1 M2 → q_T 1 (d + 3) qP_X4_goTo 61 [] [qR 4 w, qI p, qI b, qI st, qI wy, qI (k + 1 : Nat)] [] g (q_upd M2 (w + 1 + 10 + (1 + k)) b (F_wants V (cW M w) k b)) Q := by
        intro M2 h2
        refine ih (k + 1) (by omega) _ (q_tel_up (q_tel_tr hf (q_tel_of h2)) (by omega) (by omega)) ?_
        intro k' h3 h4
        by_cases ek : k' = k
        · subst ek
          exact q_upd_s
        · rw [q_upd_n (by omega), h2 _ _ (by omega) (by omega)]
          exact hl k' (by omega) h4
      rw [b_X4_goTo_61]
      by_cases c1 : k = p
      · have c2 : (k : Int) = p := by omega
        simp (disch := omega) only [b_X4_goTo_0, x_loadR_0, x_loadS_0, x_loadI_1, x_storeI_3, f_4_1, x_loadI_2, y_iald_26, f_4_6, x_isub, x_storeI_4, x_dup2, x_loadI_3, x_ineg, x_loadI_4, x_iadd, y_iast_26, y_ic_eq_t, y_ic_eq_f, b_X4_goTo_56, x_iconst, x_ret1_0, x_ret1_1, b_X4_goTo_58, x_storeI_5, x_loadI_5, f_4_0, f_0_5, y_ic_ge_t, y_ic_ge_f, b_X4_goTo_73, b_X4_goTo_79, f_0_1, y_ic_ne_t, y_ic_ne_f, b_X4_goTo_93, f_0_3, y_aald7, b_X4_goTo_112, x_iinc_5, x_goto, y_if_ne_t, y_if_ne_f, b_X4_goTo_130, b_X4_goTo_132, b_X4_goTo_149, b_X4_goTo_162, f_4_3, q_isL_I, q_isL_R, q_isL_S, true_and, and_true, and_self, List.length_nil, List.length_cons, Nat.zero_add, x_K, x_Kn, Int.reduceToNat, Nat.reduceAdd, Nat.reduceMul, Nat.reduceLeDiff, Nat.reduceLT, Nat.zero_le, Int.reduceAdd, Int.reduceSub, Int.reduceMul, Int.reduceNeg, q_add_e, q_sub_e, q_mul_e, q_neg_e, q_upd_s, q_upd_n, zr_shr0, zr_shr1, zr_shr2, zr_shr3, zr_shr4, zr_and, zr_dyn8, zr_or, zr_shl, q_cpy_n, y_cpy26, e5, c_X4_wants, Int.toNat_natCast]
        refine wants _ _ _ _ (fun M2 h2 => ?_)
        simp (disch := omega) only [b_X4_goTo_0, x_loadR_0, x_loadS_0, x_loadI_1, x_storeI_3, f_4_1, x_loadI_2, y_iald_26, f_4_6, x_isub, x_storeI_4, x_dup2, x_loadI_3, x_ineg, x_loadI_4, x_iadd, y_iast_26, y_ic_eq_t, y_ic_eq_f, b_X4_goTo_56, x_iconst, x_ret1_0, x_ret1_1, b_X4_goTo_58, x_storeI_5, x_loadI_5, f_4_0, f_0_5, y_ic_ge_t, y_ic_ge_f, b_X4_goTo_73, b_X4_goTo_79, f_0_1, y_ic_ne_t, y_ic_ne_f, b_X4_goTo_93, f_0_3, y_aald7, b_X4_goTo_112, x_iinc_5, x_goto, y_if_ne_t, y_if_ne_f, b_X4_goTo_130, b_X4_goTo_132, b_X4_goTo_149, b_X4_goTo_162, f_4_3, q_isL_I, q_isL_R, q_isL_S, true_and, and_true, and_self, List.length_nil, List.length_cons, Nat.zero_add, x_K, x_Kn, Int.reduceToNat, Nat.reduceAdd, Nat.reduceMul, Nat.reduceLeDiff, Nat.reduceLT, Nat.zero_le, Int.reduceAdd, Int.reduceSub, Int.reduceMul, Int.reduceNeg, q_add_e, q_sub_e, q_mul_e, q_neg_e, q_upd_s, q_upd_n, zr_shr0, zr_shr1, zr_shr2, zr_shr3, zr_shr4, zr_and, zr_dyn8, zr_or, zr_shl, q_cpy_n, y_cpy26, c_X4_wants, Int.toNat_natCast]
        exact go M2 h2
      · by_cases c3 : M (w + 3) k = b
        · simp (disch := omega) only [b_X4_goTo_0, x_loadR_0, x_loadS_0, x_loadI_1, x_storeI_3, f_4_1, x_loadI_2, y_iald_26, f_4_6, x_isub, x_storeI_4, x_dup2, x_loadI_3, x_ineg, x_loadI_4, x_iadd, y_iast_26, y_ic_eq_t, y_ic_eq_f, b_X4_goTo_56, x_iconst, x_ret1_0, x_ret1_1, b_X4_goTo_58, x_storeI_5, x_loadI_5, f_4_0, f_0_5, y_ic_ge_t, y_ic_ge_f, b_X4_goTo_73, b_X4_goTo_79, f_0_1, y_ic_ne_t, y_ic_ne_f, b_X4_goTo_93, f_0_3, y_aald7, b_X4_goTo_112, x_iinc_5, x_goto, y_if_ne_t, y_if_ne_f, b_X4_goTo_130, b_X4_goTo_132, b_X4_goTo_149, b_X4_goTo_162, f_4_3, q_isL_I, q_isL_R, q_isL_S, true_and, and_true, and_self, List.length_nil, List.length_cons, Nat.zero_add, x_K, x_Kn, Int.reduceToNat, Nat.reduceAdd, Nat.reduceMul, Nat.reduceLeDiff, Nat.reduceLT, Nat.zero_le, Int.reduceAdd, Int.reduceSub, Int.reduceMul, Int.reduceNeg, q_add_e, q_sub_e, q_mul_e, q_neg_e, q_upd_s, q_upd_n, zr_shr0, zr_shr1, zr_shr2, zr_shr3, zr_shr4, zr_and, zr_dyn8, zr_or, zr_shl, q_cpy_n, y_cpy26, e5, e3, c_X4_wants, Int.toNat_natCast]
          refine wants _ _ _ _ (fun M2 h2 => ?_)
          simp (disch := omega) only [b_X4_goTo_0, x_loadR_0, x_loadS_0, x_loadI_1, x_storeI_3, f_4_1, x_loadI_2, y_iald_26, f_4_6, x_isub, x_storeI_4, x_dup2, x_loadI_3, x_ineg, x_loadI_4, x_iadd, y_iast_26, y_ic_eq_t, y_ic_eq_f, b_X4_goTo_56, x_iconst, x_ret1_0, x_ret1_1, b_X4_goTo_58, x_storeI_5, x_loadI_5, f_4_0, f_0_5, y_ic_ge_t, y_ic_ge_f, b_X4_goTo_73, b_X4_goTo_79, f_0_1, y_ic_ne_t, y_ic_ne_f, b_X4_goTo_93, f_0_3, y_aald7, b_X4_goTo_112, x_iinc_5, x_goto, y_if_ne_t, y_if_ne_f, b_X4_goTo_130, b_X4_goTo_132, b_X4_goTo_149, b_X4_goTo_162, f_4_3, q_isL_I, q_isL_R, q_isL_S, true_and, and_true, and_self, List.length_nil, List.length_cons, Nat.zero_add, x_K, x_Kn, Int.reduceToNat, Nat.reduceAdd, Nat.reduceMul, Nat.reduceLeDiff, Nat.reduceLT, Nat.zero_le, Int.reduceAdd, Int.reduceSub, Int.reduceMul, Int.reduceNeg, q_add_e, q_sub_e, q_mul_e, q_neg_e, q_upd_s, q_upd_n, zr_shr0, zr_shr1, zr_shr2, zr_shr3, zr_shr4, zr_and, zr_dyn8, zr_or, zr_shl, q_cpy_n, y_cpy26, c_X4_wants, Int.toNat_natCast]
          exact go M2 h2
        · simp (disch := omega) only [b_X4_goTo_0, x_loadR_0, x_loadS_0, x_loadI_1, x_storeI_3, f_4_1, x_loadI_2, y_iald_26, f_4_6, x_isub, x_storeI_4, x_dup2, x_loadI_3, x_ineg, x_loadI_4, x_iadd, y_iast_26, y_ic_eq_t, y_ic_eq_f, b_X4_goTo_56, x_iconst, x_ret1_0, x_ret1_1, b_X4_goTo_58, x_storeI_5, x_loadI_5, f_4_0, f_0_5, y_ic_ge_t, y_ic_ge_f, b_X4_goTo_73, b_X4_goTo_79, f_0_1, y_ic_ne_t, y_ic_ne_f, b_X4_goTo_93, f_0_3, y_aald7, b_X4_goTo_112, x_iinc_5, x_goto, y_if_ne_t, y_if_ne_f, b_X4_goTo_130, b_X4_goTo_132, b_X4_goTo_149, b_X4_goTo_162, f_4_3, q_isL_I, q_isL_R, q_isL_S, true_and, and_true, and_self, List.length_nil, List.length_cons, Nat.zero_add, x_K, x_Kn, Int.reduceToNat, Nat.reduceAdd, Nat.reduceMul, Nat.reduceLeDiff, Nat.reduceLT, Nat.zero_le, Int.reduceAdd, Int.reduceSub, Int.reduceMul, Int.reduceNeg, q_add_e, q_sub_e, q_mul_e, q_neg_e, q_upd_s, q_upd_n, zr_shr0, zr_shr1, zr_shr2, zr_shr3, zr_shr4, zr_and, zr_dyn8, zr_or, zr_shl, q_cpy_n, y_cpy26, e5, e3, c_X4_wants, Int.toNat_natCast]
          refine ih (k + 1) (by omega) _ hf ?_
          intro k' h3 h4
          by_cases ek : k' = k
          · subst ek
            exact absurd h4 (by rintro (z | z); exact c1 z; exact c3 z)
          · exact hl k' (by omega) h4
  simp (disch := omega) only [b_X4_goTo_0, x_loadR_0, x_loadS_0, x_loadI_1, x_storeI_3, f_4_1, x_loadI_2, y_iald_26, f_4_6, x_isub, x_storeI_4, x_dup2, x_loadI_3, x_ineg, x_loadI_4, x_iadd, y_iast_26, y_ic_eq_t, y_ic_eq_f, b_X4_goTo_56, x_iconst, x_ret1_0, x_ret1_1, b_X4_goTo_58, x_storeI_5, x_loadI_5, f_4_0, f_0_5, y_ic_ge_t, y_ic_ge_f, b_X4_goTo_73, b_X4_goTo_79, f_0_1, y_ic_ne_t, y_ic_ne_f, b_X4_goTo_93, f_0_3, y_aald7, b_X4_goTo_112, x_iinc_5, x_goto, y_if_ne_t, y_if_ne_f, b_X4_goTo_130, b_X4_goTo_132, b_X4_goTo_149, b_X4_goTo_162, f_4_3, q_isL_I, q_isL_R, q_isL_S, true_and, and_true, and_self, List.length_nil, List.length_cons, Nat.zero_add, x_K, x_Kn, Int.reduceToNat, Nat.reduceAdd, Nat.reduceMul, Nat.reduceLeDiff, Nat.reduceLT, Nat.zero_le, Int.reduceAdd, Int.reduceSub, Int.reduceMul, Int.reduceNeg, q_add_e, q_sub_e, q_mul_e, q_neg_e, q_upd_s, q_upd_n, zr_shr0, zr_shr1, zr_shr2, zr_shr3, zr_shr4, zr_and, zr_dyn8, zr_or, zr_shl, q_cpy_n, y_cpy26]
  exact loop (M (w + 1) 5).toNat 0 (by omega) M q_tel_rf (fun k' h => absurd h (by omega))
