/-! THE CLASS'S WORLD: one goes, and is taken or not -/
theorem F_go_n {S : q_M} {a : Nat} {p : Nat} {v : Int} (h : a ≠ 9) : F_n (q_upd S a p v) = F_n S := by
  unfold F_n
  rw [q_upd_n (by omega)]
set_option maxHeartbeats 4000000 in
theorem sp_goTo {V : Nat → (Nat → Int) → Int} {d : Nat} {g : q_G} {M : q_M} {w ta p b : Nat} {Q : Option q_V → q_G → q_M → Prop} (hw : q_wl V M w ta) (hp : p < (M (w + 1) 5).toNat) (hb : b < 5) (hq : ∀ M2 : q_M, q_wl V M2 w ta → cW M2 w = (F_goto V (cW M w) p b).2 → q_yr w ta M M2 → Q (some (qI (if (F_goto V (cW M w) p b).1 = true then 1 else 0))) g M2) : q_S 1 (d + 3) 60 [qR 4 w, qI p, qI b] g M Q := by
  obtain ⟨⟨r0, r1, r2, r3, r4, r5, r6, r7, r8, r9, ra, rb, rc⟩, hV, hl, hla, hta, hds⟩ := id hw
  have hg := F_goes_le (V := V) (S := cW M w) (p := p) (by rw [cW_1 hp]; exact r3 p)
  have hmv : F_mv V (cW M w) p b = if M (w + 19) b - M (w + 24) p < -F_goes V (cW M w) p then M (w + 24) p - F_goes V (cW M w) p else if F_goes V (cW M w) p < M (w + 19) b - M (w + 24) p then M (w + 24) p + F_goes V (cW M w) p else M (w + 19) b := by
    unfold F_mv
    rw [cW_5 hb, cW_2 hp]
  have hat := r4 p
  have hpl := r7 b
  have goes : ∀ (nx : Nat) (ops : List Instr) (ls st : List q_V), (∀ M2 : q_M, q_fwd w ta M M2 → q_T 1 (d + 3) qP_X4_goTo nx ops ls (qI (F_goes V (cW M w) p) :: st) g M2 Q) → q_S 1 (d + 2) 56 [qR 4 w, qI p] g M (q_K 1 (d + 3) qP_X4_goTo nx ops ls st Q) := fun nx ops ls st h => sp_goes hw hp h
  generalize hG : F_goes V (cW M w) p = G at hg hmv goes
  have tell : ∀ M2 : q_M, q_fwd w ta M M2 → ∀ v : Int, F_mv V (cW M w) p b = v → 0 ≤ v ∧ v ≤ 99 → q_wl V (q_upd M2 (w + 24) p v) w ta ∧ cW (q_upd M2 (w + 24) p v) w = F_S1 V (cW M w) p b ∧ q_yr w ta M (q_upd M2 (w + 24) p v) := by
    intro M2 hf v hv hv2
    have hw2 := q_fwd_wl hf hw
    refine ⟨q_wl_up hw2 (by omega), ?_, q_yr_up (q_yr_of (q_tel_of hf)) (by omega) (by omega)⟩
    rw [cW_up2 (by rw [hf (w + 1) 5 (by omega) (by omega)]; exact hp), q_fwd_cW hf hds, F_S1, hv]
  have short : F_mv V (cW M w) p b ≠ M (w + 19) b → F_goto V (cW M w) p b = (false, F_S1 V (cW M w) p b) := by
    intro h
    unfold F_goto
    rw [if_neg (by rw [cW_5 hb]; exact h)]
  rw [s_X4_goTo]
  simp (disch := omega) only [b_X4_goTo_0, x_loadR_0, x_loadS_0, x_loadI_1, x_storeI_3, f_4_1, x_loadI_2, y_iald_26, f_4_6, x_isub, x_storeI_4, x_dup2, x_loadI_3, x_ineg, x_loadI_4, x_iadd, y_iast_26, y_ic_eq_t, y_ic_eq_f, b_X4_goTo_56, x_iconst, x_ret1_0, x_ret1_1, x_storeI_5, b_X4_goTo_61, x_loadI_5, f_4_0, f_0_5, y_ic_ge_t, y_ic_ge_f, b_X4_goTo_73, b_X4_goTo_79, f_0_1, y_ic_ne_t, y_ic_ne_f, b_X4_goTo_93, f_0_3, y_aald7, b_X4_goTo_112, x_iinc_5, x_goto, b_X4_goTo_118, y_if_ne_t, y_if_ne_f, b_X4_goTo_130, b_X4_goTo_132, b_X4_goTo_149, b_X4_goTo_162, f_4_3, q_isL_I, q_isL_R, q_isL_S, true_and, and_true, and_self, List.length_nil, List.length_cons, Nat.zero_add, x_K, x_Kn, Int.reduceToNat, Nat.reduceAdd, Nat.reduceMul, Nat.reduceLeDiff, Nat.reduceLT, Nat.zero_le, Int.reduceAdd, Int.reduceSub, Int.reduceMul, Int.reduceNeg, q_add_e, q_sub_e, q_mul_e, q_neg_e, q_upd_s, q_upd_n, zr_shr0, zr_shr1, zr_shr2, zr_shr3, zr_shr4, zr_and, zr_dyn8, zr_or, zr_shl, q_cpy_n, y_cpy26, c_X4_goes, Int.toNat_natCast]
  refine goes _ _ _ _ (fun M2 hf => ?_)
  have f24 := hf (w + 24) p (by omega) (by omega)
  have f19 := hf (w + 19) b (by omega) (by omega)
  by_cases c1 : M (w + 19) b - M (w + 24) p < -G
  · rw [if_pos c1] at hmv
    have t := tell M2 hf _ hmv (by omega)
    have e := short (by omega)
    simp (disch := omega) only [b_X4_goTo_0, x_loadR_0, x_loadS_0, x_loadI_1, x_storeI_3, f_4_1, x_loadI_2, y_iald_26, f_4_6, x_isub, x_storeI_4, x_dup2, x_loadI_3, x_ineg, x_loadI_4, x_iadd, y_iast_26, y_ic_eq_t, y_ic_eq_f, b_X4_goTo_56, x_iconst, x_ret1_0, x_ret1_1, x_storeI_5, b_X4_goTo_61, x_loadI_5, f_4_0, f_0_5, y_ic_ge_t, y_ic_ge_f, b_X4_goTo_73, b_X4_goTo_79, f_0_1, y_ic_ne_t, y_ic_ne_f, b_X4_goTo_93, f_0_3, y_aald7, b_X4_goTo_112, x_iinc_5, x_goto, b_X4_goTo_118, y_if_ne_t, y_if_ne_f, b_X4_goTo_130, b_X4_goTo_132, b_X4_goTo_149, b_X4_goTo_162, f_4_3, q_isL_I, q_isL_R, q_isL_S, true_and, and_true, and_self, List.length_nil, List.length_cons, Nat.zero_add, x_K, x_Kn, Int.reduceToNat, Nat.reduceAdd, Nat.reduceMul, Nat.reduceLeDiff, Nat.reduceLT, Nat.zero_le, Int.reduceAdd, Int.reduceSub, Int.reduceMul, Int.reduceNeg, q_add_e, q_sub_e, q_mul_e, q_neg_e, q_upd_s, q_upd_n, zr_shr0, zr_shr1, zr_shr2, zr_shr3, zr_shr4, zr_and, zr_dyn8, zr_or, zr_shl, q_cpy_n, y_cpy26, Int.toNat_natCast, c_J9_min_7cf53, c_J9_max_7cf53, sp_min, sp_max, f24, f19, if_pos, if_neg]
    rw [show M (w + 24) p + -G = M (w + 24) p - G by omega]
    rw [e] at hq
    exact hq _ t.1 t.2.1 t.2.2
  · rw [if_neg c1] at hmv
    by_cases c2 : G < M (w + 19) b - M (w + 24) p
    · rw [if_pos c2] at hmv
      have t := tell M2 hf _ hmv (by omega)
      have e := short (by omega)
      simp (disch := omega) only [b_X4_goTo_0, x_loadR_0, x_loadS_0, x_loadI_1, x_storeI_3, f_4_1, x_loadI_2, y_iald_26, f_4_6, x_isub, x_storeI_4, x_dup2, x_loadI_3, x_ineg, x_loadI_4, x_iadd, y_iast_26, y_ic_eq_t, y_ic_eq_f, b_X4_goTo_56, x_iconst, x_ret1_0, x_ret1_1, x_storeI_5, b_X4_goTo_61, x_loadI_5, f_4_0, f_0_5, y_ic_ge_t, y_ic_ge_f, b_X4_goTo_73, b_X4_goTo_79, f_0_1, y_ic_ne_t, y_ic_ne_f, b_X4_goTo_93, f_0_3, y_aald7, b_X4_goTo_112, x_iinc_5, x_goto, b_X4_goTo_118, y_if_ne_t, y_if_ne_f, b_X4_goTo_130, b_X4_goTo_132, b_X4_goTo_149, b_X4_goTo_162, f_4_3, q_isL_I, q_isL_R, q_isL_S, true_and, and_true, and_self, List.length_nil, List.length_cons, Nat.zero_add, x_K, x_Kn, Int.reduceToNat, Nat.reduceAdd, Nat.reduceMul, Nat.reduceLeDiff, Nat.reduceLT, Nat.zero_le, Int.reduceAdd, Int.reduceSub, Int.reduceMul, Int.reduceNeg, q_add_e, q_sub_e, q_mul_e, q_neg_e, q_upd_s, q_upd_n, zr_shr0, zr_shr1, zr_shr2, zr_shr3, zr_shr4, zr_and, zr_dyn8, zr_or, zr_shl, q_cpy_n, y_cpy26, Int.toNat_natCast, c_J9_min_7cf53, c_J9_max_7cf53, sp_min, sp_max, f24, f19, if_pos, if_neg]
      rw [show (if -G < G then G else -G) = G by split <;> omega]
      rw [e] at hq
      exact hq _ t.1 t.2.1 t.2.2
    · rw [if_neg c2] at hmv
      have t := tell M2 hf _ hmv (by omega)
      simp (disch := omega) only [b_X4_goTo_0, x_loadR_0, x_loadS_0, x_loadI_1, x_storeI_3, f_4_1, x_loadI_2, y_iald_26, f_4_6, x_isub, x_storeI_4, x_dup2, x_loadI_3, x_ineg, x_loadI_4, x_iadd, y_iast_26, y_ic_eq_t, y_ic_eq_f, b_X4_goTo_56, x_iconst, x_ret1_0, x_ret1_1, x_storeI_5, b_X4_goTo_61, x_loadI_5, f_4_0, f_0_5, y_ic_ge_t, y_ic_ge_f, b_X4_goTo_73, b_X4_goTo_79, f_0_1, y_ic_ne_t, y_ic_ne_f, b_X4_goTo_93, f_0_3, y_aald7, b_X4_goTo_112, x_iinc_5, x_goto, b_X4_goTo_118, y_if_ne_t, y_if_ne_f, b_X4_goTo_130, b_X4_goTo_132, b_X4_goTo_149, b_X4_goTo_162, f_4_3, q_isL_I, q_isL_R, q_isL_S, true_and, and_true, and_self, List.length_nil, List.length_cons, Nat.zero_add, x_K, x_Kn, Int.reduceToNat, Nat.reduceAdd, Nat.reduceMul, Nat.reduceLeDiff, Nat.reduceLT, Nat.zero_le, Int.reduceAdd, Int.reduceSub, Int.reduceMul, Int.reduceNeg, q_add_e, q_sub_e, q_mul_e, q_neg_e, q_upd_s, q_upd_n, zr_shr0, zr_shr1, zr_shr2, zr_shr3, zr_shr4, zr_and, zr_dyn8, zr_or, zr_shl, q_cpy_n, y_cpy26, Int.toNat_natCast, c_J9_min_7cf53, c_J9_max_7cf53, sp_min, sp_max, f24, f19, if_pos, if_neg]
      rw [show (if M (w + 19) b - M (w + 24) p < G then M (w + 19) b - M (w + 24) p else G) = M (w + 19) b - M (w + 24) p by split <;> omega, show (if -G < M (w + 19) b - M (w + 24) p then M (w + 19) b - M (w + 24) p else -G) = M (w + 19) b - M (w + 24) p by split <;> omega, show M (w + 24) p + (M (w + 19) b - M (w + 24) p) = M (w + 19) b by omega]
      obtain ⟨t1, t2, t3⟩ := t
      have hn5 : (q_upd M2 (w + 24) p (M (w + 19) b)) (w + 1) 5 = M (w + 1) 5 := t3 (w + 1) 5 (by omega) (by omega) (by omega)
      have t19 : (q_upd M2 (w + 24) p (M (w + 19) b)) (w + 19) b = M (w + 19) b := by rw [q_upd_n (by omega)]; exact f19
      have eg : F_goto V (cW M w) p b = if F_tak V (F_S1 V (cW M w) p b) p b = true then (true, F_S2 V (F_S1 V (cW M w) p b) p b) else (false, F_S1 V (cW M w) p b) := by
        unfold F_goto
        rw [if_pos (by rw [cW_5 hb]; exact hmv)]
      rw [eg, ← t2] at hq
      clear eg t2 short tell goes
      generalize q_upd M2 (w + 24) p (M (w + 19) b) = M3 at t1 t3 hq hn5 t19 ⊢
      obtain ⟨⟨z0, z1, z2, z3, z4, z5, z6, z7, z8, z9, za, zb, zc⟩, _, _, _, _, _⟩ := id t1
      refine sp_goToL t1 hb (fun M4 h4 hL => ?_)
      have e5 : M4 (w + 1) 5 = M3 (w + 1) 5 := h4 (w + 1) 5 (by omega) (by omega) (by omega)
      have hFn : F_n (cW M3 w) = (M3 (w + 1) 5).toNat := rfl
      have eI : ∀ k, k < (M3 (w + 1) 5).toNat → M4 (w + 1 + 2) k = cW M3 w 4 k := fun k hk => by rw [cW_4 hk]; exact h4 (w + 3) k (by omega) (by omega) (by omega)
      have eR : M4 (w + 1 + 1) b = cW M3 w 6 b := by rw [cW_6 hb]; exact h4 (w + 2) b (by omega) (by omega) (by omega)
      have eW : ∀ k, k < (M3 (w + 1) 5).toNat → (k = p ∨ M4 (w + 1 + 2) k = b) → M4 (w + 1 + 10 + (1 + k)) b = F_wants V (cW M3 w) k b := fun k hk hz => hL k hk (by rw [eI k hk, cW_4 hk] at hz; exact hz)
      have hT : F_takes1 (M4 (w + 1 + 2)) (fun q => M4 (w + 1 + 10 + (1 + q)) b) (M4 (w + 1 + 1) b) b (M4 (w + 1) 5).toNat p = F_tak V (cW M3 w) p b := by
        rw [eR, e5, F_tak, hFn]
        exact F_takes1_cong (by omega) eI eW
      have hC : F_cast (M4 (w + 1 + 2)) (fun q => M4 (w + 1 + 10 + (1 + q)) b) (M4 (w + 1 + 1) b) b (M4 (w + 1) 5).toNat = F_out V (cW M3 w) b := by
        rw [eR, e5, F_out, hFn]
        exact F_cast_cong eI (fun k hk hz => eW k hk (Or.inr hz))
      have g4 := q_tel_wl h4 t1
      have g5 := q_tel_cW h4 hds
      have hyr : q_yr w ta M M4 := q_yr_tr t3 (q_yr_of h4)
      by_cases ct : F_tak V (cW M3 w) p b = true
      · rw [if_pos ct] at hq
        have hout := F_last_in (f := cW M3 w 4) (w := fun q => F_wants V (cW M3 w) q b) (b := b) (F_n (cW M3 w))
        have hout2 : F_out V (cW M3 w) b = 5 ∨ F_out V (cW M3 w) b < (M3 (w + 1) 5).toNat := by
          unfold F_out F_cast
          split
          · exact Or.inl rfl
          · rcases hout with h | h
            · exact Or.inl h
            · exact Or.inr h.1
        unfold F_S2 at hq
        generalize F_out V (cW M3 w) b = O at hC hout2 hq
        have s21 : M4 (w + 21) b = M3 (w + 21) b := h4 (w + 21) b (by omega) (by omega) (by omega)
        have s19 : M4 (w + 19) b = M3 (w + 19) b := h4 (w + 19) b (by omega) (by omega) (by omega)
        have z21 := za b
        rw [cW_8 hb, cW_5 hb] at hq
        have hbm : 0 ≤ (if M3 (w + 21) b + 1 < 99 then M3 (w + 21) b + 1 else 99) ∧ (if M3 (w + 21) b + 1 < 99 then M3 (w + 21) b + 1 else 99) ≤ 99 := by split <;> omega
        by_cases c5 : O = 5
        · subst c5
          rw [if_pos rfl] at hq
          simp (disch := omega) only [b_X4_goTo_0, x_loadR_0, x_loadS_0, x_loadI_1, x_storeI_3, f_4_1, x_loadI_2, y_iald_26, f_4_6, x_isub, x_storeI_4, x_dup2, x_loadI_3, x_ineg, x_loadI_4, x_iadd, y_iast_26, y_ic_eq_t, y_ic_eq_f, b_X4_goTo_56, x_iconst, x_ret1_0, x_ret1_1, x_storeI_5, b_X4_goTo_61, x_loadI_5, f_4_0, f_0_5, y_ic_ge_t, y_ic_ge_f, b_X4_goTo_73, b_X4_goTo_79, f_0_1, y_ic_ne_t, y_ic_ne_f, b_X4_goTo_93, f_0_3, y_aald7, b_X4_goTo_112, x_iinc_5, x_goto, b_X4_goTo_118, y_if_ne_t, y_if_ne_f, b_X4_goTo_130, b_X4_goTo_132, b_X4_goTo_149, b_X4_goTo_162, f_4_3, q_isL_I, q_isL_R, q_isL_S, true_and, and_true, and_self, List.length_nil, List.length_cons, Nat.zero_add, x_K, x_Kn, Int.reduceToNat, Nat.reduceAdd, Nat.reduceMul, Nat.reduceLeDiff, Nat.reduceLT, Nat.zero_le, Int.reduceAdd, Int.reduceSub, Int.reduceMul, Int.reduceNeg, q_add_e, q_sub_e, q_mul_e, q_neg_e, q_upd_s, q_upd_n, zr_shr0, zr_shr1, zr_shr2, zr_shr3, zr_shr4, zr_and, zr_dyn8, zr_or, zr_shl, q_cpy_n, y_cpy26, Int.toNat_natCast, c_X0_takes, c_X0_comeIn, sp_takes, sp_comeIn, hT, hC, ct, if_true, s21, s19, c_J9_min_7cf53, sp_min]
          rw [show w + 1 + 2 = w + 3 by omega]
          generalize (if M3 (w + 21) b + 1 < 99 then M3 (w + 21) b + 1 else 99) = B at hbm hq ⊢
          refine hq _ (q_wl_up (q_wl_up g4 (by omega)) (by omega)) ?_ (q_yr_up (q_yr_up hyr (by omega) (by omega)) (by omega) (by omega))
          rw [cW_up8 hb, cW_up4 (by omega), g5]
        · rw [if_neg c5] at hq
          simp (disch := omega) only [b_X4_goTo_0, x_loadR_0, x_loadS_0, x_loadI_1, x_storeI_3, f_4_1, x_loadI_2, y_iald_26, f_4_6, x_isub, x_storeI_4, x_dup2, x_loadI_3, x_ineg, x_loadI_4, x_iadd, y_iast_26, y_ic_eq_t, y_ic_eq_f, b_X4_goTo_56, x_iconst, x_ret1_0, x_ret1_1, x_storeI_5, b_X4_goTo_61, x_loadI_5, f_4_0, f_0_5, y_ic_ge_t, y_ic_ge_f, b_X4_goTo_73, b_X4_goTo_79, f_0_1, y_ic_ne_t, y_ic_ne_f, b_X4_goTo_93, f_0_3, y_aald7, b_X4_goTo_112, x_iinc_5, x_goto, b_X4_goTo_118, y_if_ne_t, y_if_ne_f, b_X4_goTo_130, b_X4_goTo_132, b_X4_goTo_149, b_X4_goTo_162, f_4_3, q_isL_I, q_isL_R, q_isL_S, true_and, and_true, and_self, List.length_nil, List.length_cons, Nat.zero_add, x_K, x_Kn, Int.reduceToNat, Nat.reduceAdd, Nat.reduceMul, Nat.reduceLeDiff, Nat.reduceLT, Nat.zero_le, Int.reduceAdd, Int.reduceSub, Int.reduceMul, Int.reduceNeg, q_add_e, q_sub_e, q_mul_e, q_neg_e, q_upd_s, q_upd_n, zr_shr0, zr_shr1, zr_shr2, zr_shr3, zr_shr4, zr_and, zr_dyn8, zr_or, zr_shl, q_cpy_n, y_cpy26, Int.toNat_natCast, c_X0_takes, c_X0_comeIn, sp_takes, sp_comeIn, hT, hC, ct, if_true, s21, s19, c_J9_min_7cf53, sp_min, c5, if_false]
          rw [show w + 1 + 2 = w + 3 by omega]
          generalize (if M3 (w + 21) b + 1 < 99 then M3 (w + 21) b + 1 else 99) = B at hbm hq ⊢
          refine hq _ (q_wl_up (q_wl_up (q_wl_up (q_wl_up g4 (by omega)) (by omega)) (by omega)) (by omega)) ?_ (q_yr_up (q_yr_up (q_yr_up (q_yr_up hyr (by omega) (by omega)) (by omega) (by omega)) (by omega) (by omega)) (by omega) (by omega))
          rw [cW_up8 hb, cW_up2 (by simp (disch := omega) only [q_upd_n]; omega), cW_up4 (by simp (disch := omega) only [q_upd_n]; omega), cW_up4 (by omega), g5]
      · rw [if_neg ct] at hq
        simp (disch := omega) only [b_X4_goTo_0, x_loadR_0, x_loadS_0, x_loadI_1, x_storeI_3, f_4_1, x_loadI_2, y_iald_26, f_4_6, x_isub, x_storeI_4, x_dup2, x_loadI_3, x_ineg, x_loadI_4, x_iadd, y_iast_26, y_ic_eq_t, y_ic_eq_f, b_X4_goTo_56, x_iconst, x_ret1_0, x_ret1_1, x_storeI_5, b_X4_goTo_61, x_loadI_5, f_4_0, f_0_5, y_ic_ge_t, y_ic_ge_f, b_X4_goTo_73, b_X4_goTo_79, f_0_1, y_ic_ne_t, y_ic_ne_f, b_X4_goTo_93, f_0_3, y_aald7, b_X4_goTo_112, x_iinc_5, x_goto, b_X4_goTo_118, y_if_ne_t, y_if_ne_f, b_X4_goTo_130, b_X4_goTo_132, b_X4_goTo_149, b_X4_goTo_162, f_4_3, q_isL_I, q_isL_R, q_isL_S, true_and, and_true, and_self, List.length_nil, List.length_cons, Nat.zero_add, x_K, x_Kn, Int.reduceToNat, Nat.reduceAdd, Nat.reduceMul, Nat.reduceLeDiff, Nat.reduceLT, Nat.zero_le, Int.reduceAdd, Int.reduceSub, Int.reduceMul, Int.reduceNeg, q_add_e, q_sub_e, q_mul_e, q_neg_e, q_upd_s, q_upd_n, zr_shr0, zr_shr1, zr_shr2, zr_shr3, zr_shr4, zr_and, zr_dyn8, zr_or, zr_shl, q_cpy_n, y_cpy26, Int.toNat_natCast, c_X0_takes, sp_takes, hT, ct, Bool.false_eq_true, if_false]
        exact hq M4 g4 g5 hyr
