/-! THE CLASS'S WORLD: all told -/
def q_tld (V : Nat → (Nat → Int) → Int) (w : Nat) (S M2 : q_M) (p b : Nat) : Prop := M2 (w + 1 + 3 + (1 + p)) b = F_likes V S p b ∧ M2 (w + 1 + 10 + (1 + p)) b = F_wants V S p b
set_option maxHeartbeats 4000000 in
theorem sp_tellAll {V : Nat → (Nat → Int) → Int} {d : Nat} {g : q_G} {M : q_M} {w ta : Nat} {Q : Option q_V → q_G → q_M → Prop} (hw : q_wl V M w ta) (hq : ∀ M2 : q_M, q_tel w ta M M2 → (∀ p b, p < (M (w + 1) 5).toNat → b < 5 → q_tld V w (cW M w) M2 p b) → Q none g M2) : q_S 1 (d + 3) 57 [qR 4 w] g M Q := by
  have hn := hw.1.1
  have hds := hw.2.2.2.2.2
  rw [s_X4_tellAll]
  have loop : ∀ j p : Nat, p + j = (M (w + 1) 5).toNat → ∀ (l : q_V) (M1 : q_M), q_tel w ta M M1 → (∀ p' b', p' < p → b' < 5 → q_tld V w (cW M w) M1 p' b') → q_isL l = false → q_T 1 (d + 3) qP_X4_tellAll 2 [] [qR 4 w, qI p, l] [] g M1 Q := by
    intro j
    induction j with
    | zero =>
      intro p hpj l M1 hf hl hll
      have e5 : M1 (w + 1) 5 = M (w + 1) 5 := hf (w + 1) 5 (by omega) (by omega) (by omega)
      have hpn : p = (M (w + 1) 5).toNat := by omega
      rw [b_X4_tellAll_2]
      simp (disch := omega) only [b_X4_tellAll_0, x_iconst, x_storeI_1, x_loadI_1, x_loadR_0, x_loadS_0, f_4_0, f_0_5, y_ic_ge_t, y_ic_ge_f, b_X4_tellAll_13, x_storeI_2, x_loadI_2, b_X4_tellAll_20, f_0_2, y_aald7, y_iast_26, f_0_3, x_iinc_2, x_goto, b_X4_tellAll_60, x_iinc_1, b_X4_tellAll_66, x_vret, q_isL_I, q_isL_R, q_isL_S, true_and, and_true, and_self, List.length_nil, List.length_cons, Nat.zero_add, x_K, x_Kn, Int.reduceToNat, Nat.reduceAdd, Nat.reduceMul, Nat.reduceLeDiff, Nat.reduceLT, Nat.zero_le, Int.reduceAdd, Int.reduceSub, Int.reduceMul, Int.reduceNeg, q_add_e, q_sub_e, q_mul_e, q_neg_e, q_upd_s, q_upd_n, zr_shr0, zr_shr1, zr_shr2, zr_shr3, zr_shr4, zr_and, zr_dyn8, zr_or, zr_shl, q_cpy_n, y_cpy26, e5]
      exact hq M1 hf (fun p' b' h1 h2 => hl p' b' (by omega) h2)
    | succ j ih =>
      intro p hpj l M1 hf hl hll
      have e5 : M1 (w + 1) 5 = M (w + 1) 5 := hf (w + 1) 5 (by omega) (by omega) (by omega)
      have inner : ∀ k b : Nat, b + k = 5 → ∀ M1 : q_M, q_tel w ta M M1 → (∀ p' b', p' < p → b' < 5 → q_tld V w (cW M w) M1 p' b') → (∀ b', b' < b → q_tld V w (cW M w) M1 p b') → q_T 1 (d + 3) qP_X4_tellAll 15 [] [qR 4 w, qI p, qI b] [] g M1 Q := by
        intro k
        induction k with
        | zero =>
          intro b hb M1 hf hl hl2
          have e : b = 5 := by omega
          subst e
          rw [b_X4_tellAll_15]
          simp (disch := omega) only [b_X4_tellAll_0, x_iconst, x_storeI_1, x_loadI_1, x_loadR_0, x_loadS_0, f_4_0, f_0_5, y_ic_ge_t, y_ic_ge_f, b_X4_tellAll_13, x_storeI_2, x_loadI_2, b_X4_tellAll_20, f_0_2, y_aald7, y_iast_26, f_0_3, x_iinc_2, x_goto, b_X4_tellAll_60, x_iinc_1, b_X4_tellAll_66, x_vret, q_isL_I, q_isL_R, q_isL_S, true_and, and_true, and_self, List.length_nil, List.length_cons, Nat.zero_add, x_K, x_Kn, Int.reduceToNat, Nat.reduceAdd, Nat.reduceMul, Nat.reduceLeDiff, Nat.reduceLT, Nat.zero_le, Int.reduceAdd, Int.reduceSub, Int.reduceMul, Int.reduceNeg, q_add_e, q_sub_e, q_mul_e, q_neg_e, q_upd_s, q_upd_n, zr_shr0, zr_shr1, zr_shr2, zr_shr3, zr_shr4, zr_and, zr_dyn8, zr_or, zr_shl, q_cpy_n, y_cpy26]
          refine ih (p + 1) (by omega) _ M1 hf ?_ rfl
          intro p' b' h1 h2
          by_cases e : p' = p
          · subst e
            exact hl2 b' h2
          · exact hl p' b' (by omega) h2
        | succ k ih2 =>
          intro b hb M1 hf hl hl2
          have hw1 := q_tel_wl hf hw
          have hc1 := q_tel_cW hf hds
          have hp1 : p < (M1 (w + 1) 5).toNat := by rw [hf (w + 1) 5 (by omega) (by omega) (by omega)]; omega
          have likes : ∀ (nx : Nat) (ops : List Instr) (ls st : List q_V), (∀ M2 : q_M, q_fwd w ta M1 M2 → q_T 1 (d + 3) qP_X4_tellAll nx ops ls (qI (F_likes V (cW M w) p b) :: st) g M2 Q) → q_S 1 (d + 2) 54 [qR 4 w, qI p, qI b] g M1 (q_K 1 (d + 3) qP_X4_tellAll nx ops ls st Q) := fun nx ops ls st h => sp_likes hw1 hp1 (by omega) (by rw [hc1]; exact h)
          rw [b_X4_tellAll_15]
          simp (disch := omega) only [b_X4_tellAll_0, x_iconst, x_storeI_1, x_loadI_1, x_loadR_0, x_loadS_0, f_4_0, f_0_5, y_ic_ge_t, y_ic_ge_f, b_X4_tellAll_13, x_storeI_2, x_loadI_2, b_X4_tellAll_20, f_0_2, y_aald7, y_iast_26, f_0_3, x_iinc_2, x_goto, b_X4_tellAll_60, x_iinc_1, b_X4_tellAll_66, x_vret, q_isL_I, q_isL_R, q_isL_S, true_and, and_true, and_self, List.length_nil, List.length_cons, Nat.zero_add, x_K, x_Kn, Int.reduceToNat, Nat.reduceAdd, Nat.reduceMul, Nat.reduceLeDiff, Nat.reduceLT, Nat.zero_le, Int.reduceAdd, Int.reduceSub, Int.reduceMul, Int.reduceNeg, q_add_e, q_sub_e, q_mul_e, q_neg_e, q_upd_s, q_upd_n, zr_shr0, zr_shr1, zr_shr2, zr_shr3, zr_shr4, zr_and, zr_dyn8, zr_or, zr_shl, q_cpy_n, y_cpy26, c_X4_likes, Int.toNat_natCast]
          refine likes _ _ _ _ (fun M2 h2 => ?_)
          have hf2 : q_tel w ta M (q_upd M2 (w + 1 + 3 + (1 + p)) b (F_likes V (cW M w) p b)) := q_tel_up (q_tel_tr hf (q_tel_of h2)) (by omega) (by omega)
          have hw2 := q_tel_wl hf2 hw
          have hc2 := q_tel_cW hf2 hds
          have hp2 : p < ((q_upd M2 (w + 1 + 3 + (1 + p)) b (F_likes V (cW M w) p b)) (w + 1) 5).toNat := by rw [hf2 (w + 1) 5 (by omega) (by omega) (by omega)]; omega
          have wants : ∀ (nx : Nat) (ops : List Instr) (ls st : List q_V), (∀ M3 : q_M, q_fwd w ta (q_upd M2 (w + 1 + 3 + (1 + p)) b (F_likes V (cW M w) p b)) M3 → q_T 1 (d + 3) qP_X4_tellAll nx ops ls (qI (F_wants V (cW M w) p b) :: st) g M3 Q) → q_S 1 (d + 2) 55 [qR 4 w, qI p, qI b] g (q_upd M2 (w + 1 + 3 + (1 + p)) b (F_likes V (cW M w) p b)) (q_K 1 (d + 3) qP_X4_tellAll nx ops ls st Q) := fun nx ops ls st h => sp_wants hw2 hp2 (by omega) (by rw [hc2]; exact h)
          simp (disch := omega) only [b_X4_tellAll_0, x_iconst, x_storeI_1, x_loadI_1, x_loadR_0, x_loadS_0, f_4_0, f_0_5, y_ic_ge_t, y_ic_ge_f, b_X4_tellAll_13, x_storeI_2, x_loadI_2, b_X4_tellAll_20, f_0_2, y_aald7, y_iast_26, f_0_3, x_iinc_2, x_goto, b_X4_tellAll_60, x_iinc_1, b_X4_tellAll_66, x_vret, q_isL_I, q_isL_R, q_isL_S, true_and, and_true, and_self, List.length_nil, List.length_cons, Nat.zero_add, x_K, x_Kn, Int.reduceToNat, Nat.reduceAdd, Nat.reduceMul, Nat.reduceLeDiff, Nat.reduceLT, Nat.zero_le, Int.reduceAdd, Int.reduceSub, Int.reduceMul, Int.reduceNeg, q_add_e, q_sub_e, q_mul_e, q_neg_e, q_upd_s, q_upd_n, zr_shr0, zr_shr1, zr_shr2, zr_shr3, zr_shr4, zr_and, zr_dyn8, zr_or, zr_shl, q_cpy_n, y_cpy26, c_X4_wants, Int.toNat_natCast]
          refine wants _ _ _ _ (fun M3 h3 => ?_)
          simp (disch := omega) only [b_X4_tellAll_0, x_iconst, x_storeI_1, x_loadI_1, x_loadR_0, x_loadS_0, f_4_0, f_0_5, y_ic_ge_t, y_ic_ge_f, b_X4_tellAll_13, x_storeI_2, x_loadI_2, b_X4_tellAll_20, f_0_2, y_aald7, y_iast_26, f_0_3, x_iinc_2, x_goto, b_X4_tellAll_60, x_iinc_1, b_X4_tellAll_66, x_vret, q_isL_I, q_isL_R, q_isL_S, true_and, and_true, and_self, List.length_nil, List.length_cons, Nat.zero_add, x_K, x_Kn, Int.reduceToNat, Nat.reduceAdd, Nat.reduceMul, Nat.reduceLeDiff, Nat.reduceLT, Nat.zero_le, Int.reduceAdd, Int.reduceSub, Int.reduceMul, Int.reduceNeg, q_add_e, q_sub_e, q_mul_e, q_neg_e, q_upd_s, q_upd_n, zr_shr0, zr_shr1, zr_shr2, zr_shr3, zr_shr4, zr_and, zr_dyn8, zr_or, zr_shl, q_cpy_n, y_cpy26, Int.toNat_natCast]
          have hold : ∀ p' b', (p' ≠ p ∨ b' ≠ b) → p' < 5 → q_tld V w (cW M w) M1 p' b' → q_tld V w (cW M w) (q_upd M3 (w + 1 + 10 + (1 + p)) b (F_wants V (cW M w) p b)) p' b' := by
            intro p' b' hne hp5 h
            refine ⟨?_, ?_⟩
            · rw [q_upd_n (by omega), h3 _ _ (by omega) (by omega), q_upd_n (by omega), h2 _ _ (by omega) (by omega)]
              exact h.1
            · rw [q_upd_n (by omega), h3 _ _ (by omega) (by omega), q_upd_n (by omega), h2 _ _ (by omega) (by omega)]
              exact h.2
          refine ih2 (b + 1) (by omega) _ (q_tel_up (q_tel_tr hf2 (q_tel_of h3)) (by omega) (by omega)) ?_ ?_
          · intro p' b' h1 h4
            exact hold p' b' (Or.inl (by omega)) (by omega) (hl p' b' h1 h4)
          · intro b' hb'
            by_cases ej : b' = b
            · subst ej
              refine ⟨?_, q_upd_s⟩
              rw [q_upd_n (by omega), h3 _ _ (by omega) (by omega), q_upd_s]
            · exact hold p b' (Or.inr ej) (by omega) (hl2 b' (by omega))
      rw [b_X4_tellAll_2]
      have hl3 : l = l := rfl
      simp (disch := omega) only [b_X4_tellAll_0, x_iconst, x_storeI_1, x_loadI_1, x_loadR_0, x_loadS_0, f_4_0, f_0_5, y_ic_ge_t, y_ic_ge_f, b_X4_tellAll_13, x_storeI_2, x_loadI_2, b_X4_tellAll_20, f_0_2, y_aald7, y_iast_26, f_0_3, x_iinc_2, x_goto, b_X4_tellAll_60, x_iinc_1, b_X4_tellAll_66, x_vret, q_isL_I, q_isL_R, q_isL_S, true_and, and_true, and_self, List.length_nil, List.length_cons, Nat.zero_add, x_K, x_Kn, Int.reduceToNat, Nat.reduceAdd, Nat.reduceMul, Nat.reduceLeDiff, Nat.reduceLT, Nat.zero_le, Int.reduceAdd, Int.reduceSub, Int.reduceMul, Int.reduceNeg, q_add_e, q_sub_e, q_mul_e, q_neg_e, q_upd_s, q_upd_n, zr_shr0, zr_shr1, zr_shr2, zr_shr3, zr_shr4, zr_and, zr_dyn8, zr_or, zr_shl, q_cpy_n, y_cpy26, e5, hll]
      exact inner 5 0 (by omega) M1 hf hl (fun b' h => absurd h (by omega))
  simp (disch := omega) only [b_X4_tellAll_0, x_iconst, x_storeI_1, x_loadI_1, x_loadR_0, x_loadS_0, f_4_0, f_0_5, y_ic_ge_t, y_ic_ge_f, b_X4_tellAll_13, x_storeI_2, x_loadI_2, b_X4_tellAll_20, f_0_2, y_aald7, y_iast_26, f_0_3, x_iinc_2, x_goto, b_X4_tellAll_60, x_iinc_1, b_X4_tellAll_66, x_vret, q_isL_I, q_isL_R, q_isL_S, true_and, and_true, and_self, List.length_nil, List.length_cons, Nat.zero_add, x_K, x_Kn, Int.reduceToNat, Nat.reduceAdd, Nat.reduceMul, Nat.reduceLeDiff, Nat.reduceLT, Nat.zero_le, Int.reduceAdd, Int.reduceSub, Int.reduceMul, Int.reduceNeg, q_add_e, q_sub_e, q_mul_e, q_neg_e, q_upd_s, q_upd_n, zr_shr0, zr_shr1, zr_shr2, zr_shr3, zr_shr4, zr_and, zr_dyn8, zr_or, zr_shl, q_cpy_n, y_cpy26]
  exact loop (M (w + 1) 5).toNat 0 (by omega) (qS 0) M q_tel_rf (fun p' b' h => absurd h (by omega)) rfl
