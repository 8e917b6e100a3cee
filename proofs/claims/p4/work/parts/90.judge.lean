/-! THE CLASS'S ENTRIES: judge, kinds -/
theorem q_rfA_0 {M : q_M} {s : Int} (h : q_rfA M s = 0) : (0 ≤ s ∧ s < 4) ∧ M (6 + (86 + 2 * s.toNat)) 2 ≤ 20 := by
  unfold q_rfA at h
  by_cases h1 : 0 ≤ s ∧ s < 4
  · rw [if_neg (fun z => z h1)] at h
    by_cases h2 : M (6 + (86 + 2 * s.toNat)) 1 = -1
    · rw [if_pos h2] at h
      omega
    · rw [if_neg h2] at h
      by_cases h3 : 20 < M (6 + (86 + 2 * s.toNat)) 2
      · rw [if_pos h3] at h
        omega
      · exact ⟨h1, by omega⟩
  · rw [if_pos h1] at h
    omega
/-- the first number of sheet s that is otherwise, stone p in the world S -/
def q_foA (V : Nat → (Nat → Int) → Int) (M S : q_M) (s p : Nat) : Int := F_fo V S p (M (6 + (86 + 2 * s) + 1)) (M (6 + (86 + 2 * s)) 2).toNat 0
theorem sp_fo2 {V0 V : Nat → (Nat → Int) → Int} {d dd : Nat} {g : q_G} {M M2 : q_M} {ta0 ta s p : Nat} (C : q_ci V0 M ta0) (hs : s < 4) (hsz : M (6 + (86 + 2 * s)) 2 ≤ 20) (hp : p < (M 12 5).toNat) (hta : q_tas ta) (hw : q_wl V M2 38 ta) (hz : q_z5 M2 38) (hy : M2 38 9 = M 11 9) (hn : M2 (38 + 1) 5 = M 12 5) (hf : q_tq M M2) {P : q_P} {nx : Nat} {ops : List Instr} {ls st : List q_V} {Q : Option q_V → q_G → q_M → Prop} (h : ∀ M3 : q_M, q_tq M M3 → q_T 1 dd P nx ops ls (qI (q_foA V M (cW M2 38) s p) :: st) g M3 Q) : q_S 1 (d + 5) 105 [qR 5 0, qI s, qI p] g M2 (q_K 1 dd P nx ops ls st Q) := by
  have h12 := q_ci_n C
  have h9 := q_ci_y C
  have hsz0 := C.2.2.2.2.2.2 s hs
  have ht : ta = 8 ∨ 125 ≤ ta := by unfold q_tas at hta; omega
  have e2 : M2 (6 + (86 + 2 * s)) 2 = M (6 + (86 + 2 * s)) 2 := hf _ 2 (by omega) (by omega) (by omega) (by omega)
  have e3 : M2 (6 + (86 + 2 * s) + 1) = M (6 + (86 + 2 * s) + 1) := funext (fun i => hf _ i (by omega) (by omega) (by omega) (by omega))
  refine sp_fo (n := (M (6 + (86 + 2 * s)) 2).toNat) ht hs (by omega) (by omega) (by omega) (by omega) (by rw [hn]; exact hp) hw hz.1 (by omega) (fun M3 h3 => ?_)
  rw [e3]
  exact h M3 (q_tq_tr hf (q_tq_th hta h3))
def A_judge (V : Nat → (Nat → Int) → Int) (M : q_M) (s p : Int) : Int := if q_rfA M s ≠ 0 then q_rfA M s else if ¬(0 ≤ p ∧ p < M 12 5) then -5 else q_foA V M (cW M 11) s.toNat p.toNat
set_option maxHeartbeats 4000000 in
theorem sp_judge {V : Nat → (Nat → Int) → Int} {d : Nat} {g : q_G} {M : q_M} {ta : Nat} {s p : Int} {Q : Option q_V → q_G → q_M → Prop} (C : q_ci V M ta) (hq : ∀ M2 : q_M, q_tq M M2 → Q (some (qI (A_judge V M s p))) g M2) : q_S 1 (d + 6) 83 [qR 5 0, qI s, qI p] g M Q := by
  rw [s_X5_judge]
  unfold A_judge at hq
  by_cases c1 : q_rfA M s = 0
  · rw [if_neg (fun z => z c1)] at hq
    by_cases c2 : 0 ≤ p ∧ p < M 12 5
    · rw [if_neg (fun z => z c2)] at hq
      obtain ⟨⟨s0, s4⟩, sz⟩ := q_rfA_0 c1
      obtain ⟨S, rfl⟩ : ∃ S : Nat, s = S := ⟨s.toNat, by omega⟩
      obtain ⟨N, rfl⟩ : ∃ N : Nat, p = N := ⟨p.toNat, by omega⟩
      simp only [Int.toNat_natCast] at hq sz
      simp (disch := omega) only [b_X5_judge_0, x_loadR_0, x_loadS_0, x_loadI_1, x_storeI_3, x_loadI_3, y_if_eq_t, y_if_eq_f, b_X5_judge_10, x_ret0, b_X5_judge_12, x_loadI_2, y_if_ne_t, y_if_ne_f, b_X5_judge_20, x_iconst, b_X5_judge_23, f_5_4, f_5_3, q_isL_I, q_isL_R, q_isL_S, true_and, and_true, and_self, List.length_nil, List.length_cons, Nat.zero_add, x_K, x_Kn, Int.reduceToNat, Nat.reduceAdd, Nat.reduceMul, Nat.reduceLeDiff, Nat.reduceLT, Nat.zero_le, Int.reduceAdd, Int.reduceSub, Int.reduceMul, Int.reduceNeg, q_add_e, q_sub_e, q_mul_e, q_neg_e, q_upd_s, q_upd_n, zr_shr0, zr_shr1, zr_shr2, zr_shr3, zr_shr4, zr_and, zr_dyn8, zr_or, zr_shl, q_cpy_n, y_cpy26, c_X5_refusalOfTold, sp_refusal, c_X5_isStone, sp_isStone, c2, and_self, if_true, c_X4_copyFrom]
      refine sp_think C q_tq_rf (fun M2 h2 => ?_)
      simp (disch := omega) only [b_X5_judge_0, x_loadR_0, x_loadS_0, x_loadI_1, x_storeI_3, x_loadI_3, y_if_eq_t, y_if_eq_f, b_X5_judge_10, x_ret0, b_X5_judge_12, x_loadI_2, y_if_ne_t, y_if_ne_f, b_X5_judge_20, x_iconst, b_X5_judge_23, f_5_4, f_5_3, q_isL_I, q_isL_R, q_isL_S, true_and, and_true, and_self, List.length_nil, List.length_cons, Nat.zero_add, x_K, x_Kn, Int.reduceToNat, Nat.reduceAdd, Nat.reduceMul, Nat.reduceLeDiff, Nat.reduceLT, Nat.zero_le, Int.reduceAdd, Int.reduceSub, Int.reduceMul, Int.reduceNeg, q_add_e, q_sub_e, q_mul_e, q_neg_e, q_upd_s, q_upd_n, zr_shr0, zr_shr1, zr_shr2, zr_shr3, zr_shr4, zr_and, zr_dyn8, zr_or, zr_shl, q_cpy_n, y_cpy26, c_X5_firstOtherwise]
      refine sp_fo2 C (by omega) sz (by omega) C.1 h2.1 h2.2.2.1 h2.2.2.2.1 h2.2.2.2.2.1 h2.2.2.2.2.2 (fun M3 h3 => ?_)
      simp (disch := omega) only [b_X5_judge_0, x_loadR_0, x_loadS_0, x_loadI_1, x_storeI_3, x_loadI_3, y_if_eq_t, y_if_eq_f, b_X5_judge_10, x_ret0, b_X5_judge_12, x_loadI_2, y_if_ne_t, y_if_ne_f, b_X5_judge_20, x_iconst, b_X5_judge_23, f_5_4, f_5_3, q_isL_I, q_isL_R, q_isL_S, true_and, and_true, and_self, List.length_nil, List.length_cons, Nat.zero_add, x_K, x_Kn, Int.reduceToNat, Nat.reduceAdd, Nat.reduceMul, Nat.reduceLeDiff, Nat.reduceLT, Nat.zero_le, Int.reduceAdd, Int.reduceSub, Int.reduceMul, Int.reduceNeg, q_add_e, q_sub_e, q_mul_e, q_neg_e, q_upd_s, q_upd_n, zr_shr0, zr_shr1, zr_shr2, zr_shr3, zr_shr4, zr_and, zr_dyn8, zr_or, zr_shl, q_cpy_n, y_cpy26]
      rw [h2.2.1]
      exact hq M3 h3
    · rw [if_pos c2] at hq
      simp (disch := omega) only [b_X5_judge_0, x_loadR_0, x_loadS_0, x_loadI_1, x_storeI_3, x_loadI_3, y_if_eq_t, y_if_eq_f, b_X5_judge_10, x_ret0, b_X5_judge_12, x_loadI_2, y_if_ne_t, y_if_ne_f, b_X5_judge_20, x_iconst, b_X5_judge_23, f_5_4, f_5_3, q_isL_I, q_isL_R, q_isL_S, true_and, and_true, and_self, List.length_nil, List.length_cons, Nat.zero_add, x_K, x_Kn, Int.reduceToNat, Nat.reduceAdd, Nat.reduceMul, Nat.reduceLeDiff, Nat.reduceLT, Nat.zero_le, Int.reduceAdd, Int.reduceSub, Int.reduceMul, Int.reduceNeg, q_add_e, q_sub_e, q_mul_e, q_neg_e, q_upd_s, q_upd_n, zr_shr0, zr_shr1, zr_shr2, zr_shr3, zr_shr4, zr_and, zr_dyn8, zr_or, zr_shl, q_cpy_n, y_cpy26, c_X5_refusalOfTold, sp_refusal, c_X5_isStone, sp_isStone, c2, if_false]
      exact hq M q_tq_rf
  · rw [if_pos c1] at hq
    simp (disch := omega) only [b_X5_judge_0, x_loadR_0, x_loadS_0, x_loadI_1, x_storeI_3, x_loadI_3, y_if_eq_t, y_if_eq_f, b_X5_judge_10, x_ret0, b_X5_judge_12, x_loadI_2, y_if_ne_t, y_if_ne_f, b_X5_judge_20, x_iconst, b_X5_judge_23, f_5_4, f_5_3, q_isL_I, q_isL_R, q_isL_S, true_and, and_true, and_self, List.length_nil, List.length_cons, Nat.zero_add, x_K, x_Kn, Int.reduceToNat, Nat.reduceAdd, Nat.reduceMul, Nat.reduceLeDiff, Nat.reduceLT, Nat.zero_le, Int.reduceAdd, Int.reduceSub, Int.reduceMul, Int.reduceNeg, q_add_e, q_sub_e, q_mul_e, q_neg_e, q_upd_s, q_upd_n, zr_shr0, zr_shr1, zr_shr2, zr_shr3, zr_shr4, zr_and, zr_dyn8, zr_or, zr_shl, q_cpy_n, y_cpy26, c_X5_refusalOfTold, sp_refusal]
    exact hq M q_tq_rf
/-- bits of those below k of which T says -1 -/
def F_set (T : Nat → Int) : Nat → Int
  | 0 => 0
  | k + 1 => if T k = -1 then q_or (F_set T k) (q_shl 1 k) else F_set T k
def A_kinds (V : Nat → (Nat → Int) → Int) (M : q_M) (s p so : Int) : Int := if q_rfA M s ≠ 0 then q_rfA M s else if ¬(0 ≤ p ∧ p < M 12 5) then -5 else if ¬(0 ≤ so ∧ so ≤ 1) then -7 else F_set (fun k => q_foA V M (q_upd (cW M 11) so.toNat p.toNat k) s.toNat p.toNat) (if so = 0 then 6 else 10)
set_option maxHeartbeats 4000000 in
theorem sp_kinds {V : Nat → (Nat → Int) → Int} {d : Nat} {g : q_G} {M : q_M} {ta : Nat} {s p so : Int} {Q : Option q_V → q_G → q_M → Prop} (C : q_ci V M ta) (hq : ∀ M2 : q_M, q_tq M M2 → Q (some (qI (A_kinds V M s p so))) g M2) : q_S 1 (d + 6) 84 [qR 5 0, qI s, qI p, qI so] g M Q := by
  have h12 := q_ci_n C
  rw [s_X5_kinds]
  unfold A_kinds at hq
  by_cases c1 : q_rfA M s = 0
  · rw [if_neg (fun z => z c1)] at hq
    by_cases c2 : 0 ≤ p ∧ p < M 12 5
    · rw [if_neg (fun z => z c2)] at hq
      by_cases c3 : 0 ≤ so ∧ so ≤ 1
      · rw [if_neg (fun z => z c3)] at hq
        obtain ⟨⟨s0, s4⟩, sz⟩ := q_rfA_0 c1
        obtain ⟨S, rfl⟩ : ∃ S : Nat, s = S := ⟨s.toNat, by omega⟩
        obtain ⟨N, rfl⟩ : ∃ N : Nat, p = N := ⟨p.toNat, by omega⟩
        simp only [Int.toNat_natCast] at hq sz
        generalize hT : (fun k : Nat => q_foA V M (q_upd (cW M 11) so.toNat N k) S N) = T at hq
        have loop : ∀ K : Nat, K = (if so = 0 then 6 else 10) → ∀ j k : Nat, k + j = K → ∀ M1 : q_M, q_tq M M1 → q_T 1 (d + 6) qP_X5_kinds 57 [] [qR 5 0, qI S, qI N, qI so, qI (q_rfA M S), qI (F_set T k), qI K, qI k] [] g M1 Q := by
          intro K hK
          rw [← hK] at hq
          have hK10 : K ≤ 10 := by rw [hK]; split <;> omega
          have hK6 : so = 0 → K = 6 := fun e => by rw [hK, if_pos e]
          intro j
          induction j with
          | zero =>
            intro k hk M1 hf
            have e : k = K := by omega
            subst e
            rw [b_X5_kinds_57]
            simp (disch := omega) only [b_X5_kinds_0, x_loadR_0, x_loadS_0, x_loadI_1, x_storeI_4, x_loadI_4, y_if_eq_t, y_if_eq_f, b_X5_kinds_12, x_ret0, b_X5_kinds_15, x_loadI_2, y_if_ne_t, y_if_ne_f, b_X5_kinds_23, x_iconst, b_X5_kinds_26, x_loadI_3, y_if_lt_t, y_if_lt_f, b_X5_kinds_30, y_ic_le_t, y_ic_le_f, b_X5_kinds_35, b_X5_kinds_38, x_storeI_5, b_X5_kinds_45, x_goto, b_X5_kinds_50, b_X5_kinds_52, x_storeI_6, x_storeI_7, x_loadI_7, x_loadI_6, y_ic_ge_t, y_ic_ge_f, b_X5_kinds_64, f_5_4, f_5_3, b_X5_kinds_79, f_4_4, y_iast_26, b_X5_kinds_93, f_4_5, b_X5_kinds_104, y_ic_ne_t, y_ic_ne_f, b_X5_kinds_114, x_loadI_5, x_ishl, x_ior, b_X5_kinds_123, x_iinc_7, b_X5_kinds_129, q_isL_I, q_isL_R, q_isL_S, true_and, and_true, and_self, List.length_nil, List.length_cons, Nat.zero_add, x_K, x_Kn, Int.reduceToNat, Nat.reduceAdd, Nat.reduceMul, Nat.reduceLeDiff, Nat.reduceLT, Nat.zero_le, Int.reduceAdd, Int.reduceSub, Int.reduceMul, Int.reduceNeg, q_add_e, q_sub_e, q_mul_e, q_neg_e, q_upd_s, q_upd_n, zr_shr0, zr_shr1, zr_shr2, zr_shr3, zr_shr4, zr_and, zr_dyn8, zr_or, zr_shl, q_cpy_n, y_cpy26]
            exact hq M1 hf
          | succ j ih =>
            intro k hk M1 hf
            have ih2 := ih (k + 1) (by omega)
            rw [F_set] at ih2
            rw [b_X5_kinds_57]
            simp (disch := omega) only [b_X5_kinds_0, x_loadR_0, x_loadS_0, x_loadI_1, x_storeI_4, x_loadI_4, y_if_eq_t, y_if_eq_f, b_X5_kinds_12, x_ret0, b_X5_kinds_15, x_loadI_2, y_if_ne_t, y_if_ne_f, b_X5_kinds_23, x_iconst, b_X5_kinds_26, x_loadI_3, y_if_lt_t, y_if_lt_f, b_X5_kinds_30, y_ic_le_t, y_ic_le_f, b_X5_kinds_35, b_X5_kinds_38, x_storeI_5, b_X5_kinds_45, x_goto, b_X5_kinds_50, b_X5_kinds_52, x_storeI_6, x_storeI_7, x_loadI_7, x_loadI_6, y_ic_ge_t, y_ic_ge_f, b_X5_kinds_64, f_5_4, f_5_3, b_X5_kinds_79, f_4_4, y_iast_26, b_X5_kinds_93, f_4_5, b_X5_kinds_104, y_ic_ne_t, y_ic_ne_f, b_X5_kinds_114, x_loadI_5, x_ishl, x_ior, b_X5_kinds_123, x_iinc_7, b_X5_kinds_129, q_isL_I, q_isL_R, q_isL_S, true_and, and_true, and_self, List.length_nil, List.length_cons, Nat.zero_add, x_K, x_Kn, Int.reduceToNat, Nat.reduceAdd, Nat.reduceMul, Nat.reduceLeDiff, Nat.reduceLT, Nat.zero_le, Int.reduceAdd, Int.reduceSub, Int.reduceMul, Int.reduceNeg, q_add_e, q_sub_e, q_mul_e, q_neg_e, q_upd_s, q_upd_n, zr_shr0, zr_shr1, zr_shr2, zr_shr3, zr_shr4, zr_and, zr_dyn8, zr_or, zr_shl, q_cpy_n, y_cpy26, c_X4_copyFrom]
            refine sp_think C hf (fun M2 h2 => ?_)
            obtain ⟨t1, t2, t3, t4, t5, t6⟩ := h2
            rcases (show so = 0 ∨ so = 1 by omega) with e | e
            · subst e
              simp (disch := omega) only [b_X5_kinds_0, x_loadR_0, x_loadS_0, x_loadI_1, x_storeI_4, x_loadI_4, y_if_eq_t, y_if_eq_f, b_X5_kinds_12, x_ret0, b_X5_kinds_15, x_loadI_2, y_if_ne_t, y_if_ne_f, b_X5_kinds_23, x_iconst, b_X5_kinds_26, x_loadI_3, y_if_lt_t, y_if_lt_f, b_X5_kinds_30, y_ic_le_t, y_ic_le_f, b_X5_kinds_35, b_X5_kinds_38, x_storeI_5, b_X5_kinds_45, x_goto, b_X5_kinds_50, b_X5_kinds_52, x_storeI_6, x_storeI_7, x_loadI_7, x_loadI_6, y_ic_ge_t, y_ic_ge_f, b_X5_kinds_64, f_5_4, f_5_3, b_X5_kinds_79, f_4_4, y_iast_26, b_X5_kinds_93, f_4_5, b_X5_kinds_104, y_ic_ne_t, y_ic_ne_f, b_X5_kinds_114, x_loadI_5, x_ishl, x_ior, b_X5_kinds_123, x_iinc_7, b_X5_kinds_129, q_isL_I, q_isL_R, q_isL_S, true_and, and_true, and_self, List.length_nil, List.length_cons, Nat.zero_add, x_K, x_Kn, Int.reduceToNat, Nat.reduceAdd, Nat.reduceMul, Nat.reduceLeDiff, Nat.reduceLT, Nat.zero_le, Int.reduceAdd, Int.reduceSub, Int.reduceMul, Int.reduceNeg, q_add_e, q_sub_e, q_mul_e, q_neg_e, q_upd_s, q_upd_n, zr_shr0, zr_shr1, zr_shr2, zr_shr3, zr_shr4, zr_and, zr_dyn8, zr_or, zr_shl, q_cpy_n, y_cpy26, c_X5_firstOtherwise, Int.toNat_natCast]
              refine sp_fo2 (V := V) (ta := ta) C (by omega) sz (by omega) C.1 (q_wl_up3 t1 (by omega)) (q_z5_eq (fun a q1 q2 => q_upd_n (by omega)) t3) ((q_upd_n (by omega)).trans t4) ((q_upd_n (by omega)).trans t5) (q_tq_up t6 (by omega) (by omega) (by omega)) (fun M3 h3 => ?_)
              have eT : q_foA V M (cW (q_upd M2 60 N k) 38) S N = T k := by rw [← hT, ← t2]; exact congrArg (fun S2 => q_foA V M S2 S N) (cW_up0 (w := 38) (M := M2) (by rw [t5]; omega))
              rw [eT]
              by_cases c : T k = -1
              · rw [if_pos c] at ih2
                simp (disch := omega) only [b_X5_kinds_0, x_loadR_0, x_loadS_0, x_loadI_1, x_storeI_4, x_loadI_4, y_if_eq_t, y_if_eq_f, b_X5_kinds_12, x_ret0, b_X5_kinds_15, x_loadI_2, y_if_ne_t, y_if_ne_f, b_X5_kinds_23, x_iconst, b_X5_kinds_26, x_loadI_3, y_if_lt_t, y_if_lt_f, b_X5_kinds_30, y_ic_le_t, y_ic_le_f, b_X5_kinds_35, b_X5_kinds_38, x_storeI_5, b_X5_kinds_45, x_goto, b_X5_kinds_50, b_X5_kinds_52, x_storeI_6, x_storeI_7, x_loadI_7, x_loadI_6, y_ic_ge_t, y_ic_ge_f, b_X5_kinds_64, f_5_4, f_5_3, b_X5_kinds_79, f_4_4, y_iast_26, b_X5_kinds_93, f_4_5, b_X5_kinds_104, y_ic_ne_t, y_ic_ne_f, b_X5_kinds_114, x_loadI_5, x_ishl, x_ior, b_X5_kinds_123, x_iinc_7, b_X5_kinds_129, q_isL_I, q_isL_R, q_isL_S, true_and, and_true, and_self, List.length_nil, List.length_cons, Nat.zero_add, x_K, x_Kn, Int.reduceToNat, Nat.reduceAdd, Nat.reduceMul, Nat.reduceLeDiff, Nat.reduceLT, Nat.zero_le, Int.reduceAdd, Int.reduceSub, Int.reduceMul, Int.reduceNeg, q_add_e, q_sub_e, q_mul_e, q_neg_e, q_upd_s, q_upd_n, zr_shr0, zr_shr1, zr_shr2, zr_shr3, zr_shr4, zr_and, zr_dyn8, zr_or, zr_shl, q_cpy_n, y_cpy26]
                exact ih2 M3 h3
              · rw [if_neg c] at ih2
                simp (disch := omega) only [b_X5_kinds_0, x_loadR_0, x_loadS_0, x_loadI_1, x_storeI_4, x_loadI_4, y_if_eq_t, y_if_eq_f, b_X5_kinds_12, x_ret0, b_X5_kinds_15, x_loadI_2, y_if_ne_t, y_if_ne_f, b_X5_kinds_23, x_iconst, b_X5_kinds_26, x_loadI_3, y_if_lt_t, y_if_lt_f, b_X5_kinds_30, y_ic_le_t, y_ic_le_f, b_X5_kinds_35, b_X5_kinds_38, x_storeI_5, b_X5_kinds_45, x_goto, b_X5_kinds_50, b_X5_kinds_52, x_storeI_6, x_storeI_7, x_loadI_7, x_loadI_6, y_ic_ge_t, y_ic_ge_f, b_X5_kinds_64, f_5_4, f_5_3, b_X5_kinds_79, f_4_4, y_iast_26, b_X5_kinds_93, f_4_5, b_X5_kinds_104, y_ic_ne_t, y_ic_ne_f, b_X5_kinds_114, x_loadI_5, x_ishl, x_ior, b_X5_kinds_123, x_iinc_7, b_X5_kinds_129, q_isL_I, q_isL_R, q_isL_S, true_and, and_true, and_self, List.length_nil, List.length_cons, Nat.zero_add, x_K, x_Kn, Int.reduceToNat, Nat.reduceAdd, Nat.reduceMul, Nat.reduceLeDiff, Nat.reduceLT, Nat.zero_le, Int.reduceAdd, Int.reduceSub, Int.reduceMul, Int.reduceNeg, q_add_e, q_sub_e, q_mul_e, q_neg_e, q_upd_s, q_upd_n, zr_shr0, zr_shr1, zr_shr2, zr_shr3, zr_shr4, zr_and, zr_dyn8, zr_or, zr_shl, q_cpy_n, y_cpy26]
                exact ih2 M3 h3
            · subst e
              simp (disch := omega) only [b_X5_kinds_0, x_loadR_0, x_loadS_0, x_loadI_1, x_storeI_4, x_loadI_4, y_if_eq_t, y_if_eq_f, b_X5_kinds_12, x_ret0, b_X5_kinds_15, x_loadI_2, y_if_ne_t, y_if_ne_f, b_X5_kinds_23, x_iconst, b_X5_kinds_26, x_loadI_3, y_if_lt_t, y_if_lt_f, b_X5_kinds_30, y_ic_le_t, y_ic_le_f, b_X5_kinds_35, b_X5_kinds_38, x_storeI_5, b_X5_kinds_45, x_goto, b_X5_kinds_50, b_X5_kinds_52, x_storeI_6, x_storeI_7, x_loadI_7, x_loadI_6, y_ic_ge_t, y_ic_ge_f, b_X5_kinds_64, f_5_4, f_5_3, b_X5_kinds_79, f_4_4, y_iast_26, b_X5_kinds_93, f_4_5, b_X5_kinds_104, y_ic_ne_t, y_ic_ne_f, b_X5_kinds_114, x_loadI_5, x_ishl, x_ior, b_X5_kinds_123, x_iinc_7, b_X5_kinds_129, q_isL_I, q_isL_R, q_isL_S, true_and, and_true, and_self, List.length_nil, List.length_cons, Nat.zero_add, x_K, x_Kn, Int.reduceToNat, Nat.reduceAdd, Nat.reduceMul, Nat.reduceLeDiff, Nat.reduceLT, Nat.zero_le, Int.reduceAdd, Int.reduceSub, Int.reduceMul, Int.reduceNeg, q_add_e, q_sub_e, q_mul_e, q_neg_e, q_upd_s, q_upd_n, zr_shr0, zr_shr1, zr_shr2, zr_shr3, zr_shr4, zr_and, zr_dyn8, zr_or, zr_shl, q_cpy_n, y_cpy26, c_X5_firstOtherwise, Int.toNat_natCast]
              refine sp_fo2 (V := V) (ta := ta) C (by omega) sz (by omega) C.1 (q_wl_up3 t1 (by omega)) (q_z5_eq (fun a q1 q2 => q_upd_n (by omega)) t3) ((q_upd_n (by omega)).trans t4) ((q_upd_n (by omega)).trans t5) (q_tq_up t6 (by omega) (by omega) (by omega)) (fun M3 h3 => ?_)
              have eT : q_foA V M (cW (q_upd M2 61 N k) 38) S N = T k := by rw [← hT, ← t2]; exact congrArg (fun S2 => q_foA V M S2 S N) (cW_up1 (w := 38) (M := M2) (by rw [t5]; omega))
              rw [eT]
              by_cases c : T k = -1
              · rw [if_pos c] at ih2
                simp (disch := omega) only [b_X5_kinds_0, x_loadR_0, x_loadS_0, x_loadI_1, x_storeI_4, x_loadI_4, y_if_eq_t, y_if_eq_f, b_X5_kinds_12, x_ret0, b_X5_kinds_15, x_loadI_2, y_if_ne_t, y_if_ne_f, b_X5_kinds_23, x_iconst, b_X5_kinds_26, x_loadI_3, y_if_lt_t, y_if_lt_f, b_X5_kinds_30, y_ic_le_t, y_ic_le_f, b_X5_kinds_35, b_X5_kinds_38, x_storeI_5, b_X5_kinds_45, x_goto, b_X5_kinds_50, b_X5_kinds_52, x_storeI_6, x_storeI_7, x_loadI_7, x_loadI_6, y_ic_ge_t, y_ic_ge_f, b_X5_kinds_64, f_5_4, f_5_3, b_X5_kinds_79, f_4_4, y_iast_26, b_X5_kinds_93, f_4_5, b_X5_kinds_104, y_ic_ne_t, y_ic_ne_f, b_X5_kinds_114, x_loadI_5, x_ishl, x_ior, b_X5_kinds_123, x_iinc_7, b_X5_kinds_129, q_isL_I, q_isL_R, q_isL_S, true_and, and_true, and_self, List.length_nil, List.length_cons, Nat.zero_add, x_K, x_Kn, Int.reduceToNat, Nat.reduceAdd, Nat.reduceMul, Nat.reduceLeDiff, Nat.reduceLT, Nat.zero_le, Int.reduceAdd, Int.reduceSub, Int.reduceMul, Int.reduceNeg, q_add_e, q_sub_e, q_mul_e, q_neg_e, q_upd_s, q_upd_n, zr_shr0, zr_shr1, zr_shr2, zr_shr3, zr_shr4, zr_and, zr_dyn8, zr_or, zr_shl, q_cpy_n, y_cpy26]
                exact ih2 M3 h3
              · rw [if_neg c] at ih2
                simp (disch := omega) only [b_X5_kinds_0, x_loadR_0, x_loadS_0, x_loadI_1, x_storeI_4, x_loadI_4, y_if_eq_t, y_if_eq_f, b_X5_kinds_12, x_ret0, b_X5_kinds_15, x_loadI_2, y_if_ne_t, y_if_ne_f, b_X5_kinds_23, x_iconst, b_X5_kinds_26, x_loadI_3, y_if_lt_t, y_if_lt_f, b_X5_kinds_30, y_ic_le_t, y_ic_le_f, b_X5_kinds_35, b_X5_kinds_38, x_storeI_5, b_X5_kinds_45, x_goto, b_X5_kinds_50, b_X5_kinds_52, x_storeI_6, x_storeI_7, x_loadI_7, x_loadI_6, y_ic_ge_t, y_ic_ge_f, b_X5_kinds_64, f_5_4, f_5_3, b_X5_kinds_79, f_4_4, y_iast_26, b_X5_kinds_93, f_4_5, b_X5_kinds_104, y_ic_ne_t, y_ic_ne_f, b_X5_kinds_114, x_loadI_5, x_ishl, x_ior, b_X5_kinds_123, x_iinc_7, b_X5_kinds_129, q_isL_I, q_isL_R, q_isL_S, true_and, and_true, and_self, List.length_nil, List.length_cons, Nat.zero_add, x_K, x_Kn, Int.reduceToNat, Nat.reduceAdd, Nat.reduceMul, Nat.reduceLeDiff, Nat.reduceLT, Nat.zero_le, Int.reduceAdd, Int.reduceSub, Int.reduceMul, Int.reduceNeg, q_add_e, q_sub_e, q_mul_e, q_neg_e, q_upd_s, q_upd_n, zr_shr0, zr_shr1, zr_shr2, zr_shr3, zr_shr4, zr_and, zr_dyn8, zr_or, zr_shl, q_cpy_n, y_cpy26]
                exact ih2 M3 h3
        rcases (show so = 0 ∨ so = 1 by omega) with e | e
        · subst e
          simp (disch := omega) only [b_X5_kinds_0, x_loadR_0, x_loadS_0, x_loadI_1, x_storeI_4, x_loadI_4, y_if_eq_t, y_if_eq_f, b_X5_kinds_12, x_ret0, b_X5_kinds_15, x_loadI_2, y_if_ne_t, y_if_ne_f, b_X5_kinds_23, x_iconst, b_X5_kinds_26, x_loadI_3, y_if_lt_t, y_if_lt_f, b_X5_kinds_30, y_ic_le_t, y_ic_le_f, b_X5_kinds_35, b_X5_kinds_38, x_storeI_5, b_X5_kinds_45, x_goto, b_X5_kinds_50, b_X5_kinds_52, x_storeI_6, x_storeI_7, x_loadI_7, x_loadI_6, y_ic_ge_t, y_ic_ge_f, b_X5_kinds_64, f_5_4, f_5_3, b_X5_kinds_79, f_4_4, y_iast_26, b_X5_kinds_93, f_4_5, b_X5_kinds_104, y_ic_ne_t, y_ic_ne_f, b_X5_kinds_114, x_loadI_5, x_ishl, x_ior, b_X5_kinds_123, x_iinc_7, b_X5_kinds_129, q_isL_I, q_isL_R, q_isL_S, true_and, and_true, and_self, List.length_nil, List.length_cons, Nat.zero_add, x_K, x_Kn, Int.reduceToNat, Nat.reduceAdd, Nat.reduceMul, Nat.reduceLeDiff, Nat.reduceLT, Nat.zero_le, Int.reduceAdd, Int.reduceSub, Int.reduceMul, Int.reduceNeg, q_add_e, q_sub_e, q_mul_e, q_neg_e, q_upd_s, q_upd_n, zr_shr0, zr_shr1, zr_shr2, zr_shr3, zr_shr4, zr_and, zr_dyn8, zr_or, zr_shl, q_cpy_n, y_cpy26, c_X5_refusalOfTold, sp_refusal, c_X5_isStone, sp_isStone, c2, and_self, if_true]
          exact loop 6 rfl 6 0 rfl M q_tq_rf
        · subst e
          simp (disch := omega) only [b_X5_kinds_0, x_loadR_0, x_loadS_0, x_loadI_1, x_storeI_4, x_loadI_4, y_if_eq_t, y_if_eq_f, b_X5_kinds_12, x_ret0, b_X5_kinds_15, x_loadI_2, y_if_ne_t, y_if_ne_f, b_X5_kinds_23, x_iconst, b_X5_kinds_26, x_loadI_3, y_if_lt_t, y_if_lt_f, b_X5_kinds_30, y_ic_le_t, y_ic_le_f, b_X5_kinds_35, b_X5_kinds_38, x_storeI_5, b_X5_kinds_45, x_goto, b_X5_kinds_50, b_X5_kinds_52, x_storeI_6, x_storeI_7, x_loadI_7, x_loadI_6, y_ic_ge_t, y_ic_ge_f, b_X5_kinds_64, f_5_4, f_5_3, b_X5_kinds_79, f_4_4, y_iast_26, b_X5_kinds_93, f_4_5, b_X5_kinds_104, y_ic_ne_t, y_ic_ne_f, b_X5_kinds_114, x_loadI_5, x_ishl, x_ior, b_X5_kinds_123, x_iinc_7, b_X5_kinds_129, q_isL_I, q_isL_R, q_isL_S, true_and, and_true, and_self, List.length_nil, List.length_cons, Nat.zero_add, x_K, x_Kn, Int.reduceToNat, Nat.reduceAdd, Nat.reduceMul, Nat.reduceLeDiff, Nat.reduceLT, Nat.zero_le, Int.reduceAdd, Int.reduceSub, Int.reduceMul, Int.reduceNeg, q_add_e, q_sub_e, q_mul_e, q_neg_e, q_upd_s, q_upd_n, zr_shr0, zr_shr1, zr_shr2, zr_shr3, zr_shr4, zr_and, zr_dyn8, zr_or, zr_shl, q_cpy_n, y_cpy26, c_X5_refusalOfTold, sp_refusal, c_X5_isStone, sp_isStone, c2, and_self, if_true]
          exact loop 10 rfl 10 0 rfl M q_tq_rf
      · rw [if_pos c3] at hq
        rcases (show so < 0 ∨ 1 < so by omega) with e | e
        · simp (disch := omega) only [b_X5_kinds_0, x_loadR_0, x_loadS_0, x_loadI_1, x_storeI_4, x_loadI_4, y_if_eq_t, y_if_eq_f, b_X5_kinds_12, x_ret0, b_X5_kinds_15, x_loadI_2, y_if_ne_t, y_if_ne_f, b_X5_kinds_23, x_iconst, b_X5_kinds_26, x_loadI_3, y_if_lt_t, y_if_lt_f, b_X5_kinds_30, y_ic_le_t, y_ic_le_f, b_X5_kinds_35, b_X5_kinds_38, x_storeI_5, b_X5_kinds_45, x_goto, b_X5_kinds_50, b_X5_kinds_52, x_storeI_6, x_storeI_7, x_loadI_7, x_loadI_6, y_ic_ge_t, y_ic_ge_f, b_X5_kinds_64, f_5_4, f_5_3, b_X5_kinds_79, f_4_4, y_iast_26, b_X5_kinds_93, f_4_5, b_X5_kinds_104, y_ic_ne_t, y_ic_ne_f, b_X5_kinds_114, x_loadI_5, x_ishl, x_ior, b_X5_kinds_123, x_iinc_7, b_X5_kinds_129, q_isL_I, q_isL_R, q_isL_S, true_and, and_true, and_self, List.length_nil, List.length_cons, Nat.zero_add, x_K, x_Kn, Int.reduceToNat, Nat.reduceAdd, Nat.reduceMul, Nat.reduceLeDiff, Nat.reduceLT, Nat.zero_le, Int.reduceAdd, Int.reduceSub, Int.reduceMul, Int.reduceNeg, q_add_e, q_sub_e, q_mul_e, q_neg_e, q_upd_s, q_upd_n, zr_shr0, zr_shr1, zr_shr2, zr_shr3, zr_shr4, zr_and, zr_dyn8, zr_or, zr_shl, q_cpy_n, y_cpy26, c_X5_refusalOfTold, sp_refusal, c_X5_isStone, sp_isStone, c2, and_self, if_true]
          exact hq M q_tq_rf
        · simp (disch := omega) only [b_X5_kinds_0, x_loadR_0, x_loadS_0, x_loadI_1, x_storeI_4, x_loadI_4, y_if_eq_t, y_if_eq_f, b_X5_kinds_12, x_ret0, b_X5_kinds_15, x_loadI_2, y_if_ne_t, y_if_ne_f, b_X5_kinds_23, x_iconst, b_X5_kinds_26, x_loadI_3, y_if_lt_t, y_if_lt_f, b_X5_kinds_30, y_ic_le_t, y_ic_le_f, b_X5_kinds_35, b_X5_kinds_38, x_storeI_5, b_X5_kinds_45, x_goto, b_X5_kinds_50, b_X5_kinds_52, x_storeI_6, x_storeI_7, x_loadI_7, x_loadI_6, y_ic_ge_t, y_ic_ge_f, b_X5_kinds_64, f_5_4, f_5_3, b_X5_kinds_79, f_4_4, y_iast_26, b_X5_kinds_93, f_4_5, b_X5_kinds_104, y_ic_ne_t, y_ic_ne_f, b_X5_kinds_114, x_loadI_5, x_ishl, x_ior, b_X5_kinds_123, x_iinc_7, b_X5_kinds_129, q_isL_I, q_isL_R, q_isL_S, true_and, and_true, and_self, List.length_nil, List.length_cons, Nat.zero_add, x_K, x_Kn, Int.reduceToNat, Nat.reduceAdd, Nat.reduceMul, Nat.reduceLeDiff, Nat.reduceLT, Nat.zero_le, Int.reduceAdd, Int.reduceSub, Int.reduceMul, Int.reduceNeg, q_add_e, q_sub_e, q_mul_e, q_neg_e, q_upd_s, q_upd_n, zr_shr0, zr_shr1, zr_shr2, zr_shr3, zr_shr4, zr_and, zr_dyn8, zr_or, zr_shl, q_cpy_n, y_cpy26, c_X5_refusalOfTold, sp_refusal, c_X5_isStone, sp_isStone, c2, and_self, if_true]
          exact hq M q_tq_rf
    · rw [if_pos c2] at hq
      simp (disch := omega) only [b_X5_kinds_0, x_loadR_0, x_loadS_0, x_loadI_1, x_storeI_4, x_loadI_4, y_if_eq_t, y_if_eq_f, b_X5_kinds_12, x_ret0, b_X5_kinds_15, x_loadI_2, y_if_ne_t, y_if_ne_f, b_X5_kinds_23, x_iconst, b_X5_kinds_26, x_loadI_3, y_if_lt_t, y_if_lt_f, b_X5_kinds_30, y_ic_le_t, y_ic_le_f, b_X5_kinds_35, b_X5_kinds_38, x_storeI_5, b_X5_kinds_45, x_goto, b_X5_kinds_50, b_X5_kinds_52, x_storeI_6, x_storeI_7, x_loadI_7, x_loadI_6, y_ic_ge_t, y_ic_ge_f, b_X5_kinds_64, f_5_4, f_5_3, b_X5_kinds_79, f_4_4, y_iast_26, b_X5_kinds_93, f_4_5, b_X5_kinds_104, y_ic_ne_t, y_ic_ne_f, b_X5_kinds_114, x_loadI_5, x_ishl, x_ior, b_X5_kinds_123, x_iinc_7, b_X5_kinds_129, q_isL_I, q_isL_R, q_isL_S, true_and, and_true, and_self, List.length_nil, List.length_cons, Nat.zero_add, x_K, x_Kn, Int.reduceToNat, Nat.reduceAdd, Nat.reduceMul, Nat.reduceLeDiff, Nat.reduceLT, Nat.zero_le, Int.reduceAdd, Int.reduceSub, Int.reduceMul, Int.reduceNeg, q_add_e, q_sub_e, q_mul_e, q_neg_e, q_upd_s, q_upd_n, zr_shr0, zr_shr1, zr_shr2, zr_shr3, zr_shr4, zr_and, zr_dyn8, zr_or, zr_shl, q_cpy_n, y_cpy26, c_X5_refusalOfTold, sp_refusal, c_X5_isStone, sp_isStone, c2, if_false]
      exact hq M q_tq_rf
  · rw [if_pos c1] at hq
    simp (disch := omega) only [b_X5_kinds_0, x_loadR_0, x_loadS_0, x_loadI_1, x_storeI_4, x_loadI_4, y_if_eq_t, y_if_eq_f, b_X5_kinds_12, x_ret0, b_X5_kinds_15, x_loadI_2, y_if_ne_t, y_if_ne_f, b_X5_kinds_23, x_iconst, b_X5_kinds_26, x_loadI_3, y_if_lt_t, y_if_lt_f, b_X5_kinds_30, y_ic_le_t, y_ic_le_f, b_X5_kinds_35, b_X5_kinds_38, x_storeI_5, b_X5_kinds_45, x_goto, b_X5_kinds_50, b_X5_kinds_52, x_storeI_6, x_storeI_7, x_loadI_7, x_loadI_6, y_ic_ge_t, y_ic_ge_f, b_X5_kinds_64, f_5_4, f_5_3, b_X5_kinds_79, f_4_4, y_iast_26, b_X5_kinds_93, f_4_5, b_X5_kinds_104, y_ic_ne_t, y_ic_ne_f, b_X5_kinds_114, x_loadI_5, x_ishl, x_ior, b_X5_kinds_123, x_iinc_7, b_X5_kinds_129, q_isL_I, q_isL_R, q_isL_S, true_and, and_true, and_self, List.length_nil, List.length_cons, Nat.zero_add, x_K, x_Kn, Int.reduceToNat, Nat.reduceAdd, Nat.reduceMul, Nat.reduceLeDiff, Nat.reduceLT, Nat.zero_le, Int.reduceAdd, Int.reduceSub, Int.reduceMul, Int.reduceNeg, q_add_e, q_sub_e, q_mul_e, q_neg_e, q_upd_s, q_upd_n, zr_shr0, zr_shr1, zr_shr2, zr_shr3, zr_shr4, zr_and, zr_dyn8, zr_or, zr_shl, q_cpy_n, y_cpy26, c_X5_refusalOfTold, sp_refusal]
    exact hq M q_tq_rf
