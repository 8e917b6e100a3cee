/-! THE MODEL'S READER: what is held and put out, just so -/
def q_hL (Hm : Nat → Int) : List Int → Prop
  | [] => True
  | c :: H => Hm H.length = c ∧ q_hL Hm H
def q_oL (Om : Nat → Int) (O : List Int) : Prop := ∀ i, i < O.length → Om i = O.getD i 0
def q_yrd (tm : Nat) (S : q_Y) (M : q_M) : Prop := M 100 25 = S.1.length ∧ M 100 26 = S.2.1 ∧ M 100 27 = S.2.2.length ∧ q_hL (M 115) S.1 ∧ q_oL (fun i => M 106 (200 * tm + i)) S.2.2
theorem q_hL_c {Hm Hm2 : Nat → Int} : ∀ H : List Int, (∀ i, i < H.length → Hm2 i = Hm i) → q_hL Hm H → q_hL Hm2 H
  | [], _, _ => trivial
  | c :: H, h, k => ⟨(h H.length (by rw [List.length_cons]; omega)).trans k.1, q_hL_c H (fun i hi => h i (by rw [List.length_cons]; omega)) k.2⟩
theorem q_oL_c {Om Om2 : Nat → Int} {O : List Int} (h : ∀ i, i < O.length → Om2 i = Om i) (k : q_oL Om O) : q_oL Om2 O := fun i hi => (h i hi).trans (k i hi)
theorem q_oL_a {Om Om2 : Nat → Int} {O : List Int} {c : Int} (h : ∀ i, i < O.length → Om2 i = Om i) (h2 : Om2 O.length = c) (k : q_oL Om O) : q_oL Om2 (O ++ [c]) := by
  intro i hi
  rw [List.length_append] at hi
  have hi : i < O.length + 1 := hi
  by_cases e : i = O.length
  · rw [e, Y_gd]
    exact h2
  · rw [Y_gl (by omega), h i (by omega)]
    exact k i (by omega)
theorem q_yrd_c {tm : Nat} {S : q_Y} {M M2 : q_M} (h : ∀ a i, ((a = 100 ∧ (i = 25 ∨ i = 26 ∨ i = 27)) ∨ a = 115 ∨ a = 106) → M2 a i = M a i) (k : q_yrd tm S M) : q_yrd tm S M2 := ⟨(h 100 25 (by omega)).trans k.1, (h 100 26 (by omega)).trans k.2.1, (h 100 27 (by omega)).trans k.2.2.1, q_hL_c _ (fun i _ => h 115 i (by omega)) k.2.2.2.1, q_oL_c (fun i _ => h 106 _ (by omega)) k.2.2.2.2⟩
set_option maxHeartbeats 8000000 in
theorem mp_unwindsX {d tm s : Nat} {S : q_Y} {g : q_G} {M : q_M} {r : Int} {Q : Option q_V → q_G → q_M → Prop} (ht : M 100 10 = tm) (ht6 : tm < 6) (hs : s ≤ S.2.2.length) (hl : S.1.length + S.2.2.length ≤ 160) (hp : -160 ≤ S.2.1 ∧ S.2.1 ≤ 160) (hM : q_yrd tm S M) (hq : ∀ M2 : q_M, q_ufr tm s M M2 → q_yrd tm (Y_u r S) M2 → Q none g M2) : q_S 1 (d + 1) 127 [qR 6 100, qI r] g M Q := by
  obtain ⟨H0, p0, O0⟩ := S
  rw [s_X6_unwinds]
  have loop : ∀ (H : List Int) (p : Int) (O : List Int) (M1 : q_M) (l2 : q_V), q_isL l2 = false → q_ufr tm s M M1 → s ≤ O.length → H.length + O.length ≤ 160 → (H.length - 1000 ≤ p ∧ p ≤ 160) → q_yrd tm (H, p, O) M1 → (∀ M2 : q_M, q_ufr tm s M M2 → q_yrd tm (Y_un r H p O) M2 → Q none g M2) → q_T 1 (d + 1) qP_X6_unwinds 0 [] [qR 6 100, qI r, l2] [] g M1 Q := by
    intro H
    induction H with
    | nil =>
      intro p O M1 l2 i2 hf hs hl hp k hq
      have k1 : M1 100 25 = 0 := k.1
      rw [b_X6_unwinds_0]
      simp (disch := omega) only [x_loadR_0, x_loadS_0, f_6_25, y_if_le_t, y_if_le_f, b_X6_unwinds_7, f_6_24, x_iconst, x_isub, y_iald_220, x_loadI_1, y_ic_lt_t, y_ic_lt_f, b_X6_unwinds_25, x_dupI, x_dupR, p_6_25, x_storeI_2, f_6_26, x_loadI_2, y_ic_eq_t, y_ic_eq_f, b_X6_unwinds_56, y_ic_ne_t, y_ic_ne_f, b_X6_unwinds_62, x_goto, b_X6_unwinds_66, b_X6_unwinds_67, p_6_26, b_X6_unwinds_79, x_vret, q_isL_I, q_isL_R, q_isL_S, true_and, and_true, and_self, List.length_nil, List.length_cons, Nat.zero_add, x_K, x_Kn, Int.reduceToNat, Nat.reduceAdd, Nat.reduceMul, Nat.reduceLeDiff, Nat.reduceLT, Nat.zero_le, Int.reduceAdd, Int.reduceSub, Int.reduceMul, Int.reduceNeg, q_add_e, q_sub_e, q_mul_e, q_neg_e, q_upd_s, q_upd_n, zr_shr0, zr_shr1, zr_shr2, zr_shr3, zr_shr4, zr_and, zr_dyn8, zr_or, zr_shl, q_cpy_n, y_cpy26]
      exact hq M1 hf k
    | cons c H ih =>
      intro p O M1 l2 i2 hf hs hl hp k hq
      obtain ⟨k1, k2, k3, k4, k5⟩ := k
      simp only at k1 k2 k3 k4 k5
      rw [List.length_cons] at k1 hl hp
      generalize hx : H.length = x at k1 hl hp
      have kc : M1 115 x = c := by rw [← hx]; exact k4.1
      generalize ho : O.length = o at k3 hl hs
      have e10 : M1 100 10 = tm := (hf 100 10 (by omega) (by omega) (by omega)).trans ht
      have t1 : (((x + 1 : Nat) : Int) - 1).toNat = x := by omega
      rw [Y_un] at hq
      rw [b_X6_unwinds_0]
      simp (disch := omega) only [x_loadR_0, x_loadS_0, f_6_25, y_if_le_t, y_if_le_f, b_X6_unwinds_7, f_6_24, x_iconst, x_isub, y_iald_220, x_loadI_1, y_ic_lt_t, y_ic_lt_f, b_X6_unwinds_25, x_dupI, x_dupR, p_6_25, x_storeI_2, f_6_26, x_loadI_2, y_ic_eq_t, y_ic_eq_f, b_X6_unwinds_56, y_ic_ne_t, y_ic_ne_f, b_X6_unwinds_62, x_goto, b_X6_unwinds_66, b_X6_unwinds_67, p_6_26, b_X6_unwinds_79, x_vret, q_isL_I, q_isL_R, q_isL_S, true_and, and_true, and_self, List.length_nil, List.length_cons, Nat.zero_add, x_K, x_Kn, Int.reduceToNat, Nat.reduceAdd, Nat.reduceMul, Nat.reduceLeDiff, Nat.reduceLT, Nat.zero_le, Int.reduceAdd, Int.reduceSub, Int.reduceMul, Int.reduceNeg, q_add_e, q_sub_e, q_mul_e, q_neg_e, q_upd_s, q_upd_n, zr_shr0, zr_shr1, zr_shr2, zr_shr3, zr_shr4, zr_and, zr_dyn8, zr_or, zr_shl, q_cpy_n, y_cpy26, k1, t1, c_X6_rank]
      refine mp_rank ?_
      rw [kc]
      by_cases cc : F_rank c < r
      · rw [if_pos cc] at hq
        simp (disch := omega) only [x_loadR_0, x_loadS_0, f_6_25, y_if_le_t, y_if_le_f, b_X6_unwinds_7, f_6_24, x_iconst, x_isub, y_iald_220, x_loadI_1, y_ic_lt_t, y_ic_lt_f, b_X6_unwinds_25, x_dupI, x_dupR, p_6_25, x_storeI_2, f_6_26, x_loadI_2, y_ic_eq_t, y_ic_eq_f, b_X6_unwinds_56, y_ic_ne_t, y_ic_ne_f, b_X6_unwinds_62, x_goto, b_X6_unwinds_66, b_X6_unwinds_67, p_6_26, b_X6_unwinds_79, x_vret, q_isL_I, q_isL_R, q_isL_S, true_and, and_true, and_self, List.length_nil, List.length_cons, Nat.zero_add, x_K, x_Kn, Int.reduceToNat, Nat.reduceAdd, Nat.reduceMul, Nat.reduceLeDiff, Nat.reduceLT, Nat.zero_le, Int.reduceAdd, Int.reduceSub, Int.reduceMul, Int.reduceNeg, q_add_e, q_sub_e, q_mul_e, q_neg_e, q_upd_s, q_upd_n, zr_shr0, zr_shr1, zr_shr2, zr_shr3, zr_shr4, zr_and, zr_dyn8, zr_or, zr_shl, q_cpy_n, y_cpy26]
        exact hq M1 hf ⟨by rw [k1, ← hx, List.length_cons], k2, by rw [k3, ← ho], k4, k5⟩
      · rw [if_neg cc] at hq
        have e1 : ((x + 1 : Nat) : Int) - 1 = x := by omega
        have fin : ∀ v : Int, v = (if c = 13 ∨ c = 19 then p - 1 else p) → q_T 1 (d + 1) qP_X6_unwinds 0 [] [qR 6 100, qI r, qI c] [] g (q_upd (q_upd (q_upd (q_upd M1 100 25 x) 100 26 v) 106 (200 * tm + o) c) 100 27 ((o : Int) + 1)) Q := by
          intro v hv
          have el : (O ++ [c]).length = o + 1 := by rw [List.length_append, ho]; rfl
          refine ih v (O ++ [c]) _ _ rfl (q_ufr_up (q_ufr_up (q_ufr_up (q_ufr_up hf (by omega)) (by omega)) (by omega)) (by omega)) (by omega) (by omega) (by rw [hx]; split at hv <;> omega) ⟨?_, ?_, ?_, ?_, ?_⟩ ?_
          · simp (disch := omega) only [q_upd_n, q_upd_s]
            rw [hx]
          · simp (disch := omega) only [q_upd_n, q_upd_s]
          · simp (disch := omega) only [q_upd_n, q_upd_s]
            omega
          · exact q_hL_c H (fun i _ => by simp (disch := omega) only [q_upd_n]) k4.2
          · exact q_oL_a (fun i hi => by simp (disch := omega) only [q_upd_n]) (by rw [ho]; simp (disch := omega) only [q_upd_n, q_upd_s]) k5
          · rw [hv]
            exact hq
        by_cases c2 : c = 13
        · simp (disch := omega) only [x_loadR_0, x_loadS_0, f_6_25, y_if_le_t, y_if_le_f, b_X6_unwinds_7, f_6_24, x_iconst, x_isub, y_iald_220, x_loadI_1, y_ic_lt_t, y_ic_lt_f, b_X6_unwinds_25, x_dupI, x_dupR, p_6_25, x_storeI_2, f_6_26, x_loadI_2, y_ic_eq_t, y_ic_eq_f, b_X6_unwinds_56, y_ic_ne_t, y_ic_ne_f, b_X6_unwinds_62, x_goto, b_X6_unwinds_66, b_X6_unwinds_67, p_6_26, b_X6_unwinds_79, x_vret, q_isL_I, q_isL_R, q_isL_S, true_and, and_true, and_self, List.length_nil, List.length_cons, Nat.zero_add, x_K, x_Kn, Int.reduceToNat, Nat.reduceAdd, Nat.reduceMul, Nat.reduceLeDiff, Nat.reduceLT, Nat.zero_le, Int.reduceAdd, Int.reduceSub, Int.reduceMul, Int.reduceNeg, q_add_e, q_sub_e, q_mul_e, q_neg_e, q_upd_s, q_upd_n, zr_shr0, zr_shr1, zr_shr2, zr_shr3, zr_shr4, zr_and, zr_dyn8, zr_or, zr_shl, q_cpy_n, y_cpy26, k1, e1, Int.toNat_natCast, i2, c_X6_puts, kc]
          refine mp_puts (tm := tm) (o := o) (by simp (disch := omega) only [q_upd_n]; exact e10) ht6 (by simp (disch := omega) only [q_upd_n]; exact k3) (by omega) ?_
          simp (disch := omega) only [x_loadR_0, x_loadS_0, f_6_25, y_if_le_t, y_if_le_f, b_X6_unwinds_7, f_6_24, x_iconst, x_isub, y_iald_220, x_loadI_1, y_ic_lt_t, y_ic_lt_f, b_X6_unwinds_25, x_dupI, x_dupR, p_6_25, x_storeI_2, f_6_26, x_loadI_2, y_ic_eq_t, y_ic_eq_f, b_X6_unwinds_56, y_ic_ne_t, y_ic_ne_f, b_X6_unwinds_62, x_goto, b_X6_unwinds_66, b_X6_unwinds_67, p_6_26, b_X6_unwinds_79, x_vret, q_isL_I, q_isL_R, q_isL_S, true_and, and_true, and_self, List.length_nil, List.length_cons, Nat.zero_add, x_K, x_Kn, Int.reduceToNat, Nat.reduceAdd, Nat.reduceMul, Nat.reduceLeDiff, Nat.reduceLT, Nat.zero_le, Int.reduceAdd, Int.reduceSub, Int.reduceMul, Int.reduceNeg, q_add_e, q_sub_e, q_mul_e, q_neg_e, q_upd_s, q_upd_n, zr_shr0, zr_shr1, zr_shr2, zr_shr3, zr_shr4, zr_and, zr_dyn8, zr_or, zr_shl, q_cpy_n, y_cpy26]
          exact fin _ (by rw [if_pos (Or.inl c2), k2])
        · by_cases c3 : c = 19
          · simp (disch := omega) only [x_loadR_0, x_loadS_0, f_6_25, y_if_le_t, y_if_le_f, b_X6_unwinds_7, f_6_24, x_iconst, x_isub, y_iald_220, x_loadI_1, y_ic_lt_t, y_ic_lt_f, b_X6_unwinds_25, x_dupI, x_dupR, p_6_25, x_storeI_2, f_6_26, x_loadI_2, y_ic_eq_t, y_ic_eq_f, b_X6_unwinds_56, y_ic_ne_t, y_ic_ne_f, b_X6_unwinds_62, x_goto, b_X6_unwinds_66, b_X6_unwinds_67, p_6_26, b_X6_unwinds_79, x_vret, q_isL_I, q_isL_R, q_isL_S, true_and, and_true, and_self, List.length_nil, List.length_cons, Nat.zero_add, x_K, x_Kn, Int.reduceToNat, Nat.reduceAdd, Nat.reduceMul, Nat.reduceLeDiff, Nat.reduceLT, Nat.zero_le, Int.reduceAdd, Int.reduceSub, Int.reduceMul, Int.reduceNeg, q_add_e, q_sub_e, q_mul_e, q_neg_e, q_upd_s, q_upd_n, zr_shr0, zr_shr1, zr_shr2, zr_shr3, zr_shr4, zr_and, zr_dyn8, zr_or, zr_shl, q_cpy_n, y_cpy26, k1, e1, Int.toNat_natCast, i2, c_X6_puts, kc]
            refine mp_puts (tm := tm) (o := o) (by simp (disch := omega) only [q_upd_n]; exact e10) ht6 (by simp (disch := omega) only [q_upd_n]; exact k3) (by omega) ?_
            simp (disch := omega) only [x_loadR_0, x_loadS_0, f_6_25, y_if_le_t, y_if_le_f, b_X6_unwinds_7, f_6_24, x_iconst, x_isub, y_iald_220, x_loadI_1, y_ic_lt_t, y_ic_lt_f, b_X6_unwinds_25, x_dupI, x_dupR, p_6_25, x_storeI_2, f_6_26, x_loadI_2, y_ic_eq_t, y_ic_eq_f, b_X6_unwinds_56, y_ic_ne_t, y_ic_ne_f, b_X6_unwinds_62, x_goto, b_X6_unwinds_66, b_X6_unwinds_67, p_6_26, b_X6_unwinds_79, x_vret, q_isL_I, q_isL_R, q_isL_S, true_and, and_true, and_self, List.length_nil, List.length_cons, Nat.zero_add, x_K, x_Kn, Int.reduceToNat, Nat.reduceAdd, Nat.reduceMul, Nat.reduceLeDiff, Nat.reduceLT, Nat.zero_le, Int.reduceAdd, Int.reduceSub, Int.reduceMul, Int.reduceNeg, q_add_e, q_sub_e, q_mul_e, q_neg_e, q_upd_s, q_upd_n, zr_shr0, zr_shr1, zr_shr2, zr_shr3, zr_shr4, zr_and, zr_dyn8, zr_or, zr_shl, q_cpy_n, y_cpy26]
            exact fin _ (by rw [if_pos (Or.inr c3), k2])
          · simp (disch := omega) only [x_loadR_0, x_loadS_0, f_6_25, y_if_le_t, y_if_le_f, b_X6_unwinds_7, f_6_24, x_iconst, x_isub, y_iald_220, x_loadI_1, y_ic_lt_t, y_ic_lt_f, b_X6_unwinds_25, x_dupI, x_dupR, p_6_25, x_storeI_2, f_6_26, x_loadI_2, y_ic_eq_t, y_ic_eq_f, b_X6_unwinds_56, y_ic_ne_t, y_ic_ne_f, b_X6_unwinds_62, x_goto, b_X6_unwinds_66, b_X6_unwinds_67, p_6_26, b_X6_unwinds_79, x_vret, q_isL_I, q_isL_R, q_isL_S, true_and, and_true, and_self, List.length_nil, List.length_cons, Nat.zero_add, x_K, x_Kn, Int.reduceToNat, Nat.reduceAdd, Nat.reduceMul, Nat.reduceLeDiff, Nat.reduceLT, Nat.zero_le, Int.reduceAdd, Int.reduceSub, Int.reduceMul, Int.reduceNeg, q_add_e, q_sub_e, q_mul_e, q_neg_e, q_upd_s, q_upd_n, zr_shr0, zr_shr1, zr_shr2, zr_shr3, zr_shr4, zr_and, zr_dyn8, zr_or, zr_shl, q_cpy_n, y_cpy26, k1, e1, Int.toNat_natCast, i2, c_X6_puts, kc]
            refine mp_puts (tm := tm) (o := o) (by simp (disch := omega) only [q_upd_n]; exact e10) ht6 (by simp (disch := omega) only [q_upd_n]; exact k3) (by omega) ?_
            simp (disch := omega) only [x_loadR_0, x_loadS_0, f_6_25, y_if_le_t, y_if_le_f, b_X6_unwinds_7, f_6_24, x_iconst, x_isub, y_iald_220, x_loadI_1, y_ic_lt_t, y_ic_lt_f, b_X6_unwinds_25, x_dupI, x_dupR, p_6_25, x_storeI_2, f_6_26, x_loadI_2, y_ic_eq_t, y_ic_eq_f, b_X6_unwinds_56, y_ic_ne_t, y_ic_ne_f, b_X6_unwinds_62, x_goto, b_X6_unwinds_66, b_X6_unwinds_67, p_6_26, b_X6_unwinds_79, x_vret, q_isL_I, q_isL_R, q_isL_S, true_and, and_true, and_self, List.length_nil, List.length_cons, Nat.zero_add, x_K, x_Kn, Int.reduceToNat, Nat.reduceAdd, Nat.reduceMul, Nat.reduceLeDiff, Nat.reduceLT, Nat.zero_le, Int.reduceAdd, Int.reduceSub, Int.reduceMul, Int.reduceNeg, q_add_e, q_sub_e, q_mul_e, q_neg_e, q_upd_s, q_upd_n, zr_shr0, zr_shr1, zr_shr2, zr_shr3, zr_shr4, zr_and, zr_dyn8, zr_or, zr_shl, q_cpy_n, y_cpy26]
            exact fin _ (by rw [if_neg (fun z => z.elim c2 c3), k2, Int.sub_zero])
  exact loop H0 p0 O0 M _ rfl q_ufr_rf hs hl (by have h1 : H0.length + O0.length ≤ 160 := hl; have h2 : -160 ≤ p0 ∧ p0 ≤ 160 := hp; omega) hM hq
theorem mp_opensOneX {d h : Nat} {g : q_G} {M : q_M} {c : Int} {Q : Option q_V → q_G → q_M → Prop} (hh : M 100 25 = h) (hh2 : h < 200) (hp : -200 ≤ M 100 26 ∧ M 100 26 ≤ 200) (hq0 : M 100 26 = 5 → Q (some (qI 0)) g M) (hq1 : M 100 26 ≠ 5 → Q (some (qI 1)) g (q_upd (q_upd (q_upd M 100 26 (M 100 26 + 1)) 115 h c) 100 25 ((h : Int) + 1))) : q_S 1 (d + 1) 129 [qR 6 100, qI c] g M Q := by
  rw [s_X6_opensOne]
  by_cases k : M 100 26 = 5
  · simp (disch := omega) only [b_X6_opensOne_0, x_loadR_0, x_loadS_0, f_6_26, x_iconst, y_ic_ne_t, y_ic_ne_f, b_X6_opensOne_8, x_ret1_0, x_ret1_1, b_X6_opensOne_10, x_dupI, x_dupR, x_iadd, p_6_26, x_loadI_1, q_isL_I, q_isL_R, q_isL_S, true_and, and_true, and_self, List.length_nil, List.length_cons, Nat.zero_add, x_K, x_Kn, Int.reduceToNat, Nat.reduceAdd, Nat.reduceMul, Nat.reduceLeDiff, Nat.reduceLT, Nat.zero_le, Int.reduceAdd, Int.reduceSub, Int.reduceMul, Int.reduceNeg, q_add_e, q_sub_e, q_mul_e, q_neg_e, q_upd_s, q_upd_n, zr_shr0, zr_shr1, zr_shr2, zr_shr3, zr_shr4, zr_and, zr_dyn8, zr_or, zr_shl, q_cpy_n, y_cpy26]
    exact hq0 k
  · simp (disch := omega) only [b_X6_opensOne_0, x_loadR_0, x_loadS_0, f_6_26, x_iconst, y_ic_ne_t, y_ic_ne_f, b_X6_opensOne_8, x_ret1_0, x_ret1_1, b_X6_opensOne_10, x_dupI, x_dupR, x_iadd, p_6_26, x_loadI_1, q_isL_I, q_isL_R, q_isL_S, true_and, and_true, and_self, List.length_nil, List.length_cons, Nat.zero_add, x_K, x_Kn, Int.reduceToNat, Nat.reduceAdd, Nat.reduceMul, Nat.reduceLeDiff, Nat.reduceLT, Nat.zero_le, Int.reduceAdd, Int.reduceSub, Int.reduceMul, Int.reduceNeg, q_add_e, q_sub_e, q_mul_e, q_neg_e, q_upd_s, q_upd_n, zr_shr0, zr_shr1, zr_shr2, zr_shr3, zr_shr4, zr_and, zr_dyn8, zr_or, zr_shl, q_cpy_n, y_cpy26, c_X6_holds]
    refine mp_holds (h := h) (by rw [q_upd_n (by omega)]; exact hh) hh2 ?_
    simp (disch := omega) only [b_X6_opensOne_0, x_loadR_0, x_loadS_0, f_6_26, x_iconst, y_ic_ne_t, y_ic_ne_f, b_X6_opensOne_8, x_ret1_0, x_ret1_1, b_X6_opensOne_10, x_dupI, x_dupR, x_iadd, p_6_26, x_loadI_1, q_isL_I, q_isL_R, q_isL_S, true_and, and_true, and_self, List.length_nil, List.length_cons, Nat.zero_add, x_K, x_Kn, Int.reduceToNat, Nat.reduceAdd, Nat.reduceMul, Nat.reduceLeDiff, Nat.reduceLT, Nat.zero_le, Int.reduceAdd, Int.reduceSub, Int.reduceMul, Int.reduceNeg, q_add_e, q_sub_e, q_mul_e, q_neg_e, q_upd_s, q_upd_n, zr_shr0, zr_shr1, zr_shr2, zr_shr3, zr_shr4, zr_and, zr_dyn8, zr_or, zr_shl, q_cpy_n, y_cpy26]
    exact hq1 k
set_option maxHeartbeats 4000000 in
theorem mp_signOfX {d : Nat} {g : q_G} {M : q_M} {t : Int} {Q : Option q_V → q_G → q_M → Prop} (h21 : M 100 21 = Y_t t) (htr : (-10 ≤ t ∧ t ≤ -1) ∨ t = 40 ∨ t = 41 ∨ t = 59 ∨ t = 43 ∨ t = 45 ∨ t = 42 ∨ t = 60 ∨ t = 61) (hq : Q (some (qI (Y_sg t))) g M) : q_S 1 d 131 [qR 6 100] g M Q := by
  rw [s_X6_signOf]
  have hv : (if M 100 21 = 4 then (11 : Int) else if M 100 21 = 5 then 12 else if M 100 21 = 60 then 14 else if M 100 21 = 61 then 15 else if M 100 21 = 43 then 16 else if M 100 21 = 45 then 17 else if M 100 21 = 42 then 18 else -1) = Y_sg t := by
    rw [h21]
    rcases (show t = -10 ∨ t = -9 ∨ t = -8 ∨ t = -7 ∨ t = -6 ∨ t = -5 ∨ t = -4 ∨ t = -3 ∨ t = -2 ∨ t = -1 ∨ t = 40 ∨ t = 41 ∨ t = 59 ∨ t = 43 ∨ t = 45 ∨ t = 42 ∨ t = 60 ∨ t = 61 by omega) with e | e | e | e | e | e | e | e | e | e | e | e | e | e | e | e | e | e <;> rw [e] <;> decide
  rw [← hv] at hq
  clear hv
  simp (disch := omega) only [b_X6_signOf_0, x_loadR_0, x_loadS_0, f_6_21, x_iconst, y_ic_ne_t, y_ic_ne_f, b_X6_signOf_8, x_goto, b_X6_signOf_13, b_X6_signOf_21, b_X6_signOf_26, b_X6_signOf_35, b_X6_signOf_40, b_X6_signOf_49, b_X6_signOf_54, b_X6_signOf_63, b_X6_signOf_68, b_X6_signOf_77, b_X6_signOf_82, b_X6_signOf_91, b_X6_signOf_96, b_X6_signOf_97, x_ret0, q_isL_I, q_isL_R, q_isL_S, true_and, and_true, and_self, List.length_nil, List.length_cons, Nat.zero_add, x_K, x_Kn, Int.reduceToNat, Nat.reduceAdd, Nat.reduceMul, Nat.reduceLeDiff, Nat.reduceLT, Nat.zero_le, Int.reduceAdd, Int.reduceSub, Int.reduceMul, Int.reduceNeg, q_add_e, q_sub_e, q_mul_e, q_neg_e, q_upd_s, q_upd_n, zr_shr0, zr_shr1, zr_shr2, zr_shr3, zr_shr4, zr_and, zr_dyn8, zr_or, zr_shl, q_cpy_n, y_cpy26]
  refine y_ic_ne (fun h1 => ?_) (fun h1 => ?_)
  rotate_left
  · rw [if_pos (by omega)] at hq
    simp (disch := omega) only [b_X6_signOf_0, x_loadR_0, x_loadS_0, f_6_21, x_iconst, y_ic_ne_t, y_ic_ne_f, b_X6_signOf_8, x_goto, b_X6_signOf_13, b_X6_signOf_21, b_X6_signOf_26, b_X6_signOf_35, b_X6_signOf_40, b_X6_signOf_49, b_X6_signOf_54, b_X6_signOf_63, b_X6_signOf_68, b_X6_signOf_77, b_X6_signOf_82, b_X6_signOf_91, b_X6_signOf_96, b_X6_signOf_97, x_ret0, q_isL_I, q_isL_R, q_isL_S, true_and, and_true, and_self, List.length_nil, List.length_cons, Nat.zero_add, x_K, x_Kn, Int.reduceToNat, Nat.reduceAdd, Nat.reduceMul, Nat.reduceLeDiff, Nat.reduceLT, Nat.zero_le, Int.reduceAdd, Int.reduceSub, Int.reduceMul, Int.reduceNeg, q_add_e, q_sub_e, q_mul_e, q_neg_e, q_upd_s, q_upd_n, zr_shr0, zr_shr1, zr_shr2, zr_shr3, zr_shr4, zr_and, zr_dyn8, zr_or, zr_shl, q_cpy_n, y_cpy26]
    exact hq
  rw [if_neg (by omega)] at hq
  simp (disch := omega) only [b_X6_signOf_0, x_loadR_0, x_loadS_0, f_6_21, x_iconst, y_ic_ne_t, y_ic_ne_f, b_X6_signOf_8, x_goto, b_X6_signOf_13, b_X6_signOf_21, b_X6_signOf_26, b_X6_signOf_35, b_X6_signOf_40, b_X6_signOf_49, b_X6_signOf_54, b_X6_signOf_63, b_X6_signOf_68, b_X6_signOf_77, b_X6_signOf_82, b_X6_signOf_91, b_X6_signOf_96, b_X6_signOf_97, x_ret0, q_isL_I, q_isL_R, q_isL_S, true_and, and_true, and_self, List.length_nil, List.length_cons, Nat.zero_add, x_K, x_Kn, Int.reduceToNat, Nat.reduceAdd, Nat.reduceMul, Nat.reduceLeDiff, Nat.reduceLT, Nat.zero_le, Int.reduceAdd, Int.reduceSub, Int.reduceMul, Int.reduceNeg, q_add_e, q_sub_e, q_mul_e, q_neg_e, q_upd_s, q_upd_n, zr_shr0, zr_shr1, zr_shr2, zr_shr3, zr_shr4, zr_and, zr_dyn8, zr_or, zr_shl, q_cpy_n, y_cpy26]
  refine y_ic_ne (fun h2 => ?_) (fun h2 => ?_)
  rotate_left
  · rw [if_pos (by omega)] at hq
    simp (disch := omega) only [b_X6_signOf_0, x_loadR_0, x_loadS_0, f_6_21, x_iconst, y_ic_ne_t, y_ic_ne_f, b_X6_signOf_8, x_goto, b_X6_signOf_13, b_X6_signOf_21, b_X6_signOf_26, b_X6_signOf_35, b_X6_signOf_40, b_X6_signOf_49, b_X6_signOf_54, b_X6_signOf_63, b_X6_signOf_68, b_X6_signOf_77, b_X6_signOf_82, b_X6_signOf_91, b_X6_signOf_96, b_X6_signOf_97, x_ret0, q_isL_I, q_isL_R, q_isL_S, true_and, and_true, and_self, List.length_nil, List.length_cons, Nat.zero_add, x_K, x_Kn, Int.reduceToNat, Nat.reduceAdd, Nat.reduceMul, Nat.reduceLeDiff, Nat.reduceLT, Nat.zero_le, Int.reduceAdd, Int.reduceSub, Int.reduceMul, Int.reduceNeg, q_add_e, q_sub_e, q_mul_e, q_neg_e, q_upd_s, q_upd_n, zr_shr0, zr_shr1, zr_shr2, zr_shr3, zr_shr4, zr_and, zr_dyn8, zr_or, zr_shl, q_cpy_n, y_cpy26]
    exact hq
  rw [if_neg (by omega)] at hq
  simp (disch := omega) only [b_X6_signOf_0, x_loadR_0, x_loadS_0, f_6_21, x_iconst, y_ic_ne_t, y_ic_ne_f, b_X6_signOf_8, x_goto, b_X6_signOf_13, b_X6_signOf_21, b_X6_signOf_26, b_X6_signOf_35, b_X6_signOf_40, b_X6_signOf_49, b_X6_signOf_54, b_X6_signOf_63, b_X6_signOf_68, b_X6_signOf_77, b_X6_signOf_82, b_X6_signOf_91, b_X6_signOf_96, b_X6_signOf_97, x_ret0, q_isL_I, q_isL_R, q_isL_S, true_and, and_true, and_self, List.length_nil, List.length_cons, Nat.zero_add, x_K, x_Kn, Int.reduceToNat, Nat.reduceAdd, Nat.reduceMul, Nat.reduceLeDiff, Nat.reduceLT, Nat.zero_le, Int.reduceAdd, Int.reduceSub, Int.reduceMul, Int.reduceNeg, q_add_e, q_sub_e, q_mul_e, q_neg_e, q_upd_s, q_upd_n, zr_shr0, zr_shr1, zr_shr2, zr_shr3, zr_shr4, zr_and, zr_dyn8, zr_or, zr_shl, q_cpy_n, y_cpy26]
  refine y_ic_ne (fun h3 => ?_) (fun h3 => ?_)
  rotate_left
  · rw [if_pos (by omega)] at hq
    simp (disch := omega) only [b_X6_signOf_0, x_loadR_0, x_loadS_0, f_6_21, x_iconst, y_ic_ne_t, y_ic_ne_f, b_X6_signOf_8, x_goto, b_X6_signOf_13, b_X6_signOf_21, b_X6_signOf_26, b_X6_signOf_35, b_X6_signOf_40, b_X6_signOf_49, b_X6_signOf_54, b_X6_signOf_63, b_X6_signOf_68, b_X6_signOf_77, b_X6_signOf_82, b_X6_signOf_91, b_X6_signOf_96, b_X6_signOf_97, x_ret0, q_isL_I, q_isL_R, q_isL_S, true_and, and_true, and_self, List.length_nil, List.length_cons, Nat.zero_add, x_K, x_Kn, Int.reduceToNat, Nat.reduceAdd, Nat.reduceMul, Nat.reduceLeDiff, Nat.reduceLT, Nat.zero_le, Int.reduceAdd, Int.reduceSub, Int.reduceMul, Int.reduceNeg, q_add_e, q_sub_e, q_mul_e, q_neg_e, q_upd_s, q_upd_n, zr_shr0, zr_shr1, zr_shr2, zr_shr3, zr_shr4, zr_and, zr_dyn8, zr_or, zr_shl, q_cpy_n, y_cpy26]
    exact hq
  rw [if_neg (by omega)] at hq
  simp (disch := omega) only [b_X6_signOf_0, x_loadR_0, x_loadS_0, f_6_21, x_iconst, y_ic_ne_t, y_ic_ne_f, b_X6_signOf_8, x_goto, b_X6_signOf_13, b_X6_signOf_21, b_X6_signOf_26, b_X6_signOf_35, b_X6_signOf_40, b_X6_signOf_49, b_X6_signOf_54, b_X6_signOf_63, b_X6_signOf_68, b_X6_signOf_77, b_X6_signOf_82, b_X6_signOf_91, b_X6_signOf_96, b_X6_signOf_97, x_ret0, q_isL_I, q_isL_R, q_isL_S, true_and, and_true, and_self, List.length_nil, List.length_cons, Nat.zero_add, x_K, x_Kn, Int.reduceToNat, Nat.reduceAdd, Nat.reduceMul, Nat.reduceLeDiff, Nat.reduceLT, Nat.zero_le, Int.reduceAdd, Int.reduceSub, Int.reduceMul, Int.reduceNeg, q_add_e, q_sub_e, q_mul_e, q_neg_e, q_upd_s, q_upd_n, zr_shr0, zr_shr1, zr_shr2, zr_shr3, zr_shr4, zr_and, zr_dyn8, zr_or, zr_shl, q_cpy_n, y_cpy26]
  refine y_ic_ne (fun h4 => ?_) (fun h4 => ?_)
  rotate_left
  · rw [if_pos (by omega)] at hq
    simp (disch := omega) only [b_X6_signOf_0, x_loadR_0, x_loadS_0, f_6_21, x_iconst, y_ic_ne_t, y_ic_ne_f, b_X6_signOf_8, x_goto, b_X6_signOf_13, b_X6_signOf_21, b_X6_signOf_26, b_X6_signOf_35, b_X6_signOf_40, b_X6_signOf_49, b_X6_signOf_54, b_X6_signOf_63, b_X6_signOf_68, b_X6_signOf_77, b_X6_signOf_82, b_X6_signOf_91, b_X6_signOf_96, b_X6_signOf_97, x_ret0, q_isL_I, q_isL_R, q_isL_S, true_and, and_true, and_self, List.length_nil, List.length_cons, Nat.zero_add, x_K, x_Kn, Int.reduceToNat, Nat.reduceAdd, Nat.reduceMul, Nat.reduceLeDiff, Nat.reduceLT, Nat.zero_le, Int.reduceAdd, Int.reduceSub, Int.reduceMul, Int.reduceNeg, q_add_e, q_sub_e, q_mul_e, q_neg_e, q_upd_s, q_upd_n, zr_shr0, zr_shr1, zr_shr2, zr_shr3, zr_shr4, zr_and, zr_dyn8, zr_or, zr_shl, q_cpy_n, y_cpy26]
    exact hq
  rw [if_neg (by omega)] at hq
  simp (disch := omega) only [b_X6_signOf_0, x_loadR_0, x_loadS_0, f_6_21, x_iconst, y_ic_ne_t, y_ic_ne_f, b_X6_signOf_8, x_goto, b_X6_signOf_13, b_X6_signOf_21, b_X6_signOf_26, b_X6_signOf_35, b_X6_signOf_40, b_X6_signOf_49, b_X6_signOf_54, b_X6_signOf_63, b_X6_signOf_68, b_X6_signOf_77, b_X6_signOf_82, b_X6_signOf_91, b_X6_signOf_96, b_X6_signOf_97, x_ret0, q_isL_I, q_isL_R, q_isL_S, true_and, and_true, and_self, List.length_nil, List.length_cons, Nat.zero_add, x_K, x_Kn, Int.reduceToNat, Nat.reduceAdd, Nat.reduceMul, Nat.reduceLeDiff, Nat.reduceLT, Nat.zero_le, Int.reduceAdd, Int.reduceSub, Int.reduceMul, Int.reduceNeg, q_add_e, q_sub_e, q_mul_e, q_neg_e, q_upd_s, q_upd_n, zr_shr0, zr_shr1, zr_shr2, zr_shr3, zr_shr4, zr_and, zr_dyn8, zr_or, zr_shl, q_cpy_n, y_cpy26]
  refine y_ic_ne (fun h5 => ?_) (fun h5 => ?_)
  rotate_left
  · rw [if_pos (by omega)] at hq
    simp (disch := omega) only [b_X6_signOf_0, x_loadR_0, x_loadS_0, f_6_21, x_iconst, y_ic_ne_t, y_ic_ne_f, b_X6_signOf_8, x_goto, b_X6_signOf_13, b_X6_signOf_21, b_X6_signOf_26, b_X6_signOf_35, b_X6_signOf_40, b_X6_signOf_49, b_X6_signOf_54, b_X6_signOf_63, b_X6_signOf_68, b_X6_signOf_77, b_X6_signOf_82, b_X6_signOf_91, b_X6_signOf_96, b_X6_signOf_97, x_ret0, q_isL_I, q_isL_R, q_isL_S, true_and, and_true, and_self, List.length_nil, List.length_cons, Nat.zero_add, x_K, x_Kn, Int.reduceToNat, Nat.reduceAdd, Nat.reduceMul, Nat.reduceLeDiff, Nat.reduceLT, Nat.zero_le, Int.reduceAdd, Int.reduceSub, Int.reduceMul, Int.reduceNeg, q_add_e, q_sub_e, q_mul_e, q_neg_e, q_upd_s, q_upd_n, zr_shr0, zr_shr1, zr_shr2, zr_shr3, zr_shr4, zr_and, zr_dyn8, zr_or, zr_shl, q_cpy_n, y_cpy26]
    exact hq
  rw [if_neg (by omega)] at hq
  simp (disch := omega) only [b_X6_signOf_0, x_loadR_0, x_loadS_0, f_6_21, x_iconst, y_ic_ne_t, y_ic_ne_f, b_X6_signOf_8, x_goto, b_X6_signOf_13, b_X6_signOf_21, b_X6_signOf_26, b_X6_signOf_35, b_X6_signOf_40, b_X6_signOf_49, b_X6_signOf_54, b_X6_signOf_63, b_X6_signOf_68, b_X6_signOf_77, b_X6_signOf_82, b_X6_signOf_91, b_X6_signOf_96, b_X6_signOf_97, x_ret0, q_isL_I, q_isL_R, q_isL_S, true_and, and_true, and_self, List.length_nil, List.length_cons, Nat.zero_add, x_K, x_Kn, Int.reduceToNat, Nat.reduceAdd, Nat.reduceMul, Nat.reduceLeDiff, Nat.reduceLT, Nat.zero_le, Int.reduceAdd, Int.reduceSub, Int.reduceMul, Int.reduceNeg, q_add_e, q_sub_e, q_mul_e, q_neg_e, q_upd_s, q_upd_n, zr_shr0, zr_shr1, zr_shr2, zr_shr3, zr_shr4, zr_and, zr_dyn8, zr_or, zr_shl, q_cpy_n, y_cpy26]
  refine y_ic_ne (fun h6 => ?_) (fun h6 => ?_)
  rotate_left
  · rw [if_pos (by omega)] at hq
    simp (disch := omega) only [b_X6_signOf_0, x_loadR_0, x_loadS_0, f_6_21, x_iconst, y_ic_ne_t, y_ic_ne_f, b_X6_signOf_8, x_goto, b_X6_signOf_13, b_X6_signOf_21, b_X6_signOf_26, b_X6_signOf_35, b_X6_signOf_40, b_X6_signOf_49, b_X6_signOf_54, b_X6_signOf_63, b_X6_signOf_68, b_X6_signOf_77, b_X6_signOf_82, b_X6_signOf_91, b_X6_signOf_96, b_X6_signOf_97, x_ret0, q_isL_I, q_isL_R, q_isL_S, true_and, and_true, and_self, List.length_nil, List.length_cons, Nat.zero_add, x_K, x_Kn, Int.reduceToNat, Nat.reduceAdd, Nat.reduceMul, Nat.reduceLeDiff, Nat.reduceLT, Nat.zero_le, Int.reduceAdd, Int.reduceSub, Int.reduceMul, Int.reduceNeg, q_add_e, q_sub_e, q_mul_e, q_neg_e, q_upd_s, q_upd_n, zr_shr0, zr_shr1, zr_shr2, zr_shr3, zr_shr4, zr_and, zr_dyn8, zr_or, zr_shl, q_cpy_n, y_cpy26]
    exact hq
  rw [if_neg (by omega)] at hq
  simp (disch := omega) only [b_X6_signOf_0, x_loadR_0, x_loadS_0, f_6_21, x_iconst, y_ic_ne_t, y_ic_ne_f, b_X6_signOf_8, x_goto, b_X6_signOf_13, b_X6_signOf_21, b_X6_signOf_26, b_X6_signOf_35, b_X6_signOf_40, b_X6_signOf_49, b_X6_signOf_54, b_X6_signOf_63, b_X6_signOf_68, b_X6_signOf_77, b_X6_signOf_82, b_X6_signOf_91, b_X6_signOf_96, b_X6_signOf_97, x_ret0, q_isL_I, q_isL_R, q_isL_S, true_and, and_true, and_self, List.length_nil, List.length_cons, Nat.zero_add, x_K, x_Kn, Int.reduceToNat, Nat.reduceAdd, Nat.reduceMul, Nat.reduceLeDiff, Nat.reduceLT, Nat.zero_le, Int.reduceAdd, Int.reduceSub, Int.reduceMul, Int.reduceNeg, q_add_e, q_sub_e, q_mul_e, q_neg_e, q_upd_s, q_upd_n, zr_shr0, zr_shr1, zr_shr2, zr_shr3, zr_shr4, zr_and, zr_dyn8, zr_or, zr_shl, q_cpy_n, y_cpy26]
  refine y_ic_ne (fun h7 => ?_) (fun h7 => ?_)
  · rw [if_neg (by omega)] at hq
    simp (disch := omega) only [b_X6_signOf_0, x_loadR_0, x_loadS_0, f_6_21, x_iconst, y_ic_ne_t, y_ic_ne_f, b_X6_signOf_8, x_goto, b_X6_signOf_13, b_X6_signOf_21, b_X6_signOf_26, b_X6_signOf_35, b_X6_signOf_40, b_X6_signOf_49, b_X6_signOf_54, b_X6_signOf_63, b_X6_signOf_68, b_X6_signOf_77, b_X6_signOf_82, b_X6_signOf_91, b_X6_signOf_96, b_X6_signOf_97, x_ret0, q_isL_I, q_isL_R, q_isL_S, true_and, and_true, and_self, List.length_nil, List.length_cons, Nat.zero_add, x_K, x_Kn, Int.reduceToNat, Nat.reduceAdd, Nat.reduceMul, Nat.reduceLeDiff, Nat.reduceLT, Nat.zero_le, Int.reduceAdd, Int.reduceSub, Int.reduceMul, Int.reduceNeg, q_add_e, q_sub_e, q_mul_e, q_neg_e, q_upd_s, q_upd_n, zr_shr0, zr_shr1, zr_shr2, zr_shr3, zr_shr4, zr_and, zr_dyn8, zr_or, zr_shl, q_cpy_n, y_cpy26]
    exact hq
  · rw [if_pos (by omega)] at hq
    simp (disch := omega) only [b_X6_signOf_0, x_loadR_0, x_loadS_0, f_6_21, x_iconst, y_ic_ne_t, y_ic_ne_f, b_X6_signOf_8, x_goto, b_X6_signOf_13, b_X6_signOf_21, b_X6_signOf_26, b_X6_signOf_35, b_X6_signOf_40, b_X6_signOf_49, b_X6_signOf_54, b_X6_signOf_63, b_X6_signOf_68, b_X6_signOf_77, b_X6_signOf_82, b_X6_signOf_91, b_X6_signOf_96, b_X6_signOf_97, x_ret0, q_isL_I, q_isL_R, q_isL_S, true_and, and_true, and_self, List.length_nil, List.length_cons, Nat.zero_add, x_K, x_Kn, Int.reduceToNat, Nat.reduceAdd, Nat.reduceMul, Nat.reduceLeDiff, Nat.reduceLT, Nat.zero_le, Int.reduceAdd, Int.reduceSub, Int.reduceMul, Int.reduceNeg, q_add_e, q_sub_e, q_mul_e, q_neg_e, q_upd_s, q_upd_n, zr_shr0, zr_shr1, zr_shr2, zr_shr3, zr_shr4, zr_and, zr_dyn8, zr_or, zr_shl, q_cpy_n, y_cpy26]
    exact hq
theorem q_yrd_tp {tm x : Nat} {H : List Int} {p : Int} {O : List Int} {M : q_M} (hx : H.length = x + 1) (k : q_yrd tm (H, p, O) M) : F_rank (M 115 x) = Y_tp H := by
  cases H with
  | nil => exact absurd hx (by show ¬(0 = x + 1); omega)
  | cons c H =>
    rw [List.length_cons] at hx
    have h : M 115 H.length = c := k.2.2.2.1.1
    rw [show x = H.length by omega, h]
    rfl
set_option maxHeartbeats 8000000 in
theorem mp_betweenX {d tm s a : Nat} {S : q_Y} {g : q_G} {M : q_M} {c : Int} {Q : Option q_V → q_G → q_M → Prop} (ht : M 100 10 = tm) (ht6 : tm < 6) (ha : a ≤ 160) (hc : q_bi c) (hi : q_Yi s a 0 S) (hM : q_yrd tm S M) (hq0 : ∀ M2, q_ufr tm s M M2 → Y_bt c S = none → Q (some (qI 0)) g M2) (hq1 : ∀ (M2 : q_M) (S2 : q_Y), q_ufr tm s M M2 → Y_bt c S = some S2 → q_yrd tm S2 M2 → Q (some (qI 1)) g M2) : q_S 1 (d + 2) 130 [qR 6 100, qI c] g M Q := by
  obtain ⟨H, p, O⟩ := S
  have hr := (q_bi_ne hc).2.2.2
  have hop : Y_op H ≤ 5 := hi.2.1
  have hp : p = Y_op H := hi.1
  have hs : s ≤ O.length := hi.2.2.2.2.1
  have hl : H.length + O.length ≤ a := hi.2.2.2.2.2.1
  rw [s_X6_between]
  have aft : ∀ (M2 : q_M) (S2 : q_Y), q_ufr tm s M M2 → S2.1.length + S2.2.2.length ≤ 160 → Y_bt c (H, p, O) = some (c :: S2.1, S2.2.1, S2.2.2) → q_yrd tm S2 M2 → q_T 1 (d + 2) qP_X6_between 55 [] [qR 6 100, qI c] [] g M2 Q := by
    intro M2 S2 hf hl2 hb k
    have k1 := k.1
    generalize hx : S2.1.length = x at k1 hl2
    rw [b_X6_between_55]
    simp (disch := omega) only [b_X6_between_0, x_loadR_0, x_loadS_0, x_loadI_1, x_iconst, y_ic_ne_t, y_ic_ne_f, b_X6_between_9, x_goto, b_X6_between_13, b_X6_between_17, b_X6_between_28, f_6_25, y_if_le_t, y_if_le_f, b_X6_between_35, f_6_24, x_isub, y_iald_220, b_X6_between_53, x_ret1_0, x_ret1_1, q_isL_I, q_isL_R, q_isL_S, true_and, and_true, and_self, List.length_nil, List.length_cons, Nat.zero_add, x_K, x_Kn, Int.reduceToNat, Nat.reduceAdd, Nat.reduceMul, Nat.reduceLeDiff, Nat.reduceLT, Nat.zero_le, Int.reduceAdd, Int.reduceSub, Int.reduceMul, Int.reduceNeg, q_add_e, q_sub_e, q_mul_e, q_neg_e, q_upd_s, q_upd_n, zr_shr0, zr_shr1, zr_shr2, zr_shr3, zr_shr4, zr_and, zr_dyn8, zr_or, zr_shl, q_cpy_n, y_cpy26, c_X6_holds]
    refine mp_holds (h := x) k1 (by omega) ?_
    simp (disch := omega) only [b_X6_between_0, x_loadR_0, x_loadS_0, x_loadI_1, x_iconst, y_ic_ne_t, y_ic_ne_f, b_X6_between_9, x_goto, b_X6_between_13, b_X6_between_17, b_X6_between_28, f_6_25, y_if_le_t, y_if_le_f, b_X6_between_35, f_6_24, x_isub, y_iald_220, b_X6_between_53, x_ret1_0, x_ret1_1, q_isL_I, q_isL_R, q_isL_S, true_and, and_true, and_self, List.length_nil, List.length_cons, Nat.zero_add, x_K, x_Kn, Int.reduceToNat, Nat.reduceAdd, Nat.reduceMul, Nat.reduceLeDiff, Nat.reduceLT, Nat.zero_le, Int.reduceAdd, Int.reduceSub, Int.reduceMul, Int.reduceNeg, q_add_e, q_sub_e, q_mul_e, q_neg_e, q_upd_s, q_upd_n, zr_shr0, zr_shr1, zr_shr2, zr_shr3, zr_shr4, zr_and, zr_dyn8, zr_or, zr_shl, q_cpy_n, y_cpy26]
    refine hq1 _ _ (q_ufr_up (q_ufr_up hf (by omega)) (by omega)) hb ⟨?_, ?_, ?_, ⟨?_, ?_⟩, ?_⟩
    · show _ = (((c :: S2.1).length : Nat) : Int)
      rw [List.length_cons, hx]
      simp (disch := omega) only [q_upd_s]
      omega
    · simp (disch := omega) only [q_upd_n]
      exact k.2.1
    · simp (disch := omega) only [q_upd_n]
      exact k.2.2.1
    · rw [hx]
      simp (disch := omega) only [q_upd_n, q_upd_s]
    · exact q_hL_c _ (fun i hi => by simp (disch := omega) only [q_upd_n]) k.2.2.2.1
    · exact q_oL_c (fun i hi => by simp (disch := omega) only [q_upd_n]) k.2.2.2.2
  simp (disch := omega) only [b_X6_between_0, x_loadR_0, x_loadS_0, x_loadI_1, x_iconst, y_ic_ne_t, y_ic_ne_f, b_X6_between_9, x_goto, b_X6_between_13, b_X6_between_17, f_6_25, y_if_le_t, y_if_le_f, b_X6_between_35, f_6_24, x_isub, y_iald_220, b_X6_between_53, x_ret1_0, x_ret1_1, q_isL_I, q_isL_R, q_isL_S, true_and, and_true, and_self, List.length_nil, List.length_cons, Nat.zero_add, x_K, x_Kn, Int.reduceToNat, Nat.reduceAdd, Nat.reduceMul, Nat.reduceLeDiff, Nat.reduceLT, Nat.zero_le, Int.reduceAdd, Int.reduceSub, Int.reduceMul, Int.reduceNeg, q_add_e, q_sub_e, q_mul_e, q_neg_e, q_upd_s, q_upd_n, zr_shr0, zr_shr1, zr_shr2, zr_shr3, zr_shr4, zr_and, zr_dyn8, zr_or, zr_shl, q_cpy_n, y_cpy26, c_X6_rank]
  refine mp_rank ?_
  by_cases c4 : F_rank c = 4
  · have u5 := Y_un_i (r := 5) (by decide) H p O hi
    simp (disch := omega) only [b_X6_between_0, x_loadR_0, x_loadS_0, x_loadI_1, x_iconst, y_ic_ne_t, y_ic_ne_f, b_X6_between_9, x_goto, b_X6_between_13, b_X6_between_17, f_6_25, y_if_le_t, y_if_le_f, b_X6_between_35, f_6_24, x_isub, y_iald_220, b_X6_between_53, x_ret1_0, x_ret1_1, q_isL_I, q_isL_R, q_isL_S, true_and, and_true, and_self, List.length_nil, List.length_cons, Nat.zero_add, x_K, x_Kn, Int.reduceToNat, Nat.reduceAdd, Nat.reduceMul, Nat.reduceLeDiff, Nat.reduceLT, Nat.zero_le, Int.reduceAdd, Int.reduceSub, Int.reduceMul, Int.reduceNeg, q_add_e, q_sub_e, q_mul_e, q_neg_e, q_upd_s, q_upd_n, zr_shr0, zr_shr1, zr_shr2, zr_shr3, zr_shr4, zr_and, zr_dyn8, zr_or, zr_shl, q_cpy_n, y_cpy26, c_X6_unwinds]
    refine mp_unwindsX (S := (H, p, O)) (s := s) ht ht6 hs (by show H.length + O.length ≤ 160; omega) (by show -160 ≤ p ∧ p ≤ 160; omega) hM (fun M2 hf k => ?_)
    have hl2 : (Y_u 5 (H, p, O)).1.length + (Y_u 5 (H, p, O)).2.2.length ≤ a := u5.1.2.2.2.2.2.1
    have hb : ¬(Y_tp (Y_u 5 (H, p, O)).1 = 4) → Y_bt c (H, p, O) = some (c :: (Y_u 5 (H, p, O)).1, (Y_u 5 (H, p, O)).2.1, (Y_u 5 (H, p, O)).2.2) := by
      intro q
      unfold Y_bt
      rw [if_neg (fun z => q z.2), if_pos c4]
    have hb0 : Y_tp (Y_u 5 (H, p, O)).1 = 4 → Y_bt c (H, p, O) = none := by
      intro q
      unfold Y_bt
      rw [if_pos ⟨c4, q⟩]
    generalize Y_u 5 (H, p, O) = S2 at k hl2 hb hb0
    simp (disch := omega) only [b_X6_between_0, x_loadR_0, x_loadS_0, x_loadI_1, x_iconst, y_ic_ne_t, y_ic_ne_f, b_X6_between_9, x_goto, b_X6_between_13, b_X6_between_17, f_6_25, y_if_le_t, y_if_le_f, b_X6_between_35, f_6_24, x_isub, y_iald_220, b_X6_between_53, x_ret1_0, x_ret1_1, q_isL_I, q_isL_R, q_isL_S, true_and, and_true, and_self, List.length_nil, List.length_cons, Nat.zero_add, x_K, x_Kn, Int.reduceToNat, Nat.reduceAdd, Nat.reduceMul, Nat.reduceLeDiff, Nat.reduceLT, Nat.zero_le, Int.reduceAdd, Int.reduceSub, Int.reduceMul, Int.reduceNeg, q_add_e, q_sub_e, q_mul_e, q_neg_e, q_upd_s, q_upd_n, zr_shr0, zr_shr1, zr_shr2, zr_shr3, zr_shr4, zr_and, zr_dyn8, zr_or, zr_shl, q_cpy_n, y_cpy26, c_X6_rank]
    refine mp_rank ?_
    simp (disch := omega) only [b_X6_between_0, x_loadR_0, x_loadS_0, x_loadI_1, x_iconst, y_ic_ne_t, y_ic_ne_f, b_X6_between_9, x_goto, b_X6_between_13, b_X6_between_17, f_6_25, y_if_le_t, y_if_le_f, b_X6_between_35, f_6_24, x_isub, y_iald_220, b_X6_between_53, x_ret1_0, x_ret1_1, q_isL_I, q_isL_R, q_isL_S, true_and, and_true, and_self, List.length_nil, List.length_cons, Nat.zero_add, x_K, x_Kn, Int.reduceToNat, Nat.reduceAdd, Nat.reduceMul, Nat.reduceLeDiff, Nat.reduceLT, Nat.zero_le, Int.reduceAdd, Int.reduceSub, Int.reduceMul, Int.reduceNeg, q_add_e, q_sub_e, q_mul_e, q_neg_e, q_upd_s, q_upd_n, zr_shr0, zr_shr1, zr_shr2, zr_shr3, zr_shr4, zr_and, zr_dyn8, zr_or, zr_shl, q_cpy_n, y_cpy26]
    have k1 := k.1
    rw [b_X6_between_28]
    generalize hx : S2.1.length = x at k1 hl2
    by_cases c5 : x = 0
    · have : ¬Y_tp S2.1 = 4 := by
        rw [List.length_eq_zero_iff.mp (hx.trans c5)]
        decide
      simp (disch := omega) only [b_X6_between_0, x_loadR_0, x_loadS_0, x_loadI_1, x_iconst, y_ic_ne_t, y_ic_ne_f, b_X6_between_9, x_goto, b_X6_between_13, b_X6_between_17, f_6_25, y_if_le_t, y_if_le_f, b_X6_between_35, f_6_24, x_isub, y_iald_220, b_X6_between_53, x_ret1_0, x_ret1_1, q_isL_I, q_isL_R, q_isL_S, true_and, and_true, and_self, List.length_nil, List.length_cons, Nat.zero_add, x_K, x_Kn, Int.reduceToNat, Nat.reduceAdd, Nat.reduceMul, Nat.reduceLeDiff, Nat.reduceLT, Nat.zero_le, Int.reduceAdd, Int.reduceSub, Int.reduceMul, Int.reduceNeg, q_add_e, q_sub_e, q_mul_e, q_neg_e, q_upd_s, q_upd_n, zr_shr0, zr_shr1, zr_shr2, zr_shr3, zr_shr4, zr_and, zr_dyn8, zr_or, zr_shl, q_cpy_n, y_cpy26, k1]
      exact aft M2 S2 hf (by omega) (hb this) k
    · have t1 : ((x : Int) - 1).toNat = x - 1 := by omega
      have tp := q_yrd_tp (tm := tm) (x := x - 1) (H := S2.1) (p := S2.2.1) (O := S2.2.2) (by omega) k
      simp (disch := omega) only [b_X6_between_0, x_loadR_0, x_loadS_0, x_loadI_1, x_iconst, y_ic_ne_t, y_ic_ne_f, b_X6_between_9, x_goto, b_X6_between_13, b_X6_between_17, f_6_25, y_if_le_t, y_if_le_f, b_X6_between_35, f_6_24, x_isub, y_iald_220, b_X6_between_53, x_ret1_0, x_ret1_1, q_isL_I, q_isL_R, q_isL_S, true_and, and_true, and_self, List.length_nil, List.length_cons, Nat.zero_add, x_K, x_Kn, Int.reduceToNat, Nat.reduceAdd, Nat.reduceMul, Nat.reduceLeDiff, Nat.reduceLT, Nat.zero_le, Int.reduceAdd, Int.reduceSub, Int.reduceMul, Int.reduceNeg, q_add_e, q_sub_e, q_mul_e, q_neg_e, q_upd_s, q_upd_n, zr_shr0, zr_shr1, zr_shr2, zr_shr3, zr_shr4, zr_and, zr_dyn8, zr_or, zr_shl, q_cpy_n, y_cpy26, k1, t1, c_X6_rank]
      refine mp_rank ?_
      rw [tp]
      by_cases c6 : Y_tp S2.1 = 4
      · simp (disch := omega) only [b_X6_between_0, x_loadR_0, x_loadS_0, x_loadI_1, x_iconst, y_ic_ne_t, y_ic_ne_f, b_X6_between_9, x_goto, b_X6_between_13, b_X6_between_17, f_6_25, y_if_le_t, y_if_le_f, b_X6_between_35, f_6_24, x_isub, y_iald_220, b_X6_between_53, x_ret1_0, x_ret1_1, q_isL_I, q_isL_R, q_isL_S, true_and, and_true, and_self, List.length_nil, List.length_cons, Nat.zero_add, x_K, x_Kn, Int.reduceToNat, Nat.reduceAdd, Nat.reduceMul, Nat.reduceLeDiff, Nat.reduceLT, Nat.zero_le, Int.reduceAdd, Int.reduceSub, Int.reduceMul, Int.reduceNeg, q_add_e, q_sub_e, q_mul_e, q_neg_e, q_upd_s, q_upd_n, zr_shr0, zr_shr1, zr_shr2, zr_shr3, zr_shr4, zr_and, zr_dyn8, zr_or, zr_shl, q_cpy_n, y_cpy26]
        exact hq0 M2 hf (hb0 c6)
      · simp (disch := omega) only [b_X6_between_0, x_loadR_0, x_loadS_0, x_loadI_1, x_iconst, y_ic_ne_t, y_ic_ne_f, b_X6_between_9, x_goto, b_X6_between_13, b_X6_between_17, f_6_25, y_if_le_t, y_if_le_f, b_X6_between_35, f_6_24, x_isub, y_iald_220, b_X6_between_53, x_ret1_0, x_ret1_1, q_isL_I, q_isL_R, q_isL_S, true_and, and_true, and_self, List.length_nil, List.length_cons, Nat.zero_add, x_K, x_Kn, Int.reduceToNat, Nat.reduceAdd, Nat.reduceMul, Nat.reduceLeDiff, Nat.reduceLT, Nat.zero_le, Int.reduceAdd, Int.reduceSub, Int.reduceMul, Int.reduceNeg, q_add_e, q_sub_e, q_mul_e, q_neg_e, q_upd_s, q_upd_n, zr_shr0, zr_shr1, zr_shr2, zr_shr3, zr_shr4, zr_and, zr_dyn8, zr_or, zr_shl, q_cpy_n, y_cpy26]
        exact aft M2 S2 hf (by omega) (hb c6) k
  · have u5 := Y_un_i hr H p O hi
    simp (disch := omega) only [b_X6_between_0, x_loadR_0, x_loadS_0, x_loadI_1, x_iconst, y_ic_ne_t, y_ic_ne_f, b_X6_between_9, x_goto, b_X6_between_13, b_X6_between_17, f_6_25, y_if_le_t, y_if_le_f, b_X6_between_35, f_6_24, x_isub, y_iald_220, b_X6_between_53, x_ret1_0, x_ret1_1, q_isL_I, q_isL_R, q_isL_S, true_and, and_true, and_self, List.length_nil, List.length_cons, Nat.zero_add, x_K, x_Kn, Int.reduceToNat, Nat.reduceAdd, Nat.reduceMul, Nat.reduceLeDiff, Nat.reduceLT, Nat.zero_le, Int.reduceAdd, Int.reduceSub, Int.reduceMul, Int.reduceNeg, q_add_e, q_sub_e, q_mul_e, q_neg_e, q_upd_s, q_upd_n, zr_shr0, zr_shr1, zr_shr2, zr_shr3, zr_shr4, zr_and, zr_dyn8, zr_or, zr_shl, q_cpy_n, y_cpy26, c_X6_rank]
    refine mp_rank ?_
    simp (disch := omega) only [b_X6_between_0, x_loadR_0, x_loadS_0, x_loadI_1, x_iconst, y_ic_ne_t, y_ic_ne_f, b_X6_between_9, x_goto, b_X6_between_13, b_X6_between_17, f_6_25, y_if_le_t, y_if_le_f, b_X6_between_35, f_6_24, x_isub, y_iald_220, b_X6_between_53, x_ret1_0, x_ret1_1, q_isL_I, q_isL_R, q_isL_S, true_and, and_true, and_self, List.length_nil, List.length_cons, Nat.zero_add, x_K, x_Kn, Int.reduceToNat, Nat.reduceAdd, Nat.reduceMul, Nat.reduceLeDiff, Nat.reduceLT, Nat.zero_le, Int.reduceAdd, Int.reduceSub, Int.reduceMul, Int.reduceNeg, q_add_e, q_sub_e, q_mul_e, q_neg_e, q_upd_s, q_upd_n, zr_shr0, zr_shr1, zr_shr2, zr_shr3, zr_shr4, zr_and, zr_dyn8, zr_or, zr_shl, q_cpy_n, y_cpy26, c_X6_unwinds]
    refine mp_unwindsX (S := (H, p, O)) (s := s) ht ht6 hs (by show H.length + O.length ≤ 160; omega) (by show -160 ≤ p ∧ p ≤ 160; omega) hM (fun M2 hf k => ?_)
    have hl2 : (Y_u (F_rank c) (H, p, O)).1.length + (Y_u (F_rank c) (H, p, O)).2.2.length ≤ a := u5.1.2.2.2.2.2.1
    have hb : Y_bt c (H, p, O) = some (c :: (Y_u (F_rank c) (H, p, O)).1, (Y_u (F_rank c) (H, p, O)).2.1, (Y_u (F_rank c) (H, p, O)).2.2) := by
      unfold Y_bt
      rw [if_neg (fun z => c4 z.1), if_neg c4]
    generalize Y_u (F_rank c) (H, p, O) = S2 at k hl2 hb
    simp (disch := omega) only [b_X6_between_0, x_loadR_0, x_loadS_0, x_loadI_1, x_iconst, y_ic_ne_t, y_ic_ne_f, b_X6_between_9, x_goto, b_X6_between_13, b_X6_between_17, f_6_25, y_if_le_t, y_if_le_f, b_X6_between_35, f_6_24, x_isub, y_iald_220, b_X6_between_53, x_ret1_0, x_ret1_1, q_isL_I, q_isL_R, q_isL_S, true_and, and_true, and_self, List.length_nil, List.length_cons, Nat.zero_add, x_K, x_Kn, Int.reduceToNat, Nat.reduceAdd, Nat.reduceMul, Nat.reduceLeDiff, Nat.reduceLT, Nat.zero_le, Int.reduceAdd, Int.reduceSub, Int.reduceMul, Int.reduceNeg, q_add_e, q_sub_e, q_mul_e, q_neg_e, q_upd_s, q_upd_n, zr_shr0, zr_shr1, zr_shr2, zr_shr3, zr_shr4, zr_and, zr_dyn8, zr_or, zr_shl, q_cpy_n, y_cpy26, c_X6_rank]
    refine mp_rank ?_
    simp (disch := omega) only [b_X6_between_0, x_loadR_0, x_loadS_0, x_loadI_1, x_iconst, y_ic_ne_t, y_ic_ne_f, b_X6_between_9, x_goto, b_X6_between_13, b_X6_between_17, f_6_25, y_if_le_t, y_if_le_f, b_X6_between_35, f_6_24, x_isub, y_iald_220, b_X6_between_53, x_ret1_0, x_ret1_1, q_isL_I, q_isL_R, q_isL_S, true_and, and_true, and_self, List.length_nil, List.length_cons, Nat.zero_add, x_K, x_Kn, Int.reduceToNat, Nat.reduceAdd, Nat.reduceMul, Nat.reduceLeDiff, Nat.reduceLT, Nat.zero_le, Int.reduceAdd, Int.reduceSub, Int.reduceMul, Int.reduceNeg, q_add_e, q_sub_e, q_mul_e, q_neg_e, q_upd_s, q_upd_n, zr_shr0, zr_shr1, zr_shr2, zr_shr3, zr_shr4, zr_and, zr_dyn8, zr_or, zr_shl, q_cpy_n, y_cpy26]
    exact aft M2 S2 hf (by omega) hb k
