section
/-! THE MODEL'S READER: what is held and put out, just so -/
def q_hL (Hm : Nat → Int) : List Int → Prop
  | [] => True
  | c :: H => Hm H.length = c ∧ q_hL Hm H
def q_oL (Om : Nat → Int) (O : List Int) : Prop := ∀ i, i < O.length → Om i = O.getD i 0
def q_yrd (tm : Nat) (S : q_Y) (M : q_M) : Prop := M 100 25 = S.1.length ∧ M 100 26 = S.2.1 ∧ M 100 27 = S.2.2.length ∧ q_hL (M 115) S.1 ∧ q_oL (fun i => M 106 (200 * tm + i)) S.2.2
theorem q_hL_c {Hm Hm2 : Nat → Int} : ∀ H : List Int, (∀ i, i < H.length → Hm2 i = Hm i) → q_hL Hm H → q_hL Hm2 H
  | [], _, _ => trivial
  | c :: H, h, k => ⟨(h H.length (by rw [List.length_cons]; omega)).trans k.1, q_hL_c H (fun i hi => h i (by rw [List.length_cons]; omega)) k.2⟩
theorem q_oL_c {Om Om2 : Nat → Int} {O : List Int} (h : ∀ i, i < O.length → Om2 i = Om i) (k : q_oL Om O) : q_oL Om2 O := fun i hi => (h i hi).trans (k i hi)
theorem q_oL_a {Om Om2 : Nat → Int} {O : List Int} {c : Int} (h : ∀ i, i < O.length → Om2 i = Om i) (h2 : Om2 O.length = c) (k : q_oL Om O) : q_oL Om2 (O ++ [c]) := by
  intro i hi
  rw [List.length_append] at hi
  have hi : i < O.length + 1 := hi
  by_cases e : i = O.length
  · rw [e, Y_gd]
    exact h2
  · rw [Y_gl (by omega), h i (by omega)]
    exact k i (by omega)
theorem q_yrd_c {tm : Nat} {S : q_Y} {M M2 : q_M} (h : ∀ a i, ((a = 100 ∧ (i = 25 ∨ i = 26 ∨ i = 27)) ∨ a = 115 ∨ a = 106) → M2 a i = M a i) (k : q_yrd tm S M) : q_yrd tm S M2 := ⟨(h 100 25 (by omega)).trans k.1, (h 100 26 (by omega)).trans k.2.1, (h 100 27 (by omega)).trans k.2.2.1, q_hL_c _ (fun i _ => h 115 i (by omega)) k.2.2.2.1, q_oL_c (fun i _ => h 106 _ (by omega)) k.2.2.2.2⟩
set_option maxHeartbeats 8000000 in
theorem mp_unwindsX {d tm s : Nat} {S : q_Y} {g : q_G} {M : q_M} {r : Int} {Q : Option q_V → q_G → q_M → Prop} (ht : M 100 10 = tm) (ht6 : tm < 6) (hs : s ≤ S.2.2.length) (hl : S.1.length + S.2.2.length ≤ 160) (hp : -160 ≤ S.2.1 ∧ S.2.1 ≤ 160) (hM : q_yrd tm S M) (hq : ∀ M2 : q_M, q_ufr tm s M M2 → q_yrd tm (Y_u r S) M2 → Q none g M2) : q_S 1 (d + 1) 127 [qR 6 100, qI r] g M Q := by
  obtain ⟨H0, p0, O0⟩ := S
  rw [s_X6_unwinds]
  have loop : ∀ (H : List Int) (p : Int) (O : List Int) (M1 : q_M) (l2 : q_V), q_isL l2 = false → q_ufr tm s M M1 → s ≤ O.length → H.length + O.length ≤ 160 → (H.length - 1000 ≤ p ∧ p ≤ 160) → q_yrd tm (H, p, O) M1 → (∀ M2 : q_M, q_ufr tm s M M2 → q_yrd tm (Y_un r H p O) M2 → Q none g M2) → q_T 1 (d + 1) qP_X6_unwinds 0 [] [qR 6 100, qI r, l2] [] g M1 Q := by
    intro H
    induction H with
    | nil =>
      intro p O M1 l2 i2 hf hs hl hp k hq
      have k1 : M1 100 25 = 0 := k.1
      rw [b_X6_unwinds_0]
      simp (disch := omega) only [x_loadR_0, x_loadS_0, f_6_25, y_if_le_t, y_if_le_f, b_X6_unwinds_7, f_6_24, x_iconst, x_isub, y_iald_220, x_loadI_1, y_ic_lt_t, y_ic_lt_f, b_X6_unwinds_25, x_dupI, x_dupR, p_6_25, x_storeI_2, f_6_26, x_loadI_2, y_ic_eq_t, y_ic_eq_f, b_X6_unwinds_56, y_ic_ne_t, y_ic_ne_f, b_X6_unwinds_62, x_goto, b_X6_unwinds_66, b_X6_unwinds_67, p_6_26, b_X6_unwinds_79, x_vret, q_isL_I, q_isL_R, q_isL_S, true_and, and_true, and_self, List.length_nil, List.length_cons, Nat.zero_add, x_K, x_Kn, Int.reduceToNat, Nat.reduceAdd, Nat.reduceMul, Nat.reduceLeDiff, Nat.reduceLT, Nat.zero_le, Int.reduceAdd, Int.reduceSub, Int.reduceMul, Int.reduceNeg, q_add_e, q_sub_e, q_mul_e, q_neg_e, q_upd_s, q_upd_n, zr_shr0, zr_shr1, zr_shr2, zr_shr3, zr_shr4, zr_and, zr_dyn8, zr_or, zr_shl, q_cpy_n, y_cpy26]
      exact hq M1 hf k
    | cons c H ih =>
      intro p O M1 l2 i2 hf hs hl hp k hq
      obtain ⟨k1, k2, k3, k4, k5⟩ := k
      simp only at k1 k2 k3 k4 k5
      rw [List.length_cons] at k1 hl hp
      generalize hx : H.length = x at k1 hl hp
      have kc : M1 115 x = c := by rw [← hx]; exact k4.1
      generalize ho : O.length = o at k3 hl hs
      have e10 : M1 100 10 = tm := (hf 100 10 (by omega) (by omega) (by omega)).trans ht
      have t1 : (((x + 1 : Nat) : Int) - 1).toNat = x := by omega
      rw [Y_un] at hq
      rw [b_X6_unwinds_0]
      simp (disch := omega) only [x_loadR_0, x_loadS_0, f_6_25, y_if_le_t, y_if_le_f, b_X6_unwinds_7, f_6_24, x_iconst, x_isub, y_iald_220, x_loadI_1, y_ic_lt_t, y_ic_lt_f, b_X6_unwinds_25, x_dupI, x_dupR, p_6_25, x_storeI_2, f_6_26, x_loadI_2, y_ic_eq_t, y_ic_eq_f, b_X6_unwinds_56, y_ic_ne_t, y_ic_ne_f, b_X6_unwinds_62, x_goto, b_X6_unwinds_66, b_X6_unwinds_67, p_6_26, b_X6_unwinds_79, x_vret, q_isL_I, q_isL_R, q_isL_S, true_and, and_true, and_self, List.length_nil, List.length_cons, Nat.zero_add, x_K, x_Kn, Int.reduceToNat, Nat.reduceAdd, Nat.reduceMul, Nat.reduceLeDiff, Nat.reduceLT, Nat.zero_le, Int.reduceAdd, Int.reduceSub, Int.reduceMul, Int.reduceNeg, q_add_e, q_sub_e, q_mul_e, q_neg_e, q_upd_s, q_upd_n, zr_shr0, zr_shr1, zr_shr2, zr_shr3, zr_shr4, zr_and, zr_dyn8, zr_or, zr_shl, q_cpy_n, y_cpy26, k1, t1, c_X6_rank]
      refine mp_rank ?_
      rw [kc]
      by_cases cc : F_rank c < r
      · rw [if_pos cc] at hq
        simp (disch := omega) only [x_loadR_0, x_loadS_0, f_6_25, y_if_le_t, y_if_le_f, b_X6_unwinds_7, f_6_24, x_iconst, x_isub, y_iald_220, x_loadI_1, y_ic_lt_t, y_ic_lt_f, b_X6_unwinds_25, x_dupI, x_dupR, p_6_25, x_storeI_2, f_6_26, x_loadI_2, y_ic_eq_t, y_ic_eq_f, b_X6_unwinds_56, y_ic_ne_t, y_ic_ne_f, b_X6_unwinds_62, x_goto, b_X6_unwinds_66, b_X6_unwinds_67, p_6_26, b_X6_unwinds_79, x_vret, q_isL_I, q_isL_R, q_isL_S, true_and, and_true, and_self, List.length_nil, List.length_cons, Nat.zero_add, x_K, x_Kn, Int.reduceToNat, Nat.reduceAdd, Nat.reduceMul, Nat.reduceLeDiff, Nat.reduceLT, Nat.zero_le, Int.reduceAdd, Int.reduceSub, Int.reduceMul, Int.reduceNeg, q_add_e, q_sub_e, q_mul_e, q_neg_e, q_upd_s, q_upd_n, zr_shr0, zr_shr1, zr_shr2, zr_shr3, zr_shr4, zr_and, zr_dyn8, zr_or, zr_shl, q_cpy_n, y_cpy26]
        exact hq M1 hf ⟨by rw [k1, ← hx, List.length_cons], k2, by rw [k3, ← ho], k4, k5⟩
      · rw [if_neg cc] at hq
        have e1 : ((x + 1 : Nat) : Int) - 1 = x := by omega
        have fin : ∀ v : Int, v = (if c = 13 ∨ c = 19 then p - 1 else p) → q_T 1 (d + 1) qP_X6_unwinds 0 [] [qR 6 100, qI r, qI c] [] g (q_upd (q_upd (q_upd (q_upd M1 100 25 x) 100 26 v) 106 (200 * tm + o) c) 100 27 ((o : Int) + 1)) Q := by
          intro v hv
          have el : (O ++ [c]).length = o + 1 := by rw [List.length_append, ho]; rfl
          refine ih v (O ++ [c]) _ _ rfl (q_ufr_up (q_ufr_up (q_ufr_up (q_ufr_up hf (by omega)) (by omega)) (by omega)) (by omega)) (by omega) (by omega) (by rw [hx]; split at hv <;> omega) ⟨?_, ?_, ?_, ?_, ?_⟩ ?_
          · simp (disch := omega) only [q_upd_n, q_upd_s]
            rw [hx]
          · simp (disch := omega) only [q_upd_n, q_upd_s]
          · simp (disch := omega) only [q_upd_n, q_upd_s]
            omega
          · exact q_hL_c H (fun i _ => by simp (disch := omega) only [q_upd_n]) k4.2
          · exact q_oL_a (fun i hi => by simp (disch := omega) only [q_upd_n]) (by rw [ho]; simp (disch := omega) only [q_upd_n, q_upd_s]) k5
          · rw [hv]
            exact hq
        by_cases c2 : c = 13
        · simp (disch := omega) only [x_loadR_0, x_loadS_0, f_6_25, y_if_le_t, y_if_le_f, b_X6_unwinds_7, f_6_24, x_iconst, x_isub, y_iald_220, x_loadI_1, y_ic_lt_t, y_ic_lt_f, b_X6_unwinds_25, x_dupI, x_dupR, p_6_25, x_storeI_2, f_6_26, x_loadI_2, y_ic_eq_t, y_ic_eq_f, b_X6_unwinds_56, y_ic_ne_t, y_ic_ne_f, b_X6_unwinds_62, x_goto, b_X6_unwinds_66, b_X6_unwinds_67, p_6_26, b_X6_unwinds_79, x_vret, q_isL_I, q_isL_R, q_isL_S, true_and, and_true, and_self, List.length_nil, List.length_cons, Nat.zero_add, x_K, x_Kn, Int.reduceToNat, Nat.reduceAdd, Nat.reduceMul, Nat.reduceLeDiff, Nat.reduceLT, Nat.zero_le, Int.reduceAdd, Int.reduceSub, Int.reduceMul, Int.reduceNeg, q_add_e, q_sub_e, q_mul_e, q_neg_e, q_upd_s, q_upd_n, zr_shr0, zr_shr1, zr_shr2, zr_shr3, zr_shr4, zr_and, zr_dyn8, zr_or, zr_shl, q_cpy_n, y_cpy26, k1, e1, Int.toNat_natCast, i2, c_X6_puts, kc]
          refine mp_puts (tm := tm) (o := o) (by simp (disch := omega) only [q_upd_n]; exact e10) ht6 (by simp (disch := omega) only [q_upd_n]; exact k3) (by omega) ?_
          simp (disch := omega) only [x_loadR_0, x_loadS_0, f_6_25, y_if_le_t, y_if_le_f, b_X6_unwinds_7, f_6_24, x_iconst, x_isub, y_iald_220, x_loadI_1, y_ic_lt_t, y_ic_lt_f, b_X6_unwinds_25, x_dupI, x_dupR, p_6_25, x_storeI_2, f_6_26, x_loadI_2, y_ic_eq_t, y_ic_eq_f, b_X6_unwinds_56, y_ic_ne_t, y_ic_ne_f, b_X6_unwinds_62, x_goto, b_X6_unwinds_66, b_X6_unwinds_67, p_6_26, b_X6_unwinds_79, x_vret, q_isL_I, q_isL_R, q_isL_S, true_and, and_true, and_self, List.length_nil, List.length_cons, Nat.zero_add, x_K, x_Kn, Int.reduceToNat, Nat.reduceAdd, Nat.reduceMul, Nat.reduceLeDiff, Nat.reduceLT, Nat.zero_le, Int.reduceAdd, Int.reduceSub, Int.reduceMul, Int.reduceNeg, q_add_e, q_sub_e, q_mul_e, q_neg_e, q_upd_s, q_upd_n, zr_shr0, zr_shr1, zr_shr2, zr_shr3, zr_shr4, zr_and, zr_dyn8, zr_or, zr_shl, q_cpy_n, y_cpy26]
          exact fin _ (by rw [if_pos (Or.inl c2), k2])
        · by_cases c3 : c = 19
          · simp (disch := omega) only [x_loadR_0, x_loadS_0, f_6_25, y_if_le_t, y_if_le_f, b_X6_unwinds_7, f_6_24, x_iconst, x_isub, y_iald_220, x_loadI_1, y_ic_lt_t, y_ic_lt_f, b_X6_unwinds_25, x_dupI, x_dupR, p_6_25, x_storeI_2, f_6_26, x_loadI_2, y_ic_eq_t, y_ic_eq_f, b_X6_unwinds_56, y_ic_ne_t, y_ic_ne_f, b_X6_unwinds_62, x_goto, b_X6_unwinds_66, b_X6_unwinds_67, p_6_26, b_X6_unwinds_79, x_vret, q_isL_I, q_isL_R, q_isL_S, true_and, and_true, and_self, List.length_nil, List.length_cons, Nat.zero_add, x_K, x_Kn, Int.reduceToNat, Nat.reduceAdd, Nat.reduceMul, Nat.reduceLeDiff, Nat.reduceLT, Nat.zero_le, Int.reduceAdd, Int.reduceSub, Int.reduceMul, Int.reduceNeg, q_add_e, q_sub_e, q_mul_e, q_neg_e, q_upd_s, q_upd_n, zr_shr0, zr_shr1, zr_shr2, zr_shr3, zr_shr4, zr_and, zr_dyn8, zr_or, zr_shl, q_cpy_n, y_cpy26, k1, e1, Int.toNat_natCast, i2, c_X6_puts, kc]
            refine mp_puts (tm := tm) (o := o) (by simp (disch := omega) only [q_upd_n]; exact e10) ht6 (by simp (disch := omega) only [q_upd_n]; exact k3) (by omega) ?_
            simp (disch := omega) only [x_loadR_0, x_loadS_0, f_6_25, y_if_le_t, y_if_le_f, b_X6_unwinds_7, f_6_24, x_iconst, x_isub, y_iald_220, x_loadI_1, y_ic_lt_t, y_ic_lt_f, b_X6_unwinds_25, x_dupI, x_dupR, p_6_25, x_storeI_2, f_6_26, x_loadI_2, y_ic_eq_t, y_ic_eq_f, b_X6_unwinds_56, y_ic_ne_t, y_ic_ne_f, b_X6_unwinds_62, x_goto, b_X6_unwinds_66, b_X6_unwinds_67, p_6_26, b_X6_unwinds_79, x_vret, q_isL_I, q_isL_R, q_isL_S, true_and, and_true, and_self, List.length_nil, List.length_cons, Nat.zero_add, x_K, x_Kn, Int.reduceToNat, Nat.reduceAdd, Nat.reduceMul, Nat.reduceLeDiff, Nat.reduceLT, Nat.zero_le, Int.reduceAdd, Int.reduceSub, Int.reduceMul, Int.reduceNeg, q_add_e, q_sub_e, q_mul_e, q_neg_e, q_upd_s, q_upd_n, zr_shr0, zr_shr1, zr_shr2, zr_shr3, zr_shr4, zr_and, zr_dyn8, zr_or, zr_shl, q_cpy_n, y_cpy26]
            exact fin _ (by rw [if_pos (Or.inr c3), k2])
          · simp (disch := omega) only [x_loadR_0, x_loadS_0, f_6_25, y_if_le_t, y_if_le_f, b_X6_unwinds_7, f_6_24, x_iconst, x_isub, y_iald_220, x_loadI_1, y_ic_lt_t, y_ic_lt_f, b_X6_unwinds_25, x_dupI, x_dupR, p_6_25, x_storeI_2, f_6_26, x_loadI_2, y_ic_eq_t, y_ic_eq_f, b_X6_unwinds_56, y_ic_ne_t, y_ic_ne_f, b_X6_unwinds_62, x_goto, b_X6_unwinds_66, b_X6_unwinds_67, p_6_26, b_X6_unwinds_79, x_vret, q_isL_I, q_isL_R, q_isL_S, true_and, and_true, and_self, List.length_nil, List.length_cons, Nat.zero_add, x_K, x_Kn, Int.reduceToNat, Nat.reduceAdd, Nat.reduceMul, Nat.reduceLeDiff, Nat.reduceLT, Nat.zero_le, Int.reduceAdd, Int.reduceSub, Int.reduceMul, Int.reduceNeg, q_add_e, q_sub_e, q_mul_e, q_neg_e, q_upd_s, q_upd_n, zr_shr0, zr_shr1, zr_shr2, zr_shr3, zr_shr4, zr_and, zr_dyn8, zr_or, zr_shl, q_cpy_n, y_cpy26, k1, e1, Int.toNat_natCast, i2, c_X6_puts, kc]
            refine mp_puts (tm := tm) (o := o) (by simp (disch := omega) only [q_upd_n]; exact e10) ht6 (by simp (disch := omega) only [q_upd_n]; exact k3) (by omega) ?_
            simp (disch := omega) only [x_loadR_0, x_loadS_0, f_6_25, y_if_le_t, y_if_le_f, b_X6_unwinds_7, f_6_24, x_iconst, x_isub, y_iald_220, x_loadI_1, y_ic_lt_t, y_ic_lt_f, b_X6_unwinds_25, x_dupI, x_dupR, p_6_25, x_storeI_2, f_6_26, x_loadI_2, y_ic_eq_t, y_ic_eq_f, b_X6_unwinds_56, y_ic_ne_t, y_ic_ne_f, b_X6_unwinds_62, x_goto, b_X6_unwinds_66, b_X6_unwinds_67, p_6_26, b_X6_unwinds_79, x_vret, q_isL_I, q_isL_R, q_isL_S, true_and, and_true, and_self, List.length_nil, List.length_cons, Nat.zero_add, x_K, x_Kn, Int.reduceToNat, Nat.reduceAdd, Nat.reduceMul, Nat.reduceLeDiff, Nat.reduceLT, Nat.zero_le, Int.reduceAdd, Int.reduceSub, Int.reduceMul, Int.reduceNeg, q_add_e, q_sub_e, q_mul_e, q_neg_e, q_upd_s, q_upd_n, zr_shr0, zr_shr1, zr_shr2, zr_shr3, zr_shr4, zr_and, zr_dyn8, zr_or, zr_shl, q_cpy_n, y_cpy26]
            exact fin _ (by rw [if_neg (fun z => z.elim c2 c3), k2, Int.sub_zero])
  exact loop H0 p0 O0 M _ rfl q_ufr_rf hs hl (by have h1 : H0.length + O0.length ≤ 160 := hl; have h2 : -160 ≤ p0 ∧ p0 ≤ 160 := hp; omega) hM hq
theorem mp_opensOneX {d h : Nat} {g : q_G} {M : q_M} {c : Int} {Q : Option q_V → q_G → q_M → Prop} (hh : M 100 25 = h) (hh2 : h < 200) (hp : -200 ≤ M 100 26 ∧ M 100 26 ≤ 200) (hq0 : M 100 26 = 5 → Q (some (qI 0)) g M) (hq1 : M 100 26 ≠ 5 → Q (some (qI 1)) g (q_upd (q_upd (q_upd M 100 26 (M 100 26 + 1)) 115 h c) 100 25 ((h : Int) + 1))) : q_S 1 (d + 1) 129 [qR 6 100, qI c] g M Q := by
  rw [s_X6_opensOne]
  by_cases k : M 100 26 = 5
  · simp (disch := omega) only [b_X6_opensOne_0, x_loadR_0, x_loadS_0, f_6_26, x_iconst, y_ic_ne_t, y_ic_ne_f, b_X6_opensOne_8, x_ret1_0, x_ret1_1, b_X6_opensOne_10, x_dupI, x_dupR, x_iadd, p_6_26, x_loadI_1, q_isL_I, q_isL_R, q_isL_S, true_and, and_true, and_self, List.length_nil, List.length_cons, Nat.zero_add, x_K, x_Kn, Int.reduceToNat, Nat.reduceAdd, Nat.reduceMul, Nat.reduceLeDiff, Nat.reduceLT, Nat.zero_le, Int.reduceAdd, Int.reduceSub, Int.reduceMul, Int.reduceNeg, q_add_e, q_sub_e, q_mul_e, q_neg_e, q_upd_s, q_upd_n, zr_shr0, zr_shr1, zr_shr2, zr_shr3, zr_shr4, zr_and, zr_dyn8, zr_or, zr_shl, q_cpy_n, y_cpy26]
    exact hq0 k
  · simp (disch := omega) only [b_X6_opensOne_0, x_loadR_0, x_loadS_0, f_6_26, x_iconst, y_ic_ne_t, y_ic_ne_f, b_X6_opensOne_8, x_ret1_0, x_ret1_1, b_X6_opensOne_10, x_dupI, x_dupR, x_iadd, p_6_26, x_loadI_1, q_isL_I, q_isL_R, q_isL_S, true_and, and_true, and_self, List.length_nil, List.length_cons, Nat.zero_add, x_K, x_Kn, Int.reduceToNat, Nat.reduceAdd, Nat.reduceMul, Nat.reduceLeDiff, Nat.reduceLT, Nat.zero_le, Int.reduceAdd, Int.reduceSub, Int.reduceMul, Int.reduceNeg, q_add_e, q_sub_e, q_mul_e, q_neg_e, q_upd_s, q_upd_n, zr_shr0, zr_shr1, zr_shr2, zr_shr3, zr_shr4, zr_and, zr_dyn8, zr_or, zr_shl, q_cpy_n, y_cpy26, c_X6_holds]
    refine mp_holds (h := h) (by rw [q_upd_n (by omega)]; exact hh) hh2 ?_
    simp (disch := omega) only [b_X6_opensOne_0, x_loadR_0, x_loadS_0, f_6_26, x_iconst, y_ic_ne_t, y_ic_ne_f, b_X6_opensOne_8, x_ret1_0, x_ret1_1, b_X6_opensOne_10, x_dupI, x_dupR, x_iadd, p_6_26, x_loadI_1, q_isL_I, q_isL_R, q_isL_S, true_and, and_true, and_self, List.length_nil, List.length_cons, Nat.zero_add, x_K, x_Kn, Int.reduceToNat, Nat.reduceAdd, Nat.reduceMul, Nat.reduceLeDiff, Nat.reduceLT, Nat.zero_le, Int.reduceAdd, Int.reduceSub, Int.reduceMul, Int.reduceNeg, q_add_e, q_sub_e, q_mul_e, q_neg_e, q_upd_s, q_upd_n, zr_shr0, zr_shr1, zr_shr2, zr_shr3, zr_shr4, zr_and, zr_dyn8, zr_or, zr_shl, q_cpy_n, y_cpy26]
    exact hq1 k
set_option maxHeartbeats 4000000 in
theorem mp_signOfX {d : Nat} {g : q_G} {M : q_M} {t : Int} {Q : Option q_V → q_G → q_M → Prop} (h21 : M 100 21 = Y_t t) (htr : (-10 ≤ t ∧ t ≤ -1) ∨ t = 40 ∨ t = 41 ∨ t = 59 ∨ t = 43 ∨ t = 45 ∨ t = 42 ∨ t = 60 ∨ t = 61) (hq : Q (some (qI (Y_sg t))) g M) : q_S 1 d 131 [qR 6 100] g M Q := by
  rw [s_X6_signOf]
  have hv : (if M 100 21 = 4 then (11 : Int) else if M 100 21 = 5 then 12 else if M 100 21 = 60 then 14 else if M 100 21 = 61 then 15 else if M 100 21 = 43 then 16 else if M 100 21 = 45 then 17 else if M 100 21 = 42 then 18 else -1) = Y_sg t := by
    rw [h21]
    rcases (show t = -10 ∨ t = -9 ∨ t = -8 ∨ t = -7 ∨ t = -6 ∨ t = -5 ∨ t = -4 ∨ t = -3 ∨ t = -2 ∨ t = -1 ∨ t = 40 ∨ t = 41 ∨ t = 59 ∨ t = 43 ∨ t = 45 ∨ t = 42 ∨ t = 60 ∨ t = 61 by omega) with e | e | e | e | e | e | e | e | e | e | e | e | e | e | e | e | e | e <;> rw [e] <;> decide
  rw [← hv] at hq
  clear hv
  simp (disch := omega) only [b_X6_signOf_0, x_loadR_0, x_loadS_0, f_6_21, x_iconst, y_ic_ne_t, y_ic_ne_f, b_X6_signOf_8, x_goto, b_X6_signOf_13, b_X6_signOf_21, b_X6_signOf_26, b_X6_signOf_35, b_X6_signOf_40, b_X6_signOf_49, b_X6_signOf_54, b_X6_signOf_63, b_X6_signOf_68, b_X6_signOf_77, b_X6_signOf_82, b_X6_signOf_91, b_X6_signOf_96, b_X6_signOf_97, x_ret0, q_isL_I, q_isL_R, q_isL_S, true_and, and_true, and_self, List.length_nil, List.length_cons, Nat.zero_add, x_K, x_Kn, Int.reduceToNat, Nat.reduceAdd, Nat.reduceMul, Nat.reduceLeDiff, Nat.reduceLT, Nat.zero_le, Int.reduceAdd, Int.reduceSub, Int.reduceMul, Int.reduceNeg, q_add_e, q_sub_e, q_mul_e, q_neg_e, q_upd_s, q_upd_n, zr_shr0, zr_shr1, zr_shr2, zr_shr3, zr_shr4, zr_and, zr_dyn8, zr_or, zr_shl, q_cpy_n, y_cpy26]
  refine y_ic_ne (fun h1 => ?_) (fun h1 => ?_)
  rotate_left
  · rw [if_pos (by omega)] at hq
    simp (disch := omega) only [b_X6_signOf_0, x_loadR_0, x_loadS_0, f_6_21, x_iconst, y_ic_ne_t, y_ic_ne_f, b_X6_signOf_8, x_goto, b_X6_signOf_13, b_X6_signOf_21, b_X6_signOf_26, b_X6_signOf_35, b_X6_signOf_40, b_X6_signOf_49, b_X6_signOf_54, b_X6_signOf_63, b_X6_signOf_68, b_X6_signOf_77, b_X6_signOf_82, b_X6_signOf_91, b_X6_signOf_96, b_X6_signOf_97, x_ret0, q_isL_I, q_isL_R, q_isL_S, true_and, and_true, and_self, List.length_nil, List.length_cons, Nat.zero_add, x_K, x_Kn, Int.reduceToNat, Nat.reduceAdd, Nat.reduceMul, Nat.reduceLeDiff, Nat.reduceLT, Nat.zero_le, Int.reduceAdd, Int.reduceSub, Int.reduceMul, Int.reduceNeg, q_add_e, q_sub_e, q_mul_e, q_neg_e, q_upd_s, q_upd_n, zr_shr0, zr_shr1, zr_shr2, zr_shr3, zr_shr4, zr_and, zr_dyn8, zr_or, zr_shl, q_cpy_n, y_cpy26]
    exact hq
  rw [if_neg (by omega)] at hq
  simp (disch := omega) only [b_X6_signOf_0, x_loadR_0, x_loadS_0, f_6_21, x_iconst, y_ic_ne_t, y_ic_ne_f, b_X6_signOf_8, x_goto, b_X6_signOf_13, b_X6_signOf_21, b_X6_signOf_26, b_X6_signOf_35, b_X6_signOf_40, b_X6_signOf_49, b_X6_signOf_54, b_X6_signOf_63, b_X6_signOf_68, b_X6_signOf_77, b_X6_signOf_82, b_X6_signOf_91, b_X6_signOf_96, b_X6_signOf_97, x_ret0, q_isL_I, q_isL_R, q_isL_S, true_and, and_true, and_self, List.length_nil, List.length_cons, Nat.zero_add, x_K, x_Kn, Int.reduceToNat, Nat.reduceAdd, Nat.reduceMul, Nat.reduceLeDiff, Nat.reduceLT, Nat.zero_le, Int.reduceAdd, Int.reduceSub, Int.reduceMul, Int.reduceNeg, q_add_e, q_sub_e, q_mul_e, q_neg_e, q_upd_s, q_upd_n, zr_shr0, zr_shr1, zr_shr2, zr_shr3, zr_shr4, zr_and, zr_dyn8, zr_or, zr_shl, q_cpy_n, y_cpy26]
  refine y_ic_ne (fun h2 => ?_) (fun h2 => ?_)
  rotate_left
  · rw [if_pos (by omega)] at hq
    simp (disch := omega) only [b_X6_signOf_0, x_loadR_0, x_loadS_0, f_6_21, x_iconst, y_ic_ne_t, y_ic_ne_f, b_X6_signOf_8, x_goto, b_X6_signOf_13, b_X6_signOf_21, b_X6_signOf_26, b_X6_signOf_35, b_X6_signOf_40, b_X6_signOf_49, b_X6_signOf_54, b_X6_signOf_63, b_X6_signOf_68, b_X6_signOf_77, b_X6_signOf_82, b_X6_signOf_91, b_X6_signOf_96, b_X6_signOf_97, x_ret0, q_isL_I, q_isL_R, q_isL_S, true_and, and_true, and_self, List.length_nil, List.length_cons, Nat.zero_add, x_K, x_Kn, Int.reduceToNat, Nat.reduceAdd, Nat.reduceMul, Nat.reduceLeDiff, Nat.reduceLT, Nat.zero_le, Int.reduceAdd, Int.reduceSub, Int.reduceMul, Int.reduceNeg, q_add_e, q_sub_e, q_mul_e, q_neg_e, q_upd_s, q_upd_n, zr_shr0, zr_shr1, zr_shr2, zr_shr3, zr_shr4, zr_and, zr_dyn8, zr_or, zr_shl, q_cpy_n, y_cpy26]
    exact hq
  rw [if_neg (by omega)] at hq
  simp (disch := omega) only [b_X6_signOf_0, x_loadR_0, x_loadS_0, f_6_21, x_iconst, y_ic_ne_t, y_ic_ne_f, b_X6_signOf_8, x_goto, b_X6_signOf_13, b_X6_signOf_21, b_X6_signOf_26, b_X6_signOf_35, b_X6_signOf_40, b_X6_signOf_49, b_X6_signOf_54, b_X6_signOf_63, b_X6_signOf_68, b_X6_signOf_77, b_X6_signOf_82, b_X6_signOf_91, b_X6_signOf_96, b_X6_signOf_97, x_ret0, q_isL_I, q_isL_R, q_isL_S, true_and, and_true, and_self, List.length_nil, List.length_cons, Nat.zero_add, x_K, x_Kn, Int.reduceToNat, Nat.reduceAdd, Nat.reduceMul, Nat.reduceLeDiff, Nat.reduceLT, Nat.zero_le, Int.reduceAdd, Int.reduceSub, Int.reduceMul, Int.reduceNeg, q_add_e, q_sub_e, q_mul_e, q_neg_e, q_upd_s, q_upd_n, zr_shr0, zr_shr1, zr_shr2, zr_shr3, zr_shr4, zr_and, zr_dyn8, zr_or, zr_shl, q_cpy_n, y_cpy26]
  refine y_ic_ne (fun h3 => ?_) (fun h3 => ?_)
  rotate_left
  · rw [if_pos (by omega)] at hq
    simp (disch := omega) only [b_X6_signOf_0, x_loadR_0, x_loadS_0, f_6_21, x_iconst, y_ic_ne_t, y_ic_ne_f, b_X6_signOf_8, x_goto, b_X6_signOf_13, b_X6_signOf_21, b_X6_signOf_26, b_X6_signOf_35, b_X6_signOf_40, b_X6_signOf_49, b_X6_signOf_54, b_X6_signOf_63, b_X6_signOf_68, b_X6_signOf_77, b_X6_signOf_82, b_X6_signOf_91, b_X6_signOf_96, b_X6_signOf_97, x_ret0, q_isL_I, q_isL_R, q_isL_S, true_and, and_true, and_self, List.length_nil, List.length_cons, Nat.zero_add, x_K, x_Kn, Int.reduceToNat, Nat.reduceAdd, Nat.reduceMul, Nat.reduceLeDiff, Nat.reduceLT, Nat.zero_le, Int.reduceAdd, Int.reduceSub, Int.reduceMul, Int.reduceNeg, q_add_e, q_sub_e, q_mul_e, q_neg_e, q_upd_s, q_upd_n, zr_shr0, zr_shr1, zr_shr2, zr_shr3, zr_shr4, zr_and, zr_dyn8, zr_or, zr_shl, q_cpy_n, y_cpy26]
    exact hq
  rw [if_neg (by omega)] at hq
  simp (disch := omega) only [b_X6_signOf_0, x_loadR_0, x_loadS_0, f_6_21, x_iconst, y_ic_ne_t, y_ic_ne_f, b_X6_signOf_8, x_goto, b_X6_signOf_13, b_X6_signOf_21, b_X6_signOf_26, b_X6_signOf_35, b_X6_signOf_40, b_X6_signOf_49, b_X6_signOf_54, b_X6_signOf_63, b_X6_signOf_68, b_X6_signOf_77, b_X6_signOf_82, b_X6_signOf_91, b_X6_signOf_96, b_X6_signOf_97, x_ret0, q_isL_I, q_isL_R, q_isL_S, true_and, and_true, and_self, List.length_nil, List.length_cons, Nat.zero_add, x_K, x_Kn, Int.reduceToNat, Nat.reduceAdd, Nat.reduceMul, Nat.reduceLeDiff, Nat.reduceLT, Nat.zero_le, Int.reduceAdd, Int.reduceSub, Int.reduceMul, Int.reduceNeg, q_add_e, q_sub_e, q_mul_e, q_neg_e, q_upd_s, q_upd_n, zr_shr0, zr_shr1, zr_shr2, zr_shr3, zr_shr4, zr_and, zr_dyn8, zr_or, zr_shl, q_cpy_n, y_cpy26]
  refine y_ic_ne (fun h4 => ?_) (fun h4 => ?_)
  rotate_left
  · rw [if_pos (by omega)] at hq
    simp (disch := omega) only [b_X6_signOf_0, x_loadR_0, x_loadS_0, f_6_21, x_iconst, y_ic_ne_t, y_ic_ne_f, b_X6_signOf_8, x_goto, b_X6_signOf_13, b_X6_signOf_21, b_X6_signOf_26, b_X6_signOf_35, b_X6_signOf_40, b_X6_signOf_49, b_X6_signOf_54, b_X6_signOf_63, b_X6_signOf_68, b_X6_signOf_77, b_X6_signOf_82, b_X6_signOf_91, b_X6_signOf_96, b_X6_signOf_97, x_ret0, q_isL_I, q_isL_R, q_isL_S, true_and, and_true, and_self, List.length_nil, List.length_cons, Nat.zero_add, x_K, x_Kn, Int.reduceToNat, Nat.reduceAdd, Nat.reduceMul, Nat.reduceLeDiff, Nat.reduceLT, Nat.zero_le, Int.reduceAdd, Int.reduceSub, Int.reduceMul, Int.reduceNeg, q_add_e, q_sub_e, q_mul_e, q_neg_e, q_upd_s, q_upd_n, zr_shr0, zr_shr1, zr_shr2, zr_shr3, zr_shr4, zr_and, zr_dyn8, zr_or, zr_shl, q_cpy_n, y_cpy26]
    exact hq
  rw [if_neg (by omega)] at hq
  simp (disch := omega) only [b_X6_signOf_0, x_loadR_0, x_loadS_0, f_6_21, x_iconst, y_ic_ne_t, y_ic_ne_f, b_X6_signOf_8, x_goto, b_X6_signOf_13, b_X6_signOf_21, b_X6_signOf_26, b_X6_signOf_35, b_X6_signOf_40, b_X6_signOf_49, b_X6_signOf_54, b_X6_signOf_63, b_X6_signOf_68, b_X6_signOf_77, b_X6_signOf_82, b_X6_signOf_91, b_X6_signOf_96, b_X6_signOf_97, x_ret0, q_isL_I, q_isL_R, q_isL_S, true_and, and_true, and_self, List.length_nil, List.length_cons, Nat.zero_add, x_K, x_Kn, Int.reduceToNat, Nat.reduceAdd, Nat.reduceMul, Nat.reduceLeDiff, Nat.reduceLT, Nat.zero_le, Int.reduceAdd, Int.reduceSub, Int.reduceMul, Int.reduceNeg, q_add_e, q_sub_e, q_mul_e, q_neg_e, q_upd_s, q_upd_n, zr_shr0, zr_shr1, zr_shr2, zr_shr3, zr_shr4, zr_and, zr_dyn8, zr_or, zr_shl, q_cpy_n, y_cpy26]
  refine y_ic_ne (fun h5 => ?_) (fun h5 => ?_)
  rotate_left
  · rw [if_pos (by omega)] at hq
    simp (disch := omega) only [b_X6_signOf_0, x_loadR_0, x_loadS_0, f_6_21, x_iconst, y_ic_ne_t, y_ic_ne_f, b_X6_signOf_8, x_goto, b_X6_signOf_13, b_X6_signOf_21, b_X6_signOf_26, b_X6_signOf_35, b_X6_signOf_40, b_X6_signOf_49, b_X6_signOf_54, b_X6_signOf_63, b_X6_signOf_68, b_X6_signOf_77, b_X6_signOf_82, b_X6_signOf_91, b_X6_signOf_96, b_X6_signOf_97, x_ret0, q_isL_I, q_isL_R, q_isL_S, true_and, and_true, and_self, List.length_nil, List.length_cons, Nat.zero_add, x_K, x_Kn, Int.reduceToNat, Nat.reduceAdd, Nat.reduceMul, Nat.reduceLeDiff, Nat.reduceLT, Nat.zero_le, Int.reduceAdd, Int.reduceSub, Int.reduceMul, Int.reduceNeg, q_add_e, q_sub_e, q_mul_e, q_neg_e, q_upd_s, q_upd_n, zr_shr0, zr_shr1, zr_shr2, zr_shr3, zr_shr4, zr_and, zr_dyn8, zr_or, zr_shl, q_cpy_n, y_cpy26]
    exact hq
  rw [if_neg (by omega)] at hq
  simp (disch := omega) only [b_X6_signOf_0, x_loadR_0, x_loadS_0, f_6_21, x_iconst, y_ic_ne_t, y_ic_ne_f, b_X6_signOf_8, x_goto, b_X6_signOf_13, b_X6_signOf_21, b_X6_signOf_26, b_X6_signOf_35, b_X6_signOf_40, b_X6_signOf_49, b_X6_signOf_54, b_X6_signOf_63, b_X6_signOf_68, b_X6_signOf_77, b_X6_signOf_82, b_X6_signOf_91, b_X6_signOf_96, b_X6_signOf_97, x_ret0, q_isL_I, q_isL_R, q_isL_S, true_and, and_true, and_self, List.length_nil, List.length_cons, Nat.zero_add, x_K, x_Kn, Int.reduceToNat, Nat.reduceAdd, Nat.reduceMul, Nat.reduceLeDiff, Nat.reduceLT, Nat.zero_le, Int.reduceAdd, Int.reduceSub, Int.reduceMul, Int.reduceNeg, q_add_e, q_sub_e, q_mul_e, q_neg_e, q_upd_s, q_upd_n, zr_shr0, zr_shr1, zr_shr2, zr_shr3, zr_shr4, zr_and, zr_dyn8, zr_or, zr_shl, q_cpy_n, y_cpy26]
  refine y_ic_ne (fun h6 => ?_) (fun h6 => ?_)
  rotate_left
  · rw [if_pos (by omega)] at hq
    simp (disch := omega) only [b_X6_signOf_0, x_loadR_0, x_loadS_0, f_6_21, x_iconst, y_ic_ne_t, y_ic_ne_f, b_X6_signOf_8, x_goto, b_X6_signOf_13, b_X6_signOf_21, b_X6_signOf_26, b_X6_signOf_35, b_X6_signOf_40, b_X6_signOf_49, b_X6_signOf_54, b_X6_signOf_63, b_X6_signOf_68, b_X6_signOf_77, b_X6_signOf_82, b_X6_signOf_91, b_X6_signOf_96, b_X6_signOf_97, x_ret0, q_isL_I, q_isL_R, q_isL_S, true_and, and_true, and_self, List.length_nil, List.length_cons, Nat.zero_add, x_K, x_Kn, Int.reduceToNat, Nat.reduceAdd, Nat.reduceMul, Nat.reduceLeDiff, Nat.reduceLT, Nat.zero_le, Int.reduceAdd, Int.reduceSub, Int.reduceMul, Int.reduceNeg, q_add_e, q_sub_e, q_mul_e, q_neg_e, q_upd_s, q_upd_n, zr_shr0, zr_shr1, zr_shr2, zr_shr3, zr_shr4, zr_and, zr_dyn8, zr_or, zr_shl, q_cpy_n, y_cpy26]
    exact hq
  rw [if_neg (by omega)] at hq
  simp (disch := omega) only [b_X6_signOf_0, x_loadR_0, x_loadS_0, f_6_21, x_iconst, y_ic_ne_t, y_ic_ne_f, b_X6_signOf_8, x_goto, b_X6_signOf_13, b_X6_signOf_21, b_X6_signOf_26, b_X6_signOf_35, b_X6_signOf_40, b_X6_signOf_49, b_X6_signOf_54, b_X6_signOf_63, b_X6_signOf_68, b_X6_signOf_77, b_X6_signOf_82, b_X6_signOf_91, b_X6_signOf_96, b_X6_signOf_97, x_ret0, q_isL_I, q_isL_R, q_isL_S, true_and, and_true, and_self, List.length_nil, List.length_cons, Nat.zero_add, x_K, x_Kn, Int.reduceToNat, Nat.reduceAdd, Nat.reduceMul, Nat.reduceLeDiff, Nat.reduceLT, Nat.zero_le, Int.reduceAdd, Int.reduceSub, Int.reduceMul, Int.reduceNeg, q_add_e, q_sub_e, q_mul_e, q_neg_e, q_upd_s, q_upd_n, zr_shr0, zr_shr1, zr_shr2, zr_shr3, zr_shr4, zr_and, zr_dyn8, zr_or, zr_shl, q_cpy_n, y_cpy26]
  refine y_ic_ne (fun h7 => ?_) (fun h7 => ?_)
  · rw [if_neg (by omega)] at hq
    simp (disch := omega) only [b_X6_signOf_0, x_loadR_0, x_loadS_0, f_6_21, x_iconst, y_ic_ne_t, y_ic_ne_f, b_X6_signOf_8, x_goto, b_X6_signOf_13, b_X6_signOf_21, b_X6_signOf_26, b_X6_signOf_35, b_X6_signOf_40, b_X6_signOf_49, b_X6_signOf_54, b_X6_signOf_63, b_X6_signOf_68, b_X6_signOf_77, b_X6_signOf_82, b_X6_signOf_91, b_X6_signOf_96, b_X6_signOf_97, x_ret0, q_isL_I, q_isL_R, q_isL_S, true_and, and_true, and_self, List.length_nil, List.length_cons, Nat.zero_add, x_K, x_Kn, Int.reduceToNat, Nat.reduceAdd, Nat.reduceMul, Nat.reduceLeDiff, Nat.reduceLT, Nat.zero_le, Int.reduceAdd, Int.reduceSub, Int.reduceMul, Int.reduceNeg, q_add_e, q_sub_e, q_mul_e, q_neg_e, q_upd_s, q_upd_n, zr_shr0, zr_shr1, zr_shr2, zr_shr3, zr_shr4, zr_and, zr_dyn8, zr_or, zr_shl, q_cpy_n, y_cpy26]
    exact hq
  · rw [if_pos (by omega)] at hq
    simp (disch := omega) only [b_X6_signOf_0, x_loadR_0, x_loadS_0, f_6_21, x_iconst, y_ic_ne_t, y_ic_ne_f, b_X6_signOf_8, x_goto, b_X6_signOf_13, b_X6_signOf_21, b_X6_signOf_26, b_X6_signOf_35, b_X6_signOf_40, b_X6_signOf_49, b_X6_signOf_54, b_X6_signOf_63, b_X6_signOf_68, b_X6_signOf_77, b_X6_signOf_82, b_X6_signOf_91, b_X6_signOf_96, b_X6_signOf_97, x_ret0, q_isL_I, q_isL_R, q_isL_S, true_and, and_true, and_self, List.length_nil, List.length_cons, Nat.zero_add, x_K, x_Kn, Int.reduceToNat, Nat.reduceAdd, Nat.reduceMul, Nat.reduceLeDiff, Nat.reduceLT, Nat.zero_le, Int.reduceAdd, Int.reduceSub, Int.reduceMul, Int.reduceNeg, q_add_e, q_sub_e, q_mul_e, q_neg_e, q_upd_s, q_upd_n, zr_shr0, zr_shr1, zr_shr2, zr_shr3, zr_shr4, zr_and, zr_dyn8, zr_or, zr_shl, q_cpy_n, y_cpy26]
    exact hq
theorem q_yrd_tp {tm x : Nat} {H : List Int} {p : Int} {O : List Int} {M : q_M} (hx : H.length = x + 1) (k : q_yrd tm (H, p, O) M) : F_rank (M 115 x) = Y_tp H := by
  cases H with
  | nil => exact absurd hx (by show ¬(0 = x + 1); omega)
  | cons c H =>
    rw [List.length_cons] at hx
    have h : M 115 H.length = c := k.2.2.2.1.1
    rw [show x = H.length by omega, h]
    rfl
set_option maxHeartbeats 8000000 in
theorem mp_betweenX {d tm s a : Nat} {S : q_Y} {g : q_G} {M : q_M} {c : Int} {Q : Option q_V → q_G → q_M → Prop} (ht : M 100 10 = tm) (ht6 : tm < 6) (ha : a ≤ 160) (hc : q_bi c) (hi : q_Yi s a 0 S) (hM : q_yrd tm S M) (hq0 : ∀ M2, q_ufr tm s M M2 → Y_bt c S = none → Q (some (qI 0)) g M2) (hq1 : ∀ (M2 : q_M) (S2 : q_Y), q_ufr tm s M M2 → Y_bt c S = some S2 → q_yrd tm S2 M2 → Q (some (qI 1)) g M2) : q_S 1 (d + 2) 130 [qR 6 100, qI c] g M Q := by
  obtain ⟨H, p, O⟩ := S
  have hr := (q_bi_ne hc).2.2.2
  have hop : Y_op H ≤ 5 := hi.2.1
  have hp : p = Y_op H := hi.1
  have hs : s ≤ O.length := hi.2.2.2.2.1
  have hl : H.length + O.length ≤ a := hi.2.2.2.2.2.1
  rw [s_X6_between]
  have aft : ∀ (M2 : q_M) (S2 : q_Y), q_ufr tm s M M2 → S2.1.length + S2.2.2.length ≤ 160 → Y_bt c (H, p, O) = some (c :: S2.1, S2.2.1, S2.2.2) → q_yrd tm S2 M2 → q_T 1 (d + 2) qP_X6_between 55 [] [qR 6 100, qI c] [] g M2 Q := by
    intro M2 S2 hf hl2 hb k
    have k1 := k.1
    generalize hx : S2.1.length = x at k1 hl2
    rw [b_X6_between_55]
    simp (disch := omega) only [b_X6_between_0, x_loadR_0, x_loadS_0, x_loadI_1, x_iconst, y_ic_ne_t, y_ic_ne_f, b_X6_between_9, x_goto, b_X6_between_13, b_X6_between_17, b_X6_between_28, f_6_25, y_if_le_t, y_if_le_f, b_X6_between_35, f_6_24, x_isub, y_iald_220, b_X6_between_53, x_ret1_0, x_ret1_1, q_isL_I, q_isL_R, q_isL_S, true_and, and_true, and_self, List.length_nil, List.length_cons, Nat.zero_add, x_K, x_Kn, Int.reduceToNat, Nat.reduceAdd, Nat.reduceMul, Nat.reduceLeDiff, Nat.reduceLT, Nat.zero_le, Int.reduceAdd, Int.reduceSub, Int.reduceMul, Int.reduceNeg, q_add_e, q_sub_e, q_mul_e, q_neg_e, q_upd_s, q_upd_n, zr_shr0, zr_shr1, zr_shr2, zr_shr3, zr_shr4, zr_and, zr_dyn8, zr_or, zr_shl, q_cpy_n, y_cpy26, c_X6_holds]
    refine mp_holds (h := x) k1 (by omega) ?_
    simp (disch := omega) only [b_X6_between_0, x_loadR_0, x_loadS_0, x_loadI_1, x_iconst, y_ic_ne_t, y_ic_ne_f, b_X6_between_9, x_goto, b_X6_between_13, b_X6_between_17, b_X6_between_28, f_6_25, y_if_le_t, y_if_le_f, b_X6_between_35, f_6_24, x_isub, y_iald_220, b_X6_between_53, x_ret1_0, x_ret1_1, q_isL_I, q_isL_R, q_isL_S, true_and, and_true, and_self, List.length_nil, List.length_cons, Nat.zero_add, x_K, x_Kn, Int.reduceToNat, Nat.reduceAdd, Nat.reduceMul, Nat.reduceLeDiff, Nat.reduceLT, Nat.zero_le, Int.reduceAdd, Int.reduceSub, Int.reduceMul, Int.reduceNeg, q_add_e, q_sub_e, q_mul_e, q_neg_e, q_upd_s, q_upd_n, zr_shr0, zr_shr1, zr_shr2, zr_shr3, zr_shr4, zr_and, zr_dyn8, zr_or, zr_shl, q_cpy_n, y_cpy26]
    refine hq1 _ _ (q_ufr_up (q_ufr_up hf (by omega)) (by omega)) hb ⟨?_, ?_, ?_, ⟨?_, ?_⟩, ?_⟩
    · show _ = (((c :: S2.1).length : Nat) : Int)
      rw [List.length_cons, hx]
      simp (disch := omega) only [q_upd_s]
      omega
    · simp (disch := omega) only [q_upd_n]
      exact k.2.1
    · simp (disch := omega) only [q_upd_n]
      exact k.2.2.1
    · rw [hx]
      simp (disch := omega) only [q_upd_n, q_upd_s]
    · exact q_hL_c _ (fun i hi => by simp (disch := omega) only [q_upd_n]) k.2.2.2.1
    · exact q_oL_c (fun i hi => by simp (disch := omega) only [q_upd_n]) k.2.2.2.2
  simp (disch := omega) only [b_X6_between_0, x_loadR_0, x_loadS_0, x_loadI_1, x_iconst, y_ic_ne_t, y_ic_ne_f, b_X6_between_9, x_goto, b_X6_between_13, b_X6_between_17, f_6_25, y_if_le_t, y_if_le_f, b_X6_between_35, f_6_24, x_isub, y_iald_220, b_X6_between_53, x_ret1_0, x_ret1_1, q_isL_I, q_isL_R, q_isL_S, true_and, and_true, and_self, List.length_nil, List.length_cons, Nat.zero_add, x_K, x_Kn, Int.reduceToNat, Nat.reduceAdd, Nat.reduceMul, Nat.reduceLeDiff, Nat.reduceLT, Nat.zero_le, Int.reduceAdd, Int.reduceSub, Int.reduceMul, Int.reduceNeg, q_add_e, q_sub_e, q_mul_e, q_neg_e, q_upd_s, q_upd_n, zr_shr0, zr_shr1, zr_shr2, zr_shr3, zr_shr4, zr_and, zr_dyn8, zr_or, zr_shl, q_cpy_n, y_cpy26, c_X6_rank]
  refine mp_rank ?_
  by_cases c4 : F_rank c = 4
  · have u5 := Y_un_i (r := 5) (by decide) H p O hi
    simp (disch := omega) only [b_X6_between_0, x_loadR_0, x_loadS_0, x_loadI_1, x_iconst, y_ic_ne_t, y_ic_ne_f, b_X6_between_9, x_goto, b_X6_between_13, b_X6_between_17, f_6_25, y_if_le_t, y_if_le_f, b_X6_between_35, f_6_24, x_isub, y_iald_220, b_X6_between_53, x_ret1_0, x_ret1_1, q_isL_I, q_isL_R, q_isL_S, true_and, and_true, and_self, List.length_nil, List.length_cons, Nat.zero_add, x_K, x_Kn, Int.reduceToNat, Nat.reduceAdd, Nat.reduceMul, Nat.reduceLeDiff, Nat.reduceLT, Nat.zero_le, Int.reduceAdd, Int.reduceSub, Int.reduceMul, Int.reduceNeg, q_add_e, q_sub_e, q_mul_e, q_neg_e, q_upd_s, q_upd_n, zr_shr0, zr_shr1, zr_shr2, zr_shr3, zr_shr4, zr_and, zr_dyn8, zr_or, zr_shl, q_cpy_n, y_cpy26, c_X6_unwinds]
    refine mp_unwindsX (S := (H, p, O)) (s := s) ht ht6 hs (by show H.length + O.length ≤ 160; omega) (by show -160 ≤ p ∧ p ≤ 160; omega) hM (fun M2 hf k => ?_)
    have hl2 : (Y_u 5 (H, p, O)).1.length + (Y_u 5 (H, p, O)).2.2.length ≤ a := u5.1.2.2.2.2.2.1
    have hb : ¬(Y_tp (Y_u 5 (H, p, O)).1 = 4) → Y_bt c (H, p, O) = some (c :: (Y_u 5 (H, p, O)).1, (Y_u 5 (H, p, O)).2.1, (Y_u 5 (H, p, O)).2.2) := by
      intro q
      unfold Y_bt
      rw [if_neg (fun z => q z.2), if_pos c4]
    have hb0 : Y_tp (Y_u 5 (H, p, O)).1 = 4 → Y_bt c (H, p, O) = none := by
      intro q
      unfold Y_bt
      rw [if_pos ⟨c4, q⟩]
    generalize Y_u 5 (H, p, O) = S2 at k hl2 hb hb0
    simp (disch := omega) only [b_X6_between_0, x_loadR_0, x_loadS_0, x_loadI_1, x_iconst, y_ic_ne_t, y_ic_ne_f, b_X6_between_9, x_goto, b_X6_between_13, b_X6_between_17, f_6_25, y_if_le_t, y_if_le_f, b_X6_between_35, f_6_24, x_isub, y_iald_220, b_X6_between_53, x_ret1_0, x_ret1_1, q_isL_I, q_isL_R, q_isL_S, true_and, and_true, and_self, List.length_nil, List.length_cons, Nat.zero_add, x_K, x_Kn, Int.reduceToNat, Nat.reduceAdd, Nat.reduceMul, Nat.reduceLeDiff, Nat.reduceLT, Nat.zero_le, Int.reduceAdd, Int.reduceSub, Int.reduceMul, Int.reduceNeg, q_add_e, q_sub_e, q_mul_e, q_neg_e, q_upd_s, q_upd_n, zr_shr0, zr_shr1, zr_shr2, zr_shr3, zr_shr4, zr_and, zr_dyn8, zr_or, zr_shl, q_cpy_n, y_cpy26, c_X6_rank]
    refine mp_rank ?_
    simp (disch := omega) only [b_X6_between_0, x_loadR_0, x_loadS_0, x_loadI_1, x_iconst, y_ic_ne_t, y_ic_ne_f, b_X6_between_9, x_goto, b_X6_between_13, b_X6_between_17, f_6_25, y_if_le_t, y_if_le_f, b_X6_between_35, f_6_24, x_isub, y_iald_220, b_X6_between_53, x_ret1_0, x_ret1_1, q_isL_I, q_isL_R, q_isL_S, true_and, and_true, and_self, List.length_nil, List.length_cons, Nat.zero_add, x_K, x_Kn, Int.reduceToNat, Nat.reduceAdd, Nat.reduceMul, Nat.reduceLeDiff, Nat.reduceLT, Nat.zero_le, Int.reduceAdd, Int.reduceSub, Int.reduceMul, Int.reduceNeg, q_add_e, q_sub_e, q_mul_e, q_neg_e, q_upd_s, q_upd_n, zr_shr0, zr_shr1, zr_shr2, zr_shr3, zr_shr4, zr_and, zr_dyn8, zr_or, zr_shl, q_cpy_n, y_cpy26]
    have k1 := k.1
    rw [b_X6_between_28]
    generalize hx : S2.1.length = x at k1 hl2
    by_cases c5 : x = 0
    · have : ¬Y_tp S2.1 = 4 := by
        rw [List.length_eq_zero_iff.mp (hx.trans c5)]
        decide
      simp (disch := omega) only [b_X6_between_0, x_loadR_0, x_loadS_0, x_loadI_1, x_iconst, y_ic_ne_t, y_ic_ne_f, b_X6_between_9, x_goto, b_X6_between_13, b_X6_between_17, f_6_25, y_if_le_t, y_if_le_f, b_X6_between_35, f_6_24, x_isub, y_iald_220, b_X6_between_53, x_ret1_0, x_ret1_1, q_isL_I, q_isL_R, q_isL_S, true_and, and_true, and_self, List.length_nil, List.length_cons, Nat.zero_add, x_K, x_Kn, Int.reduceToNat, Nat.reduceAdd, Nat.reduceMul, Nat.reduceLeDiff, Nat.reduceLT, Nat.zero_le, Int.reduceAdd, Int.reduceSub, Int.reduceMul, Int.reduceNeg, q_add_e, q_sub_e, q_mul_e, q_neg_e, q_upd_s, q_upd_n, zr_shr0, zr_shr1, zr_shr2, zr_shr3, zr_shr4, zr_and, zr_dyn8, zr_or, zr_shl, q_cpy_n, y_cpy26, k1]
      exact aft M2 S2 hf (by omega) (hb this) k
    · have t1 : ((x : Int) - 1).toNat = x - 1 := by omega
      have tp := q_yrd_tp (tm := tm) (x := x - 1) (H := S2.1) (p := S2.2.1) (O := S2.2.2) (by omega) k
      simp (disch := omega) only [b_X6_between_0, x_loadR_0, x_loadS_0, x_loadI_1, x_iconst, y_ic_ne_t, y_ic_ne_f, b_X6_between_9, x_goto, b_X6_between_13, b_X6_between_17, f_6_25, y_if_le_t, y_if_le_f, b_X6_between_35, f_6_24, x_isub, y_iald_220, b_X6_between_53, x_ret1_0, x_ret1_1, q_isL_I, q_isL_R, q_isL_S, true_and, and_true, and_self, List.length_nil, List.length_cons, Nat.zero_add, x_K, x_Kn, Int.reduceToNat, Nat.reduceAdd, Nat.reduceMul, Nat.reduceLeDiff, Nat.reduceLT, Nat.zero_le, Int.reduceAdd, Int.reduceSub, Int.reduceMul, Int.reduceNeg, q_add_e, q_sub_e, q_mul_e, q_neg_e, q_upd_s, q_upd_n, zr_shr0, zr_shr1, zr_shr2, zr_shr3, zr_shr4, zr_and, zr_dyn8, zr_or, zr_shl, q_cpy_n, y_cpy26, k1, t1, c_X6_rank]
      refine mp_rank ?_
      rw [tp]
      by_cases c6 : Y_tp S2.1 = 4
      · simp (disch := omega) only [b_X6_between_0, x_loadR_0, x_loadS_0, x_loadI_1, x_iconst, y_ic_ne_t, y_ic_ne_f, b_X6_between_9, x_goto, b_X6_between_13, b_X6_between_17, f_6_25, y_if_le_t, y_if_le_f, b_X6_between_35, f_6_24, x_isub, y_iald_220, b_X6_between_53, x_ret1_0, x_ret1_1, q_isL_I, q_isL_R, q_isL_S, true_and, and_true, and_self, List.length_nil, List.length_cons, Nat.zero_add, x_K, x_Kn, Int.reduceToNat, Nat.reduceAdd, Nat.reduceMul, Nat.reduceLeDiff, Nat.reduceLT, Nat.zero_le, Int.reduceAdd, Int.reduceSub, Int.reduceMul, Int.reduceNeg, q_add_e, q_sub_e, q_mul_e, q_neg_e, q_upd_s, q_upd_n, zr_shr0, zr_shr1, zr_shr2, zr_shr3, zr_shr4, zr_and, zr_dyn8, zr_or, zr_shl, q_cpy_n, y_cpy26]
        exact hq0 M2 hf (hb0 c6)
      · simp (disch := omega) only [b_X6_between_0, x_loadR_0, x_loadS_0, x_loadI_1, x_iconst, y_ic_ne_t, y_ic_ne_f, b_X6_between_9, x_goto, b_X6_between_13, b_X6_between_17, f_6_25, y_if_le_t, y_if_le_f, b_X6_between_35, f_6_24, x_isub, y_iald_220, b_X6_between_53, x_ret1_0, x_ret1_1, q_isL_I, q_isL_R, q_isL_S, true_and, and_true, and_self, List.length_nil, List.length_cons, Nat.zero_add, x_K, x_Kn, Int.reduceToNat, Nat.reduceAdd, Nat.reduceMul, Nat.reduceLeDiff, Nat.reduceLT, Nat.zero_le, Int.reduceAdd, Int.reduceSub, Int.reduceMul, Int.reduceNeg, q_add_e, q_sub_e, q_mul_e, q_neg_e, q_upd_s, q_upd_n, zr_shr0, zr_shr1, zr_shr2, zr_shr3, zr_shr4, zr_and, zr_dyn8, zr_or, zr_shl, q_cpy_n, y_cpy26]
        exact aft M2 S2 hf (by omega) (hb c6) k
  · have u5 := Y_un_i hr H p O hi
    simp (disch := omega) only [b_X6_between_0, x_loadR_0, x_loadS_0, x_loadI_1, x_iconst, y_ic_ne_t, y_ic_ne_f, b_X6_between_9, x_goto, b_X6_between_13, b_X6_between_17, f_6_25, y_if_le_t, y_if_le_f, b_X6_between_35, f_6_24, x_isub, y_iald_220, b_X6_between_53, x_ret1_0, x_ret1_1, q_isL_I, q_isL_R, q_isL_S, true_and, and_true, and_self, List.length_nil, List.length_cons, Nat.zero_add, x_K, x_Kn, Int.reduceToNat, Nat.reduceAdd, Nat.reduceMul, Nat.reduceLeDiff, Nat.reduceLT, Nat.zero_le, Int.reduceAdd, Int.reduceSub, Int.reduceMul, Int.reduceNeg, q_add_e, q_sub_e, q_mul_e, q_neg_e, q_upd_s, q_upd_n, zr_shr0, zr_shr1, zr_shr2, zr_shr3, zr_shr4, zr_and, zr_dyn8, zr_or, zr_shl, q_cpy_n, y_cpy26, c_X6_rank]
    refine mp_rank ?_
    simp (disch := omega) only [b_X6_between_0, x_loadR_0, x_loadS_0, x_loadI_1, x_iconst, y_ic_ne_t, y_ic_ne_f, b_X6_between_9, x_goto, b_X6_between_13, b_X6_between_17, f_6_25, y_if_le_t, y_if_le_f, b_X6_between_35, f_6_24, x_isub, y_iald_220, b_X6_between_53, x_ret1_0, x_ret1_1, q_isL_I, q_isL_R, q_isL_S, true_and, and_true, and_self, List.length_nil, List.length_cons, Nat.zero_add, x_K, x_Kn, Int.reduceToNat, Nat.reduceAdd, Nat.reduceMul, Nat.reduceLeDiff, Nat.reduceLT, Nat.zero_le, Int.reduceAdd, Int.reduceSub, Int.reduceMul, Int.reduceNeg, q_add_e, q_sub_e, q_mul_e, q_neg_e, q_upd_s, q_upd_n, zr_shr0, zr_shr1, zr_shr2, zr_shr3, zr_shr4, zr_and, zr_dyn8, zr_or, zr_shl, q_cpy_n, y_cpy26, c_X6_unwinds]
    refine mp_unwindsX (S := (H, p, O)) (s := s) ht ht6 hs (by show H.length + O.length ≤ 160; omega) (by show -160 ≤ p ∧ p ≤ 160; omega) hM (fun M2 hf k => ?_)
    have hl2 : (Y_u (F_rank c) (H, p, O)).1.length + (Y_u (F_rank c) (H, p, O)).2.2.length ≤ a := u5.1.2.2.2.2.2.1
    have hb : Y_bt c (H, p, O) = some (c :: (Y_u (F_rank c) (H, p, O)).1, (Y_u (F_rank c) (H, p, O)).2.1, (Y_u (F_rank c) (H, p, O)).2.2) := by
      unfold Y_bt
      rw [if_neg (fun z => c4 z.1), if_neg c4]
    generalize Y_u (F_rank c) (H, p, O) = S2 at k hl2 hb
    simp (disch := omega) only [b_X6_between_0, x_loadR_0, x_loadS_0, x_loadI_1, x_iconst, y_ic_ne_t, y_ic_ne_f, b_X6_between_9, x_goto, b_X6_between_13, b_X6_between_17, f_6_25, y_if_le_t, y_if_le_f, b_X6_between_35, f_6_24, x_isub, y_iald_220, b_X6_between_53, x_ret1_0, x_ret1_1, q_isL_I, q_isL_R, q_isL_S, true_and, and_true, and_self, List.length_nil, List.length_cons, Nat.zero_add, x_K, x_Kn, Int.reduceToNat, Nat.reduceAdd, Nat.reduceMul, Nat.reduceLeDiff, Nat.reduceLT, Nat.zero_le, Int.reduceAdd, Int.reduceSub, Int.reduceMul, Int.reduceNeg, q_add_e, q_sub_e, q_mul_e, q_neg_e, q_upd_s, q_upd_n, zr_shr0, zr_shr1, zr_shr2, zr_shr3, zr_shr4, zr_and, zr_dyn8, zr_or, zr_shl, q_cpy_n, y_cpy26, c_X6_rank]
    refine mp_rank ?_
    simp (disch := omega) only [b_X6_between_0, x_loadR_0, x_loadS_0, x_loadI_1, x_iconst, y_ic_ne_t, y_ic_ne_f, b_X6_between_9, x_goto, b_X6_between_13, b_X6_between_17, f_6_25, y_if_le_t, y_if_le_f, b_X6_between_35, f_6_24, x_isub, y_iald_220, b_X6_between_53, x_ret1_0, x_ret1_1, q_isL_I, q_isL_R, q_isL_S, true_and, and_true, and_self, List.length_nil, List.length_cons, Nat.zero_add, x_K, x_Kn, Int.reduceToNat, Nat.reduceAdd, Nat.reduceMul, Nat.reduceLeDiff, Nat.reduceLT, Nat.zero_le, Int.reduceAdd, Int.reduceSub, Int.reduceMul, Int.reduceNeg, q_add_e, q_sub_e, q_mul_e, q_neg_e, q_upd_s, q_upd_n, zr_shr0, zr_shr1, zr_shr2, zr_shr3, zr_shr4, zr_and, zr_dyn8, zr_or, zr_shl, q_cpy_n, y_cpy26]
    exact aft M2 S2 hf (by omega) hb k
end
section
/-! THE MODEL'S READER: an expression, just so -/
theorem Y_t_i {t : Int} (htr : (-10 ≤ t ∧ t ≤ -1) ∨ t = 40 ∨ t = 41 ∨ t = 59 ∨ t = 43 ∨ t = 45 ∨ t = 42 ∨ t = 60 ∨ t = 61) : (Y_t t = 1 ↔ t = -3) ∧ (Y_t t = 2 ↔ t = -4) ∧ (Y_t t = 3 ↔ (t = -5 ∨ t = -6 ∨ t = -7)) ∧ (Y_t t = 6 ↔ t = -10) ∧ (Y_t t = 45 ↔ t = 45) ∧ (Y_t t = 40 ↔ t = 40) ∧ (Y_t t = 59 ↔ t = 59) ∧ (Y_t t = 41 ↔ t = 41) ∧ (Y_t t = 0 ↔ t = -2) := by
  rcases (show t = -10 ∨ t = -9 ∨ t = -8 ∨ t = -7 ∨ t = -6 ∨ t = -5 ∨ t = -4 ∨ t = -3 ∨ t = -2 ∨ t = -1 ∨ t = 40 ∨ t = 41 ∨ t = 59 ∨ t = 43 ∨ t = 45 ∨ t = 42 ∨ t = 60 ∨ t = 61 by omega) with e | e | e | e | e | e | e | e | e | e | e | e | e | e | e | e | e | e <;> rw [e] <;> decide
def Y_b (b : Bool) : Int := if b = true then 1 else 0
set_option maxHeartbeats 16000000 in
theorem mp_eReadX {d tm n at0 : Nat} {O0 : List Int} {r : q_Yr} {g : q_G} {M : q_M} {Q : Option q_V → q_G → q_M → Prop} (hwd : q_mwd M) (ht : M 100 10 = tm) (ht6 : tm < 6) (hs : M 100 27 = O0.length) (ho : q_oL (fun i => M 106 (200 * tm + i)) O0) (hn : M 100 7 = n) (hn2 : n ≤ 160) (h19 : M 100 19 = at0) (h0 : at0 ≤ n) (hsa : O0.length ≤ at0) (hr : Y_ev (M 105) n (true, true, ([], 0, O0), at0) r)
    (hq : ∀ M2 : q_M, q_efr tm O0.length M M2 → M2 100 20 = r.2.1 → (r.1 = true → M2 100 27 = r.2.2.2.length ∧ M2 100 19 = r.2.2.1 ∧ q_oL (fun i => M2 106 (200 * tm + i)) r.2.2.2) → Q (some (qI (Y_b r.1))) g M2) : q_S 1 (d + 3) 132 [qR 6 100] g M Q := by
  obtain ⟨kf, hkf⟩ := hr
  generalize hsl : O0.length = s at *
  rw [s_X6_eRead]
  have loop : ∀ (k : Nat) (w my : Bool) (H : List Int) (p : Int) (O : List Int) (a : Nat) (M1 : q_M) (l3 : q_V), q_isL l3 = false → Y_rd (M 105) n k (w, my, (H, p, O), a) = some r → q_Yic s (w, my, (H, p, O), a) → a ≤ n → q_yrd tm (H, p, O) M1 → q_efr tm s M M1 → M1 100 19 = a → q_T 1 (d + 3) qP_X6_eRead 14 [] [qR 6 100, qI (Y_b w), qI (Y_b my), l3] [] g M1 Q := by
    intro k
    induction k with
    | zero =>
      intro w my H p O a M1 l3 i3 hrd
      rw [Y_rd] at hrd
      exact absurd hrd (by simp)
    | succ k ih =>
      intro w my H p O a M1 l3 i3 hrd hic han hy hf e19
      have e10 : M1 100 10 = tm := (hf 100 10 (by omega) (by omega) (by omega)).trans ht
      have e7 : M1 100 7 = n := (hf 100 7 (by omega) (by omega) (by omega)).trans hn
      have e5 : M1 105 = M 105 := funext (fun i => hf 105 i (by omega) (by omega) (by omega))
      have ewd : q_mwd M1 := fun w c h1 h2 => (hf 114 _ (by omega) (by omega) (by omega)).trans (hwd w c h1 h2)
      have L := L_ok (T := M 105) han
      obtain ⟨l1, l2, l3', l4, l5, l6, l7, l8⟩ := L
      have sti := Y_st_i (T := M 105) (n := n) han hic
      rw [Y_rd] at hrd
      rw [b_X6_eRead_14]
      simp (disch := omega) only [b_X6_eRead_0, x_loadR_0, x_loadS_0, x_iconst, p_6_25, p_6_26, x_storeI_1, x_storeI_2, x_loadI_1, y_if_eq_t, y_if_eq_f, b_X6_eRead_22, f_6_21, y_ic_eq_t, y_ic_eq_f, b_X6_eRead_30, y_ic_ne_t, y_ic_ne_f, b_X6_eRead_38, b_X6_eRead_47, f_6_22, x_iadd, x_goto, b_X6_eRead_57, b_X6_eRead_61, b_X6_eRead_75, b_X6_eRead_84, x_loadI_2, b_X6_eRead_88, y_if_ne_t, y_if_ne_f, b_X6_eRead_97, x_ret1_0, x_ret1_1, b_X6_eRead_99, b_X6_eRead_108, b_X6_eRead_117, b_X6_eRead_119, b_X6_eRead_124, b_X6_eRead_133, b_X6_eRead_141, b_X6_eRead_143, b_X6_eRead_148, b_X6_eRead_150, b_X6_eRead_159, f_6_25, b_X6_eRead_171, b_X6_eRead_175, b_X6_eRead_176, b_X6_eRead_177, b_X6_eRead_186, b_X6_eRead_198, b_X6_eRead_200, x_dupI, x_dupR, x_isub, f_6_26, b_X6_eRead_229, x_storeI_3, x_loadI_3, b_X6_eRead_239, b_X6_eRead_247, b_X6_eRead_249, y_ic_gt_t, y_ic_gt_f, b_X6_eRead_257, b_X6_eRead_261, b_X6_eRead_262, q_isL_I, q_isL_R, q_isL_S, true_and, and_true, and_self, List.length_nil, List.length_cons, Nat.zero_add, x_K, x_Kn, Int.reduceToNat, Nat.reduceAdd, Nat.reduceMul, Nat.reduceLeDiff, Nat.reduceLT, Nat.zero_le, Int.reduceAdd, Int.reduceSub, Int.reduceMul, Int.reduceNeg, q_add_e, q_sub_e, q_mul_e, q_neg_e, q_upd_s, q_upd_n, zr_shr0, zr_shr1, zr_shr2, zr_shr3, zr_shr4, zr_and, zr_dyn8, zr_or, zr_shl, q_cpy_n, y_cpy26, c_X6_next]
      refine mp_nextX (d := d + 1) ewd e7 hn2 e19 han (fun M2 hn3 g19 g20 g21 g22 => ?_)
      rw [e5] at g19 g20 g21 g22
      have hf2 := q_efr_tr hf (q_efr_n (tm := tm) (s := s) hn3)
      have hy2 : q_yrd tm (H, p, O) M2 := q_yrd_c (fun b i hb => hn3 b i (by omega)) hy
      have g10 : M2 100 10 = tm := (hn3 100 10 (by omega)).trans e10
      have k25 : M2 100 25 = H.length := hy2.1
      have k26 : M2 100 26 = p := hy2.2.1
      have k27 : M2 100 27 = O.length := hy2.2.2.1
      have hic' := hic
      obtain ⟨hyi, hmy⟩ := hic'
      have hlen : H.length + O.length ≤ a := hyi.2.2.2.2.2.1
      have hop : Y_op H ≤ 5 := hyi.2.1
      have hpo : p = Y_op H := hyi.1
      have hso : s ≤ O.length := hyi.2.2.2.2.1
      have ti := Y_t_i l6
      rw [← g21] at ti
      obtain ⟨ti1, ti2, ti3, ti6, ti45, ti40, ti59, ti41, ti0⟩ := ti
      have sgo : ∀ Q2 : Option q_V → q_G → q_M → Prop, Q2 (some (qI (Y_sg (L_t (M 105) n a)))) g M2 → q_S 1 (d + 2) 131 [qR 6 100] g M2 Q2 := fun Q2 h => mp_signOfX g21 l6 h
      generalize htt : L_t (M 105) n a = t at *
      generalize hhl : H.length = h at k25 hlen
      generalize hol : O.length = o at k27 hlen hso
      have bad : Y_st (M 105) n (w, my, (H, p, O), a) = Y_bd (M 105) n a → ∀ M3 : q_M, q_ufr tm s M2 M3 → Q (some (qI 0)) g M3 := by
        intro hst M3 hf3
        rw [hst] at hrd
        injection hrd with hrd
        have h20 : M3 100 20 = (L_i (M 105) n a : Nat) := (hf3 100 20 (by omega) (by omega) (by omega)).trans g20
        rw [← hrd] at hq
        exact hq M3 (q_efr_tr hf2 (q_efr_u hf3)) h20 (fun z => absurd (show false = true from z) (by decide))
      have again : ∀ (w2 my2 : Bool) (H2 : List Int) (p2 : Int) (O2 : List Int), Y_st (M 105) n (w, my, (H, p, O), a) = .inl (w2, my2, (H2, p2, O2), L_b (M 105) n a) → ∀ (M3 : q_M) (l3 : q_V), q_isL l3 = false → q_ufr tm s M2 M3 → q_yrd tm (H2, p2, O2) M3 → q_T 1 (d + 3) qP_X6_eRead 14 [] [qR 6 100, qI (Y_b w2), qI (Y_b my2), l3] [] g M3 Q := by
        intro w2 my2 H2 p2 O2 hst M3 l3 i3 hf3 hy3
        rw [hst] at hrd
        have h2 := sti.1 _ hst
        exact ih w2 my2 H2 p2 O2 (L_b (M 105) n a) M3 l3 i3 hrd h2.1 h2.2 hy3 (q_efr_tr hf2 (q_efr_u hf3)) ((hf3 100 19 (by omega) (by omega) (by omega)).trans g19)
      cases w with
      | false =>
        have hyi : q_Yi s a 0 (H, p, O) := hyi
        have hstd : Y_st (M 105) n (false, my, (H, p, O), a) = Y_s0 (M 105) n my (H, p, O) a := rfl
        unfold Y_s0 at hstd
        rw [htt] at hstd
        have u1 := Y_un_i (r := 1) (by decide) H p O hyi
        have unw : ∀ (r : Int) (nx : Nat) (ops : List Instr) (ls st : List q_V), (∀ M3 : q_M, q_ufr tm s M2 M3 → q_yrd tm (Y_u r (H, p, O)) M3 → q_T 1 (d + 3) qP_X6_eRead nx ops ls st g M3 Q) → q_S 1 (d + 2) 127 [qR 6 100, qI r] g M2 (q_K 1 (d + 3) qP_X6_eRead nx ops ls st Q) := fun r nx ops ls st hh => mp_unwindsX (d := d + 1) (S := (H, p, O)) g10 ht6 (by show s ≤ O.length; omega) (by show H.length + O.length ≤ 160; omega) (by show -160 ≤ p ∧ p ≤ 160; omega) hy2 hh
        have eb0 : Y_b false = 0 := rfl
        rw [eb0]
        by_cases t59 : t = 59
        · rw [if_pos t59] at hstd
          have x59 : M2 100 21 = 59 := ti59.mpr t59
          simp (disch := omega) only [b_X6_eRead_0, x_loadR_0, x_loadS_0, x_iconst, p_6_25, p_6_26, x_storeI_1, x_storeI_2, x_loadI_1, y_if_eq_t, y_if_eq_f, b_X6_eRead_22, f_6_21, y_ic_eq_t, y_ic_eq_f, b_X6_eRead_30, y_ic_ne_t, y_ic_ne_f, b_X6_eRead_38, b_X6_eRead_47, f_6_22, x_iadd, x_goto, b_X6_eRead_57, b_X6_eRead_61, b_X6_eRead_75, b_X6_eRead_84, x_loadI_2, b_X6_eRead_88, y_if_ne_t, y_if_ne_f, b_X6_eRead_97, x_ret1_0, x_ret1_1, b_X6_eRead_99, b_X6_eRead_108, b_X6_eRead_117, b_X6_eRead_119, b_X6_eRead_124, b_X6_eRead_133, b_X6_eRead_141, b_X6_eRead_143, b_X6_eRead_148, b_X6_eRead_150, b_X6_eRead_159, f_6_25, b_X6_eRead_171, b_X6_eRead_175, b_X6_eRead_176, b_X6_eRead_177, b_X6_eRead_186, b_X6_eRead_198, b_X6_eRead_200, x_dupI, x_dupR, x_isub, f_6_26, b_X6_eRead_229, x_storeI_3, x_loadI_3, b_X6_eRead_239, b_X6_eRead_247, b_X6_eRead_249, y_ic_gt_t, y_ic_gt_f, b_X6_eRead_257, b_X6_eRead_261, b_X6_eRead_262, q_isL_I, q_isL_R, q_isL_S, true_and, and_true, and_self, List.length_nil, List.length_cons, Nat.zero_add, x_K, x_Kn, Int.reduceToNat, Nat.reduceAdd, Nat.reduceMul, Nat.reduceLeDiff, Nat.reduceLT, Nat.zero_le, Int.reduceAdd, Int.reduceSub, Int.reduceMul, Int.reduceNeg, q_add_e, q_sub_e, q_mul_e, q_neg_e, q_upd_s, q_upd_n, zr_shr0, zr_shr1, zr_shr2, zr_shr3, zr_shr4, zr_and, zr_dyn8, zr_or, zr_shl, q_cpy_n, y_cpy26, c_X6_unwinds]
          refine unw 1 _ _ _ _ (fun M3 hf3 hy3 => ?_)
          have eS : Y_un 1 H p O = Y_u 1 (H, p, O) := rfl
          generalize Y_u 1 (H, p, O) = S at hstd hy3
          obtain ⟨H1, p1, O1⟩ := S
          cases H1 with
          | nil =>
            have z25 : M3 100 25 = 0 := hy3.1
            simp (disch := omega) only [b_X6_eRead_0, x_loadR_0, x_loadS_0, x_iconst, p_6_25, p_6_26, x_storeI_1, x_storeI_2, x_loadI_1, y_if_eq_t, y_if_eq_f, b_X6_eRead_22, f_6_21, y_ic_eq_t, y_ic_eq_f, b_X6_eRead_30, y_ic_ne_t, y_ic_ne_f, b_X6_eRead_38, b_X6_eRead_47, f_6_22, x_iadd, x_goto, b_X6_eRead_57, b_X6_eRead_61, b_X6_eRead_75, b_X6_eRead_84, x_loadI_2, b_X6_eRead_88, y_if_ne_t, y_if_ne_f, b_X6_eRead_97, x_ret1_0, x_ret1_1, b_X6_eRead_99, b_X6_eRead_108, b_X6_eRead_117, b_X6_eRead_119, b_X6_eRead_124, b_X6_eRead_133, b_X6_eRead_141, b_X6_eRead_143, b_X6_eRead_148, b_X6_eRead_150, b_X6_eRead_159, f_6_25, b_X6_eRead_171, b_X6_eRead_175, b_X6_eRead_176, b_X6_eRead_177, b_X6_eRead_186, b_X6_eRead_198, b_X6_eRead_200, x_dupI, x_dupR, x_isub, f_6_26, b_X6_eRead_229, x_storeI_3, x_loadI_3, b_X6_eRead_239, b_X6_eRead_247, b_X6_eRead_249, y_ic_gt_t, y_ic_gt_f, b_X6_eRead_257, b_X6_eRead_261, b_X6_eRead_262, q_isL_I, q_isL_R, q_isL_S, true_and, and_true, and_self, List.length_nil, List.length_cons, Nat.zero_add, x_K, x_Kn, Int.reduceToNat, Nat.reduceAdd, Nat.reduceMul, Nat.reduceLeDiff, Nat.reduceLT, Nat.zero_le, Int.reduceAdd, Int.reduceSub, Int.reduceMul, Int.reduceNeg, q_add_e, q_sub_e, q_mul_e, q_neg_e, q_upd_s, q_upd_n, zr_shr0, zr_shr1, zr_shr2, zr_shr3, zr_shr4, zr_and, zr_dyn8, zr_or, zr_shl, q_cpy_n, y_cpy26]
            rw [hstd] at hrd
            injection hrd with hrd
            rw [← hrd] at hq
            exact hq M3 (q_efr_tr hf2 (q_efr_u hf3)) ((hf3 100 20 (by omega) (by omega) (by omega)).trans g20) (fun _ => ⟨hy3.2.2.1, (hf3 100 19 (by omega) (by omega) (by omega)).trans g19, hy3.2.2.2.2⟩)
          | cons c H1 =>
            have z25 : M3 100 25 = (c :: H1).length := hy3.1
            rw [List.length_cons] at z25
            simp (disch := omega) only [b_X6_eRead_0, x_loadR_0, x_loadS_0, x_iconst, p_6_25, p_6_26, x_storeI_1, x_storeI_2, x_loadI_1, y_if_eq_t, y_if_eq_f, b_X6_eRead_22, f_6_21, y_ic_eq_t, y_ic_eq_f, b_X6_eRead_30, y_ic_ne_t, y_ic_ne_f, b_X6_eRead_38, b_X6_eRead_47, f_6_22, x_iadd, x_goto, b_X6_eRead_57, b_X6_eRead_61, b_X6_eRead_75, b_X6_eRead_84, x_loadI_2, b_X6_eRead_88, y_if_ne_t, y_if_ne_f, b_X6_eRead_97, x_ret1_0, x_ret1_1, b_X6_eRead_99, b_X6_eRead_108, b_X6_eRead_117, b_X6_eRead_119, b_X6_eRead_124, b_X6_eRead_133, b_X6_eRead_141, b_X6_eRead_143, b_X6_eRead_148, b_X6_eRead_150, b_X6_eRead_159, f_6_25, b_X6_eRead_171, b_X6_eRead_175, b_X6_eRead_176, b_X6_eRead_177, b_X6_eRead_186, b_X6_eRead_198, b_X6_eRead_200, x_dupI, x_dupR, x_isub, f_6_26, b_X6_eRead_229, x_storeI_3, x_loadI_3, b_X6_eRead_239, b_X6_eRead_247, b_X6_eRead_249, y_ic_gt_t, y_ic_gt_f, b_X6_eRead_257, b_X6_eRead_261, b_X6_eRead_262, q_isL_I, q_isL_R, q_isL_S, true_and, and_true, and_self, List.length_nil, List.length_cons, Nat.zero_add, x_K, x_Kn, Int.reduceToNat, Nat.reduceAdd, Nat.reduceMul, Nat.reduceLeDiff, Nat.reduceLT, Nat.zero_le, Int.reduceAdd, Int.reduceSub, Int.reduceMul, Int.reduceNeg, q_add_e, q_sub_e, q_mul_e, q_neg_e, q_upd_s, q_upd_n, zr_shr0, zr_shr1, zr_shr2, zr_shr3, zr_shr4, zr_and, zr_dyn8, zr_or, zr_shl, q_cpy_n, y_cpy26]
            exact bad hstd M3 hf3
        · rw [if_neg t59] at hstd
          have x59 : M2 100 21 ≠ 59 := fun z => t59 (ti59.mp z)
          by_cases t41 : t = 41
          · rw [if_pos t41] at hstd
            have x41 : M2 100 21 = 41 := ti41.mpr t41
            simp (disch := omega) only [b_X6_eRead_0, x_loadR_0, x_loadS_0, x_iconst, p_6_25, p_6_26, x_storeI_1, x_storeI_2, x_loadI_1, y_if_eq_t, y_if_eq_f, b_X6_eRead_22, f_6_21, y_ic_eq_t, y_ic_eq_f, b_X6_eRead_30, y_ic_ne_t, y_ic_ne_f, b_X6_eRead_38, b_X6_eRead_47, f_6_22, x_iadd, x_goto, b_X6_eRead_57, b_X6_eRead_61, b_X6_eRead_75, b_X6_eRead_84, x_loadI_2, b_X6_eRead_88, y_if_ne_t, y_if_ne_f, b_X6_eRead_97, x_ret1_0, x_ret1_1, b_X6_eRead_99, b_X6_eRead_108, b_X6_eRead_117, b_X6_eRead_119, b_X6_eRead_124, b_X6_eRead_133, b_X6_eRead_141, b_X6_eRead_143, b_X6_eRead_148, b_X6_eRead_150, b_X6_eRead_159, f_6_25, b_X6_eRead_171, b_X6_eRead_175, b_X6_eRead_176, b_X6_eRead_177, b_X6_eRead_186, b_X6_eRead_198, b_X6_eRead_200, x_dupI, x_dupR, x_isub, f_6_26, b_X6_eRead_229, x_storeI_3, x_loadI_3, b_X6_eRead_239, b_X6_eRead_247, b_X6_eRead_249, y_ic_gt_t, y_ic_gt_f, b_X6_eRead_257, b_X6_eRead_261, b_X6_eRead_262, q_isL_I, q_isL_R, q_isL_S, true_and, and_true, and_self, List.length_nil, List.length_cons, Nat.zero_add, x_K, x_Kn, Int.reduceToNat, Nat.reduceAdd, Nat.reduceMul, Nat.reduceLeDiff, Nat.reduceLT, Nat.zero_le, Int.reduceAdd, Int.reduceSub, Int.reduceMul, Int.reduceNeg, q_add_e, q_sub_e, q_mul_e, q_neg_e, q_upd_s, q_upd_n, zr_shr0, zr_shr1, zr_shr2, zr_shr3, zr_shr4, zr_and, zr_dyn8, zr_or, zr_shl, q_cpy_n, y_cpy26, c_X6_unwinds]
            refine unw 1 _ _ _ _ (fun M3 hf3 hy3 => ?_)
            have u1 : q_Yi s a 0 (Y_u 1 (H, p, O)) := u1.1
            generalize Y_u 1 (H, p, O) = S at hstd hy3 u1
            obtain ⟨H1, p1, O1⟩ := S
            cases H1 with
            | nil =>
              have z25 : M3 100 25 = 0 := hy3.1
              simp (disch := omega) only [b_X6_eRead_0, x_loadR_0, x_loadS_0, x_iconst, p_6_25, p_6_26, x_storeI_1, x_storeI_2, x_loadI_1, y_if_eq_t, y_if_eq_f, b_X6_eRead_22, f_6_21, y_ic_eq_t, y_ic_eq_f, b_X6_eRead_30, y_ic_ne_t, y_ic_ne_f, b_X6_eRead_38, b_X6_eRead_47, f_6_22, x_iadd, x_goto, b_X6_eRead_57, b_X6_eRead_61, b_X6_eRead_75, b_X6_eRead_84, x_loadI_2, b_X6_eRead_88, y_if_ne_t, y_if_ne_f, b_X6_eRead_97, x_ret1_0, x_ret1_1, b_X6_eRead_99, b_X6_eRead_108, b_X6_eRead_117, b_X6_eRead_119, b_X6_eRead_124, b_X6_eRead_133, b_X6_eRead_141, b_X6_eRead_143, b_X6_eRead_148, b_X6_eRead_150, b_X6_eRead_159, f_6_25, b_X6_eRead_171, b_X6_eRead_175, b_X6_eRead_176, b_X6_eRead_177, b_X6_eRead_186, b_X6_eRead_198, b_X6_eRead_200, x_dupI, x_dupR, x_isub, f_6_26, b_X6_eRead_229, x_storeI_3, x_loadI_3, b_X6_eRead_239, b_X6_eRead_247, b_X6_eRead_249, y_ic_gt_t, y_ic_gt_f, b_X6_eRead_257, b_X6_eRead_261, b_X6_eRead_262, q_isL_I, q_isL_R, q_isL_S, true_and, and_true, and_self, List.length_nil, List.length_cons, Nat.zero_add, x_K, x_Kn, Int.reduceToNat, Nat.reduceAdd, Nat.reduceMul, Nat.reduceLeDiff, Nat.reduceLT, Nat.zero_le, Int.reduceAdd, Int.reduceSub, Int.reduceMul, Int.reduceNeg, q_add_e, q_sub_e, q_mul_e, q_neg_e, q_upd_s, q_upd_n, zr_shr0, zr_shr1, zr_shr2, zr_shr3, zr_shr4, zr_and, zr_dyn8, zr_or, zr_shl, q_cpy_n, y_cpy26]
              exact bad hstd M3 hf3
            | cons c H1 =>
              have z25 : M3 100 25 = (c :: H1).length := hy3.1
              have z26 : M3 100 26 = p1 := hy3.2.1
              have hl1 : (c :: H1).length + O1.length ≤ a := u1.2.2.2.2.2.1
              have hp1 : p1 = Y_op (c :: H1) := u1.1
              have hp2 : Y_op (c :: H1) ≤ 5 := u1.2.1
              have hs1 : s ≤ O1.length := u1.2.2.2.2.1
              rw [List.length_cons] at z25 hl1
              generalize hx1 : H1.length = x1 at z25 hl1
              have g3 : M3 100 10 = tm := (hf3 100 10 (by omega) (by omega) (by omega)).trans g10
              have e1 : ((x1 + 1 : Nat) : Int) - 1 = x1 := by omega
              simp (disch := omega) only [b_X6_eRead_0, x_loadR_0, x_loadS_0, x_iconst, p_6_25, p_6_26, x_storeI_1, x_storeI_2, x_loadI_1, y_if_eq_t, y_if_eq_f, b_X6_eRead_22, f_6_21, y_ic_eq_t, y_ic_eq_f, b_X6_eRead_30, y_ic_ne_t, y_ic_ne_f, b_X6_eRead_38, b_X6_eRead_47, f_6_22, x_iadd, x_goto, b_X6_eRead_57, b_X6_eRead_61, b_X6_eRead_75, b_X6_eRead_84, x_loadI_2, b_X6_eRead_88, y_if_ne_t, y_if_ne_f, b_X6_eRead_97, x_ret1_0, x_ret1_1, b_X6_eRead_99, b_X6_eRead_108, b_X6_eRead_117, b_X6_eRead_119, b_X6_eRead_124, b_X6_eRead_133, b_X6_eRead_141, b_X6_eRead_143, b_X6_eRead_148, b_X6_eRead_150, b_X6_eRead_159, f_6_25, b_X6_eRead_171, b_X6_eRead_175, b_X6_eRead_176, b_X6_eRead_177, b_X6_eRead_186, b_X6_eRead_198, b_X6_eRead_200, x_dupI, x_dupR, x_isub, f_6_26, b_X6_eRead_229, x_storeI_3, x_loadI_3, b_X6_eRead_239, b_X6_eRead_247, b_X6_eRead_249, y_ic_gt_t, y_ic_gt_f, b_X6_eRead_257, b_X6_eRead_261, b_X6_eRead_262, q_isL_I, q_isL_R, q_isL_S, true_and, and_true, and_self, List.length_nil, List.length_cons, Nat.zero_add, x_K, x_Kn, Int.reduceToNat, Nat.reduceAdd, Nat.reduceMul, Nat.reduceLeDiff, Nat.reduceLT, Nat.zero_le, Int.reduceAdd, Int.reduceSub, Int.reduceMul, Int.reduceNeg, q_add_e, q_sub_e, q_mul_e, q_neg_e, q_upd_s, q_upd_n, zr_shr0, zr_shr1, zr_shr2, zr_shr3, zr_shr4, zr_and, zr_dyn8, zr_or, zr_shl, q_cpy_n, y_cpy26, z25, e1, c_X6_unwinds]
              refine mp_unwindsX (d := d + 1) (tm := tm) (s := s) (S := (H1, p1 - 1, O1)) (by simp (disch := omega) only [q_upd_n]; exact g3) ht6 hs1 (by show H1.length + O1.length ≤ 160; omega) (by show -160 ≤ p1 - 1 ∧ p1 - 1 ≤ 160; omega) ⟨?_, ?_, ?_, ?_, ?_⟩ (fun M4 hf4 hy4 => ?_)
              · simp (disch := omega) only [q_upd_n, q_upd_s]
                rw [hx1]
              · simp (disch := omega) only [q_upd_n, q_upd_s]
                omega
              · simp (disch := omega) only [q_upd_n, q_upd_s]
                exact hy3.2.2.1
              · exact q_hL_c H1 (fun i _ => by simp (disch := omega) only [q_upd_n]) hy3.2.2.2.1.2
              · exact q_oL_c (fun i _ => by simp (disch := omega) only [q_upd_n]) hy3.2.2.2.2
              · simp (disch := omega) only [b_X6_eRead_0, x_loadR_0, x_loadS_0, x_iconst, p_6_25, p_6_26, x_storeI_1, x_storeI_2, x_loadI_1, y_if_eq_t, y_if_eq_f, b_X6_eRead_22, f_6_21, y_ic_eq_t, y_ic_eq_f, b_X6_eRead_30, y_ic_ne_t, y_ic_ne_f, b_X6_eRead_38, b_X6_eRead_47, f_6_22, x_iadd, x_goto, b_X6_eRead_57, b_X6_eRead_61, b_X6_eRead_75, b_X6_eRead_84, x_loadI_2, b_X6_eRead_88, y_if_ne_t, y_if_ne_f, b_X6_eRead_97, x_ret1_0, x_ret1_1, b_X6_eRead_99, b_X6_eRead_108, b_X6_eRead_117, b_X6_eRead_119, b_X6_eRead_124, b_X6_eRead_133, b_X6_eRead_141, b_X6_eRead_143, b_X6_eRead_148, b_X6_eRead_150, b_X6_eRead_159, f_6_25, b_X6_eRead_171, b_X6_eRead_175, b_X6_eRead_176, b_X6_eRead_177, b_X6_eRead_186, b_X6_eRead_198, b_X6_eRead_200, x_dupI, x_dupR, x_isub, f_6_26, b_X6_eRead_229, x_storeI_3, x_loadI_3, b_X6_eRead_239, b_X6_eRead_247, b_X6_eRead_249, y_ic_gt_t, y_ic_gt_f, b_X6_eRead_257, b_X6_eRead_261, b_X6_eRead_262, q_isL_I, q_isL_R, q_isL_S, true_and, and_true, and_self, List.length_nil, List.length_cons, Nat.zero_add, x_K, x_Kn, Int.reduceToNat, Nat.reduceAdd, Nat.reduceMul, Nat.reduceLeDiff, Nat.reduceLT, Nat.zero_le, Int.reduceAdd, Int.reduceSub, Int.reduceMul, Int.reduceNeg, q_add_e, q_sub_e, q_mul_e, q_neg_e, q_upd_s, q_upd_n, zr_shr0, zr_shr1, zr_shr2, zr_shr3, zr_shr4, zr_and, zr_dyn8, zr_or, zr_shl, q_cpy_n, y_cpy26]
                exact again false my _ _ _ hstd M4 l3 i3 (q_ufr_tr (q_ufr_up (q_ufr_up hf3 (by omega)) (by omega)) hf4) hy4
          · rw [if_neg t41] at hstd
            have x41 : M2 100 21 ≠ 41 := fun z => t41 (ti41.mp z)
            simp (disch := omega) only [b_X6_eRead_0, x_loadR_0, x_loadS_0, x_iconst, p_6_25, p_6_26, x_storeI_1, x_storeI_2, x_loadI_1, y_if_eq_t, y_if_eq_f, b_X6_eRead_22, f_6_21, y_ic_eq_t, y_ic_eq_f, b_X6_eRead_30, y_ic_ne_t, y_ic_ne_f, b_X6_eRead_38, b_X6_eRead_47, f_6_22, x_iadd, x_goto, b_X6_eRead_57, b_X6_eRead_61, b_X6_eRead_75, b_X6_eRead_84, x_loadI_2, b_X6_eRead_88, y_if_ne_t, y_if_ne_f, b_X6_eRead_97, x_ret1_0, x_ret1_1, b_X6_eRead_99, b_X6_eRead_108, b_X6_eRead_117, b_X6_eRead_119, b_X6_eRead_124, b_X6_eRead_133, b_X6_eRead_141, b_X6_eRead_143, b_X6_eRead_148, b_X6_eRead_150, b_X6_eRead_159, f_6_25, b_X6_eRead_171, b_X6_eRead_175, b_X6_eRead_176, b_X6_eRead_177, b_X6_eRead_186, b_X6_eRead_198, b_X6_eRead_200, x_dupI, x_dupR, x_isub, f_6_26, b_X6_eRead_229, x_storeI_3, x_loadI_3, b_X6_eRead_239, b_X6_eRead_247, b_X6_eRead_249, y_ic_gt_t, y_ic_gt_f, b_X6_eRead_257, b_X6_eRead_261, b_X6_eRead_262, q_isL_I, q_isL_R, q_isL_S, true_and, and_true, and_self, List.length_nil, List.length_cons, Nat.zero_add, x_K, x_Kn, Int.reduceToNat, Nat.reduceAdd, Nat.reduceMul, Nat.reduceLeDiff, Nat.reduceLT, Nat.zero_le, Int.reduceAdd, Int.reduceSub, Int.reduceMul, Int.reduceNeg, q_add_e, q_sub_e, q_mul_e, q_neg_e, q_upd_s, q_upd_n, zr_shr0, zr_shr1, zr_shr2, zr_shr3, zr_shr4, zr_and, zr_dyn8, zr_or, zr_shl, q_cpy_n, y_cpy26, c_X6_signOf]
            refine sgo _ ?_
            by_cases c1 : Y_sg t = -1
            · rw [if_pos c1] at hstd
              rw [c1]
              simp (disch := omega) only [b_X6_eRead_0, x_loadR_0, x_loadS_0, x_iconst, p_6_25, p_6_26, x_storeI_1, x_storeI_2, x_loadI_1, y_if_eq_t, y_if_eq_f, b_X6_eRead_22, f_6_21, y_ic_eq_t, y_ic_eq_f, b_X6_eRead_30, y_ic_ne_t, y_ic_ne_f, b_X6_eRead_38, b_X6_eRead_47, f_6_22, x_iadd, x_goto, b_X6_eRead_57, b_X6_eRead_61, b_X6_eRead_75, b_X6_eRead_84, x_loadI_2, b_X6_eRead_88, y_if_ne_t, y_if_ne_f, b_X6_eRead_97, x_ret1_0, x_ret1_1, b_X6_eRead_99, b_X6_eRead_108, b_X6_eRead_117, b_X6_eRead_119, b_X6_eRead_124, b_X6_eRead_133, b_X6_eRead_141, b_X6_eRead_143, b_X6_eRead_148, b_X6_eRead_150, b_X6_eRead_159, f_6_25, b_X6_eRead_171, b_X6_eRead_175, b_X6_eRead_176, b_X6_eRead_177, b_X6_eRead_186, b_X6_eRead_198, b_X6_eRead_200, x_dupI, x_dupR, x_isub, f_6_26, b_X6_eRead_229, x_storeI_3, x_loadI_3, b_X6_eRead_239, b_X6_eRead_247, b_X6_eRead_249, y_ic_gt_t, y_ic_gt_f, b_X6_eRead_257, b_X6_eRead_261, b_X6_eRead_262, q_isL_I, q_isL_R, q_isL_S, true_and, and_true, and_self, List.length_nil, List.length_cons, Nat.zero_add, x_K, x_Kn, Int.reduceToNat, Nat.reduceAdd, Nat.reduceMul, Nat.reduceLeDiff, Nat.reduceLT, Nat.zero_le, Int.reduceAdd, Int.reduceSub, Int.reduceMul, Int.reduceNeg, q_add_e, q_sub_e, q_mul_e, q_neg_e, q_upd_s, q_upd_n, zr_shr0, zr_shr1, zr_shr2, zr_shr3, zr_shr4, zr_and, zr_dyn8, zr_or, zr_shl, q_cpy_n, y_cpy26, i3]
              exact bad hstd M2 q_ufr_rf
            · rw [if_neg c1] at hstd
              have hb : q_bi (Y_sg t) := by
                unfold q_bi
                unfold Y_sg at c1 ⊢
                omega
              generalize Y_sg t = cs at hstd c1 hb
              have hcb := hb
              unfold q_bi at hcb
              simp (disch := omega) only [b_X6_eRead_0, x_loadR_0, x_loadS_0, x_iconst, p_6_25, p_6_26, x_storeI_1, x_storeI_2, x_loadI_1, y_if_eq_t, y_if_eq_f, b_X6_eRead_22, f_6_21, y_ic_eq_t, y_ic_eq_f, b_X6_eRead_30, y_ic_ne_t, y_ic_ne_f, b_X6_eRead_38, b_X6_eRead_47, f_6_22, x_iadd, x_goto, b_X6_eRead_57, b_X6_eRead_61, b_X6_eRead_75, b_X6_eRead_84, x_loadI_2, b_X6_eRead_88, y_if_ne_t, y_if_ne_f, b_X6_eRead_97, x_ret1_0, x_ret1_1, b_X6_eRead_99, b_X6_eRead_108, b_X6_eRead_117, b_X6_eRead_119, b_X6_eRead_124, b_X6_eRead_133, b_X6_eRead_141, b_X6_eRead_143, b_X6_eRead_148, b_X6_eRead_150, b_X6_eRead_159, f_6_25, b_X6_eRead_171, b_X6_eRead_175, b_X6_eRead_176, b_X6_eRead_177, b_X6_eRead_186, b_X6_eRead_198, b_X6_eRead_200, x_dupI, x_dupR, x_isub, f_6_26, b_X6_eRead_229, x_storeI_3, x_loadI_3, b_X6_eRead_239, b_X6_eRead_247, b_X6_eRead_249, y_ic_gt_t, y_ic_gt_f, b_X6_eRead_257, b_X6_eRead_261, b_X6_eRead_262, q_isL_I, q_isL_R, q_isL_S, true_and, and_true, and_self, List.length_nil, List.length_cons, Nat.zero_add, x_K, x_Kn, Int.reduceToNat, Nat.reduceAdd, Nat.reduceMul, Nat.reduceLeDiff, Nat.reduceLT, Nat.zero_le, Int.reduceAdd, Int.reduceSub, Int.reduceMul, Int.reduceNeg, q_add_e, q_sub_e, q_mul_e, q_neg_e, q_upd_s, q_upd_n, zr_shr0, zr_shr1, zr_shr2, zr_shr3, zr_shr4, zr_and, zr_dyn8, zr_or, zr_shl, q_cpy_n, y_cpy26, i3, c_X6_between]
              refine mp_betweenX (d := d) (s := s) (a := a) g10 ht6 (by omega) hb hyi hy2 (fun M3 hf3 hn0 => ?_) (fun M3 S2 hf3 hs2 hy3 => ?_)
              · rw [hn0] at hstd
                simp (disch := omega) only [b_X6_eRead_0, x_loadR_0, x_loadS_0, x_iconst, p_6_25, p_6_26, x_storeI_1, x_storeI_2, x_loadI_1, y_if_eq_t, y_if_eq_f, b_X6_eRead_22, f_6_21, y_ic_eq_t, y_ic_eq_f, b_X6_eRead_30, y_ic_ne_t, y_ic_ne_f, b_X6_eRead_38, b_X6_eRead_47, f_6_22, x_iadd, x_goto, b_X6_eRead_57, b_X6_eRead_61, b_X6_eRead_75, b_X6_eRead_84, x_loadI_2, b_X6_eRead_88, y_if_ne_t, y_if_ne_f, b_X6_eRead_97, x_ret1_0, x_ret1_1, b_X6_eRead_99, b_X6_eRead_108, b_X6_eRead_117, b_X6_eRead_119, b_X6_eRead_124, b_X6_eRead_133, b_X6_eRead_141, b_X6_eRead_143, b_X6_eRead_148, b_X6_eRead_150, b_X6_eRead_159, f_6_25, b_X6_eRead_171, b_X6_eRead_175, b_X6_eRead_176, b_X6_eRead_177, b_X6_eRead_186, b_X6_eRead_198, b_X6_eRead_200, x_dupI, x_dupR, x_isub, f_6_26, b_X6_eRead_229, x_storeI_3, x_loadI_3, b_X6_eRead_239, b_X6_eRead_247, b_X6_eRead_249, y_ic_gt_t, y_ic_gt_f, b_X6_eRead_257, b_X6_eRead_261, b_X6_eRead_262, q_isL_I, q_isL_R, q_isL_S, true_and, and_true, and_self, List.length_nil, List.length_cons, Nat.zero_add, x_K, x_Kn, Int.reduceToNat, Nat.reduceAdd, Nat.reduceMul, Nat.reduceLeDiff, Nat.reduceLT, Nat.zero_le, Int.reduceAdd, Int.reduceSub, Int.reduceMul, Int.reduceNeg, q_add_e, q_sub_e, q_mul_e, q_neg_e, q_upd_s, q_upd_n, zr_shr0, zr_shr1, zr_shr2, zr_shr3, zr_shr4, zr_and, zr_dyn8, zr_or, zr_shl, q_cpy_n, y_cpy26]
                exact bad hstd M3 hf3
              · rw [hs2] at hstd
                obtain ⟨H2, p2, O2⟩ := S2
                by_cases c12 : cs ≤ 12
                · simp (disch := omega) only [b_X6_eRead_0, x_loadR_0, x_loadS_0, x_iconst, p_6_25, p_6_26, x_storeI_1, x_storeI_2, x_loadI_1, y_if_eq_t, y_if_eq_f, b_X6_eRead_22, f_6_21, y_ic_eq_t, y_ic_eq_f, b_X6_eRead_30, y_ic_ne_t, y_ic_ne_f, b_X6_eRead_38, b_X6_eRead_47, f_6_22, x_iadd, x_goto, b_X6_eRead_57, b_X6_eRead_61, b_X6_eRead_75, b_X6_eRead_84, x_loadI_2, b_X6_eRead_88, y_if_ne_t, y_if_ne_f, b_X6_eRead_97, x_ret1_0, x_ret1_1, b_X6_eRead_99, b_X6_eRead_108, b_X6_eRead_117, b_X6_eRead_119, b_X6_eRead_124, b_X6_eRead_133, b_X6_eRead_141, b_X6_eRead_143, b_X6_eRead_148, b_X6_eRead_150, b_X6_eRead_159, f_6_25, b_X6_eRead_171, b_X6_eRead_175, b_X6_eRead_176, b_X6_eRead_177, b_X6_eRead_186, b_X6_eRead_198, b_X6_eRead_200, x_dupI, x_dupR, x_isub, f_6_26, b_X6_eRead_229, x_storeI_3, x_loadI_3, b_X6_eRead_239, b_X6_eRead_247, b_X6_eRead_249, y_ic_gt_t, y_ic_gt_f, b_X6_eRead_257, b_X6_eRead_261, b_X6_eRead_262, q_isL_I, q_isL_R, q_isL_S, true_and, and_true, and_self, List.length_nil, List.length_cons, Nat.zero_add, x_K, x_Kn, Int.reduceToNat, Nat.reduceAdd, Nat.reduceMul, Nat.reduceLeDiff, Nat.reduceLT, Nat.zero_le, Int.reduceAdd, Int.reduceSub, Int.reduceMul, Int.reduceNeg, q_add_e, q_sub_e, q_mul_e, q_neg_e, q_upd_s, q_upd_n, zr_shr0, zr_shr1, zr_shr2, zr_shr3, zr_shr4, zr_and, zr_dyn8, zr_or, zr_shl, q_cpy_n, y_cpy26]
                  have hstd : _ = Sum.inl (true, decide (cs ≤ 12), (H2, p2, O2), _) := hstd
                  rw [decide_eq_true c12] at hstd
                  exact again true true H2 p2 O2 hstd M3 _ rfl hf3 hy3
                · simp (disch := omega) only [b_X6_eRead_0, x_loadR_0, x_loadS_0, x_iconst, p_6_25, p_6_26, x_storeI_1, x_storeI_2, x_loadI_1, y_if_eq_t, y_if_eq_f, b_X6_eRead_22, f_6_21, y_ic_eq_t, y_ic_eq_f, b_X6_eRead_30, y_ic_ne_t, y_ic_ne_f, b_X6_eRead_38, b_X6_eRead_47, f_6_22, x_iadd, x_goto, b_X6_eRead_57, b_X6_eRead_61, b_X6_eRead_75, b_X6_eRead_84, x_loadI_2, b_X6_eRead_88, y_if_ne_t, y_if_ne_f, b_X6_eRead_97, x_ret1_0, x_ret1_1, b_X6_eRead_99, b_X6_eRead_108, b_X6_eRead_117, b_X6_eRead_119, b_X6_eRead_124, b_X6_eRead_133, b_X6_eRead_141, b_X6_eRead_143, b_X6_eRead_148, b_X6_eRead_150, b_X6_eRead_159, f_6_25, b_X6_eRead_171, b_X6_eRead_175, b_X6_eRead_176, b_X6_eRead_177, b_X6_eRead_186, b_X6_eRead_198, b_X6_eRead_200, x_dupI, x_dupR, x_isub, f_6_26, b_X6_eRead_229, x_storeI_3, x_loadI_3, b_X6_eRead_239, b_X6_eRead_247, b_X6_eRead_249, y_ic_gt_t, y_ic_gt_f, b_X6_eRead_257, b_X6_eRead_261, b_X6_eRead_262, q_isL_I, q_isL_R, q_isL_S, true_and, and_true, and_self, List.length_nil, List.length_cons, Nat.zero_add, x_K, x_Kn, Int.reduceToNat, Nat.reduceAdd, Nat.reduceMul, Nat.reduceLeDiff, Nat.reduceLT, Nat.zero_le, Int.reduceAdd, Int.reduceSub, Int.reduceMul, Int.reduceNeg, q_add_e, q_sub_e, q_mul_e, q_neg_e, q_upd_s, q_upd_n, zr_shr0, zr_shr1, zr_shr2, zr_shr3, zr_shr4, zr_and, zr_dyn8, zr_or, zr_shl, q_cpy_n, y_cpy26]
                  have hstd : _ = Sum.inl (true, decide (cs ≤ 12), (H2, p2, O2), _) := hstd
                  rw [decide_eq_false c12] at hstd
                  exact again true false H2 p2 O2 hstd M3 _ rfl hf3 hy3
      | true =>
        have hyi : q_Yi s a 1 (H, p, O) := hyi
        have hstd : Y_st (M 105) n (true, my, (H, p, O), a) = Y_s1 (M 105) n my (H, p, O) a := rfl
        unfold Y_s1 at hstd
        rw [htt] at hstd
        have eb1 : Y_b true = 1 := rfl
        rw [eb1]
        have opn : ∀ (c : Int) (my2 : Bool), p ≠ 5 → Y_st (M 105) n (true, my, (H, p, O), a) = .inl (true, my2, (c :: H, p + 1, O), L_b (M 105) n a) → q_T 1 (d + 3) qP_X6_eRead 14 [] [qR 6 100, qI 1, qI (Y_b my2), l3] [] g (q_upd (q_upd (q_upd M2 100 26 (M2 100 26 + 1)) 115 h c) 100 25 ((h : Int) + 1)) Q := by
          intro c my2 hp5 hst
          refine again true my2 _ _ _ hst _ l3 i3 (q_ufr_up (q_ufr_up (q_ufr_up q_ufr_rf (by omega)) (by omega)) (by omega)) ⟨?_, ?_, ?_, ⟨?_, ?_⟩, ?_⟩
          · show _ = (((c :: H).length : Nat) : Int)
            rw [List.length_cons, hhl]
            simp (disch := omega) only [q_upd_s]
            omega
          · simp (disch := omega) only [q_upd_n, q_upd_s]
            omega
          · simp (disch := omega) only [q_upd_n]
            rw [k27, hol]
          · rw [hhl]
            simp (disch := omega) only [q_upd_n, q_upd_s]
          · exact q_hL_c _ (fun i _ => by simp (disch := omega) only [q_upd_n]) hy2.2.2.2.1
          · exact q_oL_c (fun i _ => by simp (disch := omega) only [q_upd_n]) hy2.2.2.2.2
        have put : ∀ (v : Int), t ≠ -2 → (∀ M3 : q_M, q_ufr tm s M2 M3 → q_yrd tm (Y_u 7 (H, p, O ++ [v])) M3 → q_T 1 (d + 3) qP_X6_eRead 14 [] [qR 6 100, qI 0, qI (Y_b my), l3] [] g M3 Q) → q_T 1 (d + 3) qP_X6_eRead 75 [.aload 0, .iconst 7, .invokestatic 127, .iconst 0, .istore 1, .goto 14] [qR 6 100, qI 1, qI (Y_b my), l3] [] g (q_upd (q_upd M2 106 (200 * tm + o) v) 100 27 ((o : Int) + 1)) Q := by
          intro v ht2 hh
          have := l5 ht2
          simp (disch := omega) only [b_X6_eRead_0, x_loadR_0, x_loadS_0, x_iconst, p_6_25, p_6_26, x_storeI_1, x_storeI_2, x_loadI_1, y_if_eq_t, y_if_eq_f, b_X6_eRead_22, f_6_21, y_ic_eq_t, y_ic_eq_f, b_X6_eRead_30, y_ic_ne_t, y_ic_ne_f, b_X6_eRead_38, b_X6_eRead_47, f_6_22, x_iadd, x_goto, b_X6_eRead_57, b_X6_eRead_61, b_X6_eRead_75, b_X6_eRead_84, x_loadI_2, b_X6_eRead_88, y_if_ne_t, y_if_ne_f, b_X6_eRead_97, x_ret1_0, x_ret1_1, b_X6_eRead_99, b_X6_eRead_108, b_X6_eRead_117, b_X6_eRead_119, b_X6_eRead_124, b_X6_eRead_133, b_X6_eRead_141, b_X6_eRead_143, b_X6_eRead_148, b_X6_eRead_150, b_X6_eRead_159, f_6_25, b_X6_eRead_171, b_X6_eRead_175, b_X6_eRead_176, b_X6_eRead_177, b_X6_eRead_186, b_X6_eRead_198, b_X6_eRead_200, x_dupI, x_dupR, x_isub, f_6_26, b_X6_eRead_229, x_storeI_3, x_loadI_3, b_X6_eRead_239, b_X6_eRead_247, b_X6_eRead_249, y_ic_gt_t, y_ic_gt_f, b_X6_eRead_257, b_X6_eRead_261, b_X6_eRead_262, q_isL_I, q_isL_R, q_isL_S, true_and, and_true, and_self, List.length_nil, List.length_cons, Nat.zero_add, x_K, x_Kn, Int.reduceToNat, Nat.reduceAdd, Nat.reduceMul, Nat.reduceLeDiff, Nat.reduceLT, Nat.zero_le, Int.reduceAdd, Int.reduceSub, Int.reduceMul, Int.reduceNeg, q_add_e, q_sub_e, q_mul_e, q_neg_e, q_upd_s, q_upd_n, zr_shr0, zr_shr1, zr_shr2, zr_shr3, zr_shr4, zr_and, zr_dyn8, zr_or, zr_shl, q_cpy_n, y_cpy26, c_X6_unwinds]
          refine mp_unwindsX (d := d + 1) (tm := tm) (s := s) (S := (H, p, O ++ [v])) (by simp (disch := omega) only [q_upd_n]; exact g10) ht6 (by show s ≤ (O ++ [v]).length; rw [List.length_append]; omega) (by show H.length + (O ++ [v]).length ≤ 160; rw [List.length_append]; show H.length + (O.length + 1) ≤ 160; omega) (by show -160 ≤ p ∧ p ≤ 160; omega) ⟨?_, ?_, ?_, ?_, ?_⟩ (fun M3 hf3 hy3 => ?_)
          · simp (disch := omega) only [q_upd_n]
            rw [k25, hhl]
          · simp (disch := omega) only [q_upd_n]
            exact k26
          · show _ = (((O ++ [v]).length : Nat) : Int)
            rw [List.length_append, hol]
            simp (disch := omega) only [q_upd_s]
            rfl
          · exact q_hL_c _ (fun i _ => by simp (disch := omega) only [q_upd_n]) hy2.2.2.2.1
          · exact q_oL_a (fun i hi => by simp (disch := omega) only [q_upd_n]) (by rw [hol]; simp (disch := omega) only [q_upd_n, q_upd_s]) hy2.2.2.2.2
          · simp (disch := omega) only [b_X6_eRead_0, x_loadR_0, x_loadS_0, x_iconst, p_6_25, p_6_26, x_storeI_1, x_storeI_2, x_loadI_1, y_if_eq_t, y_if_eq_f, b_X6_eRead_22, f_6_21, y_ic_eq_t, y_ic_eq_f, b_X6_eRead_30, y_ic_ne_t, y_ic_ne_f, b_X6_eRead_38, b_X6_eRead_47, f_6_22, x_iadd, x_goto, b_X6_eRead_57, b_X6_eRead_61, b_X6_eRead_75, b_X6_eRead_84, x_loadI_2, b_X6_eRead_88, y_if_ne_t, y_if_ne_f, b_X6_eRead_97, x_ret1_0, x_ret1_1, b_X6_eRead_99, b_X6_eRead_108, b_X6_eRead_117, b_X6_eRead_119, b_X6_eRead_124, b_X6_eRead_133, b_X6_eRead_141, b_X6_eRead_143, b_X6_eRead_148, b_X6_eRead_150, b_X6_eRead_159, f_6_25, b_X6_eRead_171, b_X6_eRead_175, b_X6_eRead_176, b_X6_eRead_177, b_X6_eRead_186, b_X6_eRead_198, b_X6_eRead_200, x_dupI, x_dupR, x_isub, f_6_26, b_X6_eRead_229, x_storeI_3, x_loadI_3, b_X6_eRead_239, b_X6_eRead_247, b_X6_eRead_249, y_ic_gt_t, y_ic_gt_f, b_X6_eRead_257, b_X6_eRead_261, b_X6_eRead_262, q_isL_I, q_isL_R, q_isL_S, true_and, and_true, and_self, List.length_nil, List.length_cons, Nat.zero_add, x_K, x_Kn, Int.reduceToNat, Nat.reduceAdd, Nat.reduceMul, Nat.reduceLeDiff, Nat.reduceLT, Nat.zero_le, Int.reduceAdd, Int.reduceSub, Int.reduceMul, Int.reduceNeg, q_add_e, q_sub_e, q_mul_e, q_neg_e, q_upd_s, q_upd_n, zr_shr0, zr_shr1, zr_shr2, zr_shr3, zr_shr4, zr_and, zr_dyn8, zr_or, zr_shl, q_cpy_n, y_cpy26]
            exact hh M3 (q_ufr_tr (q_ufr_up (q_ufr_up q_ufr_rf (by omega)) (by omega)) hf3) hy3
        by_cases t3 : t = -3
        · rw [if_pos (Or.inl t3), if_pos t3] at hstd
          have x1 : M2 100 21 = 1 := ti1.mpr t3
          have hv : M2 100 22 = L_v (M 105) n a := (g22 (by omega)).trans (by rw [t3]; rfl)
          have hv2 := l7 t3
          simp (disch := omega) only [b_X6_eRead_0, x_loadR_0, x_loadS_0, x_iconst, p_6_25, p_6_26, x_storeI_1, x_storeI_2, x_loadI_1, y_if_eq_t, y_if_eq_f, b_X6_eRead_22, f_6_21, y_ic_eq_t, y_ic_eq_f, b_X6_eRead_30, y_ic_ne_t, y_ic_ne_f, b_X6_eRead_38, b_X6_eRead_47, f_6_22, x_iadd, x_goto, b_X6_eRead_57, b_X6_eRead_61, b_X6_eRead_75, b_X6_eRead_84, x_loadI_2, b_X6_eRead_88, y_if_ne_t, y_if_ne_f, b_X6_eRead_97, x_ret1_0, x_ret1_1, b_X6_eRead_99, b_X6_eRead_108, b_X6_eRead_117, b_X6_eRead_119, b_X6_eRead_124, b_X6_eRead_133, b_X6_eRead_141, b_X6_eRead_143, b_X6_eRead_148, b_X6_eRead_150, b_X6_eRead_159, f_6_25, b_X6_eRead_171, b_X6_eRead_175, b_X6_eRead_176, b_X6_eRead_177, b_X6_eRead_186, b_X6_eRead_198, b_X6_eRead_200, x_dupI, x_dupR, x_isub, f_6_26, b_X6_eRead_229, x_storeI_3, x_loadI_3, b_X6_eRead_239, b_X6_eRead_247, b_X6_eRead_249, y_ic_gt_t, y_ic_gt_f, b_X6_eRead_257, b_X6_eRead_261, b_X6_eRead_262, q_isL_I, q_isL_R, q_isL_S, true_and, and_true, and_self, List.length_nil, List.length_cons, Nat.zero_add, x_K, x_Kn, Int.reduceToNat, Nat.reduceAdd, Nat.reduceMul, Nat.reduceLeDiff, Nat.reduceLT, Nat.zero_le, Int.reduceAdd, Int.reduceSub, Int.reduceMul, Int.reduceNeg, q_add_e, q_sub_e, q_mul_e, q_neg_e, q_upd_s, q_upd_n, zr_shr0, zr_shr1, zr_shr2, zr_shr3, zr_shr4, zr_and, zr_dyn8, zr_or, zr_shl, q_cpy_n, y_cpy26, c_X6_puts]
          refine mp_puts (tm := tm) (o := o) g10 ht6 k27 (by omega) ?_
          rw [hv]
          exact put _ (by omega) (fun M3 hf3 hy3 => again false my _ _ _ hstd M3 l3 i3 hf3 hy3)
        by_cases t4 : t = -4
        · rw [if_pos (Or.inr t4), if_neg t3] at hstd
          have x2 : M2 100 21 = 2 := ti2.mpr t4
          have hv : M2 100 22 = L_v (M 105) n a := (g22 (by omega)).trans (by rw [t4]; rfl)
          have hv2 := l8 t4
          simp (disch := omega) only [b_X6_eRead_0, x_loadR_0, x_loadS_0, x_iconst, p_6_25, p_6_26, x_storeI_1, x_storeI_2, x_loadI_1, y_if_eq_t, y_if_eq_f, b_X6_eRead_22, f_6_21, y_ic_eq_t, y_ic_eq_f, b_X6_eRead_30, y_ic_ne_t, y_ic_ne_f, b_X6_eRead_38, b_X6_eRead_47, f_6_22, x_iadd, x_goto, b_X6_eRead_57, b_X6_eRead_61, b_X6_eRead_75, b_X6_eRead_84, x_loadI_2, b_X6_eRead_88, y_if_ne_t, y_if_ne_f, b_X6_eRead_97, x_ret1_0, x_ret1_1, b_X6_eRead_99, b_X6_eRead_108, b_X6_eRead_117, b_X6_eRead_119, b_X6_eRead_124, b_X6_eRead_133, b_X6_eRead_141, b_X6_eRead_143, b_X6_eRead_148, b_X6_eRead_150, b_X6_eRead_159, f_6_25, b_X6_eRead_171, b_X6_eRead_175, b_X6_eRead_176, b_X6_eRead_177, b_X6_eRead_186, b_X6_eRead_198, b_X6_eRead_200, x_dupI, x_dupR, x_isub, f_6_26, b_X6_eRead_229, x_storeI_3, x_loadI_3, b_X6_eRead_239, b_X6_eRead_247, b_X6_eRead_249, y_ic_gt_t, y_ic_gt_f, b_X6_eRead_257, b_X6_eRead_261, b_X6_eRead_262, q_isL_I, q_isL_R, q_isL_S, true_and, and_true, and_self, List.length_nil, List.length_cons, Nat.zero_add, x_K, x_Kn, Int.reduceToNat, Nat.reduceAdd, Nat.reduceMul, Nat.reduceLeDiff, Nat.reduceLT, Nat.zero_le, Int.reduceAdd, Int.reduceSub, Int.reduceMul, Int.reduceNeg, q_add_e, q_sub_e, q_mul_e, q_neg_e, q_upd_s, q_upd_n, zr_shr0, zr_shr1, zr_shr2, zr_shr3, zr_shr4, zr_and, zr_dyn8, zr_or, zr_shl, q_cpy_n, y_cpy26, c_X6_puts]
          refine mp_puts (tm := tm) (o := o) g10 ht6 k27 (by omega) ?_
          rw [hv]
          exact put _ (by omega) (fun M3 hf3 hy3 => again false my _ _ _ hstd M3 l3 i3 hf3 hy3)
        rw [if_neg (fun z => z.elim t3 t4)] at hstd
        have x1 : M2 100 21 ≠ 1 := fun z => t3 (ti1.mp z)
        have x2 : M2 100 21 ≠ 2 := fun z => t4 (ti2.mp z)
        have minus : ¬(t = -10 ∧ my = true) → q_T 1 (d + 3) qP_X6_eRead 99 [] [qR 6 100, qI 1, qI (Y_b my), l3] [] g M2 Q := by
          intro hno
          rw [if_neg hno] at hstd
          rw [b_X6_eRead_99]
          by_cases t45 : t = 45
          · rw [if_pos t45] at hstd
            have x45 : M2 100 21 = 45 := ti45.mpr t45
            simp (disch := omega) only [b_X6_eRead_0, x_loadR_0, x_loadS_0, x_iconst, p_6_25, p_6_26, x_storeI_1, x_storeI_2, x_loadI_1, y_if_eq_t, y_if_eq_f, b_X6_eRead_22, f_6_21, y_ic_eq_t, y_ic_eq_f, b_X6_eRead_30, y_ic_ne_t, y_ic_ne_f, b_X6_eRead_38, b_X6_eRead_47, f_6_22, x_iadd, x_goto, b_X6_eRead_57, b_X6_eRead_61, b_X6_eRead_75, b_X6_eRead_84, x_loadI_2, b_X6_eRead_88, y_if_ne_t, y_if_ne_f, b_X6_eRead_97, x_ret1_0, x_ret1_1, b_X6_eRead_99, b_X6_eRead_108, b_X6_eRead_117, b_X6_eRead_119, b_X6_eRead_124, b_X6_eRead_133, b_X6_eRead_141, b_X6_eRead_143, b_X6_eRead_148, b_X6_eRead_150, b_X6_eRead_159, f_6_25, b_X6_eRead_171, b_X6_eRead_175, b_X6_eRead_176, b_X6_eRead_177, b_X6_eRead_186, b_X6_eRead_198, b_X6_eRead_200, x_dupI, x_dupR, x_isub, f_6_26, b_X6_eRead_229, x_storeI_3, x_loadI_3, b_X6_eRead_239, b_X6_eRead_247, b_X6_eRead_249, y_ic_gt_t, y_ic_gt_f, b_X6_eRead_257, b_X6_eRead_261, b_X6_eRead_262, q_isL_I, q_isL_R, q_isL_S, true_and, and_true, and_self, List.length_nil, List.length_cons, Nat.zero_add, x_K, x_Kn, Int.reduceToNat, Nat.reduceAdd, Nat.reduceMul, Nat.reduceLeDiff, Nat.reduceLT, Nat.zero_le, Int.reduceAdd, Int.reduceSub, Int.reduceMul, Int.reduceNeg, q_add_e, q_sub_e, q_mul_e, q_neg_e, q_upd_s, q_upd_n, zr_shr0, zr_shr1, zr_shr2, zr_shr3, zr_shr4, zr_and, zr_dyn8, zr_or, zr_shl, q_cpy_n, y_cpy26, c_X6_opensOne]
            refine mp_opensOneX (d := d + 1) k25 (by omega) (by omega) (fun c5 => ?_) (fun c5 => ?_)
            · rw [if_pos (by rw [← k26]; exact c5)] at hstd
              simp (disch := omega) only [b_X6_eRead_0, x_loadR_0, x_loadS_0, x_iconst, p_6_25, p_6_26, x_storeI_1, x_storeI_2, x_loadI_1, y_if_eq_t, y_if_eq_f, b_X6_eRead_22, f_6_21, y_ic_eq_t, y_ic_eq_f, b_X6_eRead_30, y_ic_ne_t, y_ic_ne_f, b_X6_eRead_38, b_X6_eRead_47, f_6_22, x_iadd, x_goto, b_X6_eRead_57, b_X6_eRead_61, b_X6_eRead_75, b_X6_eRead_84, x_loadI_2, b_X6_eRead_88, y_if_ne_t, y_if_ne_f, b_X6_eRead_97, x_ret1_0, x_ret1_1, b_X6_eRead_99, b_X6_eRead_108, b_X6_eRead_117, b_X6_eRead_119, b_X6_eRead_124, b_X6_eRead_133, b_X6_eRead_141, b_X6_eRead_143, b_X6_eRead_148, b_X6_eRead_150, b_X6_eRead_159, f_6_25, b_X6_eRead_171, b_X6_eRead_175, b_X6_eRead_176, b_X6_eRead_177, b_X6_eRead_186, b_X6_eRead_198, b_X6_eRead_200, x_dupI, x_dupR, x_isub, f_6_26, b_X6_eRead_229, x_storeI_3, x_loadI_3, b_X6_eRead_239, b_X6_eRead_247, b_X6_eRead_249, y_ic_gt_t, y_ic_gt_f, b_X6_eRead_257, b_X6_eRead_261, b_X6_eRead_262, q_isL_I, q_isL_R, q_isL_S, true_and, and_true, and_self, List.length_nil, List.length_cons, Nat.zero_add, x_K, x_Kn, Int.reduceToNat, Nat.reduceAdd, Nat.reduceMul, Nat.reduceLeDiff, Nat.reduceLT, Nat.zero_le, Int.reduceAdd, Int.reduceSub, Int.reduceMul, Int.reduceNeg, q_add_e, q_sub_e, q_mul_e, q_neg_e, q_upd_s, q_upd_n, zr_shr0, zr_shr1, zr_shr2, zr_shr3, zr_shr4, zr_and, zr_dyn8, zr_or, zr_shl, q_cpy_n, y_cpy26]
              exact bad hstd M2 q_ufr_rf
            · rw [if_neg (by rw [← k26]; exact c5)] at hstd
              simp (disch := omega) only [b_X6_eRead_0, x_loadR_0, x_loadS_0, x_iconst, p_6_25, p_6_26, x_storeI_1, x_storeI_2, x_loadI_1, y_if_eq_t, y_if_eq_f, b_X6_eRead_22, f_6_21, y_ic_eq_t, y_ic_eq_f, b_X6_eRead_30, y_ic_ne_t, y_ic_ne_f, b_X6_eRead_38, b_X6_eRead_47, f_6_22, x_iadd, x_goto, b_X6_eRead_57, b_X6_eRead_61, b_X6_eRead_75, b_X6_eRead_84, x_loadI_2, b_X6_eRead_88, y_if_ne_t, y_if_ne_f, b_X6_eRead_97, x_ret1_0, x_ret1_1, b_X6_eRead_99, b_X6_eRead_108, b_X6_eRead_117, b_X6_eRead_119, b_X6_eRead_124, b_X6_eRead_133, b_X6_eRead_141, b_X6_eRead_143, b_X6_eRead_148, b_X6_eRead_150, b_X6_eRead_159, f_6_25, b_X6_eRead_171, b_X6_eRead_175, b_X6_eRead_176, b_X6_eRead_177, b_X6_eRead_186, b_X6_eRead_198, b_X6_eRead_200, x_dupI, x_dupR, x_isub, f_6_26, b_X6_eRead_229, x_storeI_3, x_loadI_3, b_X6_eRead_239, b_X6_eRead_247, b_X6_eRead_249, y_ic_gt_t, y_ic_gt_f, b_X6_eRead_257, b_X6_eRead_261, b_X6_eRead_262, q_isL_I, q_isL_R, q_isL_S, true_and, and_true, and_self, List.length_nil, List.length_cons, Nat.zero_add, x_K, x_Kn, Int.reduceToNat, Nat.reduceAdd, Nat.reduceMul, Nat.reduceLeDiff, Nat.reduceLT, Nat.zero_le, Int.reduceAdd, Int.reduceSub, Int.reduceMul, Int.reduceNeg, q_add_e, q_sub_e, q_mul_e, q_neg_e, q_upd_s, q_upd_n, zr_shr0, zr_shr1, zr_shr2, zr_shr3, zr_shr4, zr_and, zr_dyn8, zr_or, zr_shl, q_cpy_n, y_cpy26]
              exact opn 19 false (by omega) hstd
          · rw [if_neg t45] at hstd
            have x45 : M2 100 21 ≠ 45 := fun z => t45 (ti45.mp z)
            by_cases t40 : t = 40
            · rw [if_pos t40] at hstd
              have x40 : M2 100 21 = 40 := ti40.mpr t40
              simp (disch := omega) only [b_X6_eRead_0, x_loadR_0, x_loadS_0, x_iconst, p_6_25, p_6_26, x_storeI_1, x_storeI_2, x_loadI_1, y_if_eq_t, y_if_eq_f, b_X6_eRead_22, f_6_21, y_ic_eq_t, y_ic_eq_f, b_X6_eRead_30, y_ic_ne_t, y_ic_ne_f, b_X6_eRead_38, b_X6_eRead_47, f_6_22, x_iadd, x_goto, b_X6_eRead_57, b_X6_eRead_61, b_X6_eRead_75, b_X6_eRead_84, x_loadI_2, b_X6_eRead_88, y_if_ne_t, y_if_ne_f, b_X6_eRead_97, x_ret1_0, x_ret1_1, b_X6_eRead_99, b_X6_eRead_108, b_X6_eRead_117, b_X6_eRead_119, b_X6_eRead_124, b_X6_eRead_133, b_X6_eRead_141, b_X6_eRead_143, b_X6_eRead_148, b_X6_eRead_150, b_X6_eRead_159, f_6_25, b_X6_eRead_171, b_X6_eRead_175, b_X6_eRead_176, b_X6_eRead_177, b_X6_eRead_186, b_X6_eRead_198, b_X6_eRead_200, x_dupI, x_dupR, x_isub, f_6_26, b_X6_eRead_229, x_storeI_3, x_loadI_3, b_X6_eRead_239, b_X6_eRead_247, b_X6_eRead_249, y_ic_gt_t, y_ic_gt_f, b_X6_eRead_257, b_X6_eRead_261, b_X6_eRead_262, q_isL_I, q_isL_R, q_isL_S, true_and, and_true, and_self, List.length_nil, List.length_cons, Nat.zero_add, x_K, x_Kn, Int.reduceToNat, Nat.reduceAdd, Nat.reduceMul, Nat.reduceLeDiff, Nat.reduceLT, Nat.zero_le, Int.reduceAdd, Int.reduceSub, Int.reduceMul, Int.reduceNeg, q_add_e, q_sub_e, q_mul_e, q_neg_e, q_upd_s, q_upd_n, zr_shr0, zr_shr1, zr_shr2, zr_shr3, zr_shr4, zr_and, zr_dyn8, zr_or, zr_shl, q_cpy_n, y_cpy26, c_X6_opensOne]
              refine mp_opensOneX (d := d + 1) k25 (by omega) (by omega) (fun c5 => ?_) (fun c5 => ?_)
              · rw [if_pos (by rw [← k26]; exact c5)] at hstd
                simp (disch := omega) only [b_X6_eRead_0, x_loadR_0, x_loadS_0, x_iconst, p_6_25, p_6_26, x_storeI_1, x_storeI_2, x_loadI_1, y_if_eq_t, y_if_eq_f, b_X6_eRead_22, f_6_21, y_ic_eq_t, y_ic_eq_f, b_X6_eRead_30, y_ic_ne_t, y_ic_ne_f, b_X6_eRead_38, b_X6_eRead_47, f_6_22, x_iadd, x_goto, b_X6_eRead_57, b_X6_eRead_61, b_X6_eRead_75, b_X6_eRead_84, x_loadI_2, b_X6_eRead_88, y_if_ne_t, y_if_ne_f, b_X6_eRead_97, x_ret1_0, x_ret1_1, b_X6_eRead_99, b_X6_eRead_108, b_X6_eRead_117, b_X6_eRead_119, b_X6_eRead_124, b_X6_eRead_133, b_X6_eRead_141, b_X6_eRead_143, b_X6_eRead_148, b_X6_eRead_150, b_X6_eRead_159, f_6_25, b_X6_eRead_171, b_X6_eRead_175, b_X6_eRead_176, b_X6_eRead_177, b_X6_eRead_186, b_X6_eRead_198, b_X6_eRead_200, x_dupI, x_dupR, x_isub, f_6_26, b_X6_eRead_229, x_storeI_3, x_loadI_3, b_X6_eRead_239, b_X6_eRead_247, b_X6_eRead_249, y_ic_gt_t, y_ic_gt_f, b_X6_eRead_257, b_X6_eRead_261, b_X6_eRead_262, q_isL_I, q_isL_R, q_isL_S, true_and, and_true, and_self, List.length_nil, List.length_cons, Nat.zero_add, x_K, x_Kn, Int.reduceToNat, Nat.reduceAdd, Nat.reduceMul, Nat.reduceLeDiff, Nat.reduceLT, Nat.zero_le, Int.reduceAdd, Int.reduceSub, Int.reduceMul, Int.reduceNeg, q_add_e, q_sub_e, q_mul_e, q_neg_e, q_upd_s, q_upd_n, zr_shr0, zr_shr1, zr_shr2, zr_shr3, zr_shr4, zr_and, zr_dyn8, zr_or, zr_shl, q_cpy_n, y_cpy26]
                exact bad hstd M2 q_ufr_rf
              · rw [if_neg (by rw [← k26]; exact c5)] at hstd
                simp (disch := omega) only [b_X6_eRead_0, x_loadR_0, x_loadS_0, x_iconst, p_6_25, p_6_26, x_storeI_1, x_storeI_2, x_loadI_1, y_if_eq_t, y_if_eq_f, b_X6_eRead_22, f_6_21, y_ic_eq_t, y_ic_eq_f, b_X6_eRead_30, y_ic_ne_t, y_ic_ne_f, b_X6_eRead_38, b_X6_eRead_47, f_6_22, x_iadd, x_goto, b_X6_eRead_57, b_X6_eRead_61, b_X6_eRead_75, b_X6_eRead_84, x_loadI_2, b_X6_eRead_88, y_if_ne_t, y_if_ne_f, b_X6_eRead_97, x_ret1_0, x_ret1_1, b_X6_eRead_99, b_X6_eRead_108, b_X6_eRead_117, b_X6_eRead_119, b_X6_eRead_124, b_X6_eRead_133, b_X6_eRead_141, b_X6_eRead_143, b_X6_eRead_148, b_X6_eRead_150, b_X6_eRead_159, f_6_25, b_X6_eRead_171, b_X6_eRead_175, b_X6_eRead_176, b_X6_eRead_177, b_X6_eRead_186, b_X6_eRead_198, b_X6_eRead_200, x_dupI, x_dupR, x_isub, f_6_26, b_X6_eRead_229, x_storeI_3, x_loadI_3, b_X6_eRead_239, b_X6_eRead_247, b_X6_eRead_249, y_ic_gt_t, y_ic_gt_f, b_X6_eRead_257, b_X6_eRead_261, b_X6_eRead_262, q_isL_I, q_isL_R, q_isL_S, true_and, and_true, and_self, List.length_nil, List.length_cons, Nat.zero_add, x_K, x_Kn, Int.reduceToNat, Nat.reduceAdd, Nat.reduceMul, Nat.reduceLeDiff, Nat.reduceLT, Nat.zero_le, Int.reduceAdd, Int.reduceSub, Int.reduceMul, Int.reduceNeg, q_add_e, q_sub_e, q_mul_e, q_neg_e, q_upd_s, q_upd_n, zr_shr0, zr_shr1, zr_shr2, zr_shr3, zr_shr4, zr_and, zr_dyn8, zr_or, zr_shl, q_cpy_n, y_cpy26]
                exact opn 0 true (by omega) hstd
            · rw [if_neg t40] at hstd
              have x40 : M2 100 21 ≠ 40 := fun z => t40 (ti40.mp z)
              simp (disch := omega) only [b_X6_eRead_0, x_loadR_0, x_loadS_0, x_iconst, p_6_25, p_6_26, x_storeI_1, x_storeI_2, x_loadI_1, y_if_eq_t, y_if_eq_f, b_X6_eRead_22, f_6_21, y_ic_eq_t, y_ic_eq_f, b_X6_eRead_30, y_ic_ne_t, y_ic_ne_f, b_X6_eRead_38, b_X6_eRead_47, f_6_22, x_iadd, x_goto, b_X6_eRead_57, b_X6_eRead_61, b_X6_eRead_75, b_X6_eRead_84, x_loadI_2, b_X6_eRead_88, y_if_ne_t, y_if_ne_f, b_X6_eRead_97, x_ret1_0, x_ret1_1, b_X6_eRead_99, b_X6_eRead_108, b_X6_eRead_117, b_X6_eRead_119, b_X6_eRead_124, b_X6_eRead_133, b_X6_eRead_141, b_X6_eRead_143, b_X6_eRead_148, b_X6_eRead_150, b_X6_eRead_159, f_6_25, b_X6_eRead_171, b_X6_eRead_175, b_X6_eRead_176, b_X6_eRead_177, b_X6_eRead_186, b_X6_eRead_198, b_X6_eRead_200, x_dupI, x_dupR, x_isub, f_6_26, b_X6_eRead_229, x_storeI_3, x_loadI_3, b_X6_eRead_239, b_X6_eRead_247, b_X6_eRead_249, y_ic_gt_t, y_ic_gt_f, b_X6_eRead_257, b_X6_eRead_261, b_X6_eRead_262, q_isL_I, q_isL_R, q_isL_S, true_and, and_true, and_self, List.length_nil, List.length_cons, Nat.zero_add, x_K, x_Kn, Int.reduceToNat, Nat.reduceAdd, Nat.reduceMul, Nat.reduceLeDiff, Nat.reduceLT, Nat.zero_le, Int.reduceAdd, Int.reduceSub, Int.reduceMul, Int.reduceNeg, q_add_e, q_sub_e, q_mul_e, q_neg_e, q_upd_s, q_upd_n, zr_shr0, zr_shr1, zr_shr2, zr_shr3, zr_shr4, zr_and, zr_dyn8, zr_or, zr_shl, q_cpy_n, y_cpy26]
              exact bad hstd M2 q_ufr_rf
        by_cases t10 : t = -10
        · have x6 : M2 100 21 = 6 := ti6.mpr t10
          cases my with
          | false =>
            have eb : Y_b false = 0 := rfl
            rw [eb] at minus ⊢
            simp (disch := omega) only [b_X6_eRead_0, x_loadR_0, x_loadS_0, x_iconst, p_6_25, p_6_26, x_storeI_1, x_storeI_2, x_loadI_1, y_if_eq_t, y_if_eq_f, b_X6_eRead_22, f_6_21, y_ic_eq_t, y_ic_eq_f, b_X6_eRead_30, y_ic_ne_t, y_ic_ne_f, b_X6_eRead_38, b_X6_eRead_47, f_6_22, x_iadd, x_goto, b_X6_eRead_57, b_X6_eRead_61, b_X6_eRead_75, b_X6_eRead_84, x_loadI_2, b_X6_eRead_88, y_if_ne_t, y_if_ne_f, b_X6_eRead_97, x_ret1_0, x_ret1_1, b_X6_eRead_108, b_X6_eRead_117, b_X6_eRead_119, b_X6_eRead_124, b_X6_eRead_133, b_X6_eRead_141, b_X6_eRead_143, b_X6_eRead_148, b_X6_eRead_150, b_X6_eRead_159, f_6_25, b_X6_eRead_171, b_X6_eRead_175, b_X6_eRead_176, b_X6_eRead_177, b_X6_eRead_186, b_X6_eRead_198, b_X6_eRead_200, x_dupI, x_dupR, x_isub, f_6_26, b_X6_eRead_229, x_storeI_3, x_loadI_3, b_X6_eRead_239, b_X6_eRead_247, b_X6_eRead_249, y_ic_gt_t, y_ic_gt_f, b_X6_eRead_257, b_X6_eRead_261, b_X6_eRead_262, q_isL_I, q_isL_R, q_isL_S, true_and, and_true, and_self, List.length_nil, List.length_cons, Nat.zero_add, x_K, x_Kn, Int.reduceToNat, Nat.reduceAdd, Nat.reduceMul, Nat.reduceLeDiff, Nat.reduceLT, Nat.zero_le, Int.reduceAdd, Int.reduceSub, Int.reduceMul, Int.reduceNeg, q_add_e, q_sub_e, q_mul_e, q_neg_e, q_upd_s, q_upd_n, zr_shr0, zr_shr1, zr_shr2, zr_shr3, zr_shr4, zr_and, zr_dyn8, zr_or, zr_shl, q_cpy_n, y_cpy26]
            exact minus (fun z => absurd z.2 (by decide))
          | true =>
            rw [if_pos ⟨t10, rfl⟩] at hstd
            have eb : Y_b true = 1 := rfl
            rw [eb]
            simp (disch := omega) only [b_X6_eRead_0, x_loadR_0, x_loadS_0, x_iconst, p_6_25, p_6_26, x_storeI_1, x_storeI_2, x_loadI_1, y_if_eq_t, y_if_eq_f, b_X6_eRead_22, f_6_21, y_ic_eq_t, y_ic_eq_f, b_X6_eRead_30, y_ic_ne_t, y_ic_ne_f, b_X6_eRead_38, b_X6_eRead_47, f_6_22, x_iadd, x_goto, b_X6_eRead_57, b_X6_eRead_61, b_X6_eRead_75, b_X6_eRead_84, x_loadI_2, b_X6_eRead_88, y_if_ne_t, y_if_ne_f, b_X6_eRead_97, x_ret1_0, x_ret1_1, b_X6_eRead_108, b_X6_eRead_117, b_X6_eRead_119, b_X6_eRead_124, b_X6_eRead_133, b_X6_eRead_141, b_X6_eRead_143, b_X6_eRead_148, b_X6_eRead_150, b_X6_eRead_159, f_6_25, b_X6_eRead_171, b_X6_eRead_175, b_X6_eRead_176, b_X6_eRead_177, b_X6_eRead_186, b_X6_eRead_198, b_X6_eRead_200, x_dupI, x_dupR, x_isub, f_6_26, b_X6_eRead_229, x_storeI_3, x_loadI_3, b_X6_eRead_239, b_X6_eRead_247, b_X6_eRead_249, y_ic_gt_t, y_ic_gt_f, b_X6_eRead_257, b_X6_eRead_261, b_X6_eRead_262, q_isL_I, q_isL_R, q_isL_S, true_and, and_true, and_self, List.length_nil, List.length_cons, Nat.zero_add, x_K, x_Kn, Int.reduceToNat, Nat.reduceAdd, Nat.reduceMul, Nat.reduceLeDiff, Nat.reduceLT, Nat.zero_le, Int.reduceAdd, Int.reduceSub, Int.reduceMul, Int.reduceNeg, q_add_e, q_sub_e, q_mul_e, q_neg_e, q_upd_s, q_upd_n, zr_shr0, zr_shr1, zr_shr2, zr_shr3, zr_shr4, zr_and, zr_dyn8, zr_or, zr_shl, q_cpy_n, y_cpy26, c_X6_opensOne]
            refine mp_opensOneX (d := d + 1) k25 (by omega) (by omega) (fun c5 => ?_) (fun c5 => ?_)
            · rw [if_pos (by rw [← k26]; exact c5)] at hstd
              simp (disch := omega) only [b_X6_eRead_0, x_loadR_0, x_loadS_0, x_iconst, p_6_25, p_6_26, x_storeI_1, x_storeI_2, x_loadI_1, y_if_eq_t, y_if_eq_f, b_X6_eRead_22, f_6_21, y_ic_eq_t, y_ic_eq_f, b_X6_eRead_30, y_ic_ne_t, y_ic_ne_f, b_X6_eRead_38, b_X6_eRead_47, f_6_22, x_iadd, x_goto, b_X6_eRead_57, b_X6_eRead_61, b_X6_eRead_75, b_X6_eRead_84, x_loadI_2, b_X6_eRead_88, y_if_ne_t, y_if_ne_f, b_X6_eRead_97, x_ret1_0, x_ret1_1, b_X6_eRead_108, b_X6_eRead_117, b_X6_eRead_119, b_X6_eRead_124, b_X6_eRead_133, b_X6_eRead_141, b_X6_eRead_143, b_X6_eRead_148, b_X6_eRead_150, b_X6_eRead_159, f_6_25, b_X6_eRead_171, b_X6_eRead_175, b_X6_eRead_176, b_X6_eRead_177, b_X6_eRead_186, b_X6_eRead_198, b_X6_eRead_200, x_dupI, x_dupR, x_isub, f_6_26, b_X6_eRead_229, x_storeI_3, x_loadI_3, b_X6_eRead_239, b_X6_eRead_247, b_X6_eRead_249, y_ic_gt_t, y_ic_gt_f, b_X6_eRead_257, b_X6_eRead_261, b_X6_eRead_262, q_isL_I, q_isL_R, q_isL_S, true_and, and_true, and_self, List.length_nil, List.length_cons, Nat.zero_add, x_K, x_Kn, Int.reduceToNat, Nat.reduceAdd, Nat.reduceMul, Nat.reduceLeDiff, Nat.reduceLT, Nat.zero_le, Int.reduceAdd, Int.reduceSub, Int.reduceMul, Int.reduceNeg, q_add_e, q_sub_e, q_mul_e, q_neg_e, q_upd_s, q_upd_n, zr_shr0, zr_shr1, zr_shr2, zr_shr3, zr_shr4, zr_and, zr_dyn8, zr_or, zr_shl, q_cpy_n, y_cpy26]
              exact bad hstd M2 q_ufr_rf
            · rw [if_neg (by rw [← k26]; exact c5)] at hstd
              simp (disch := omega) only [b_X6_eRead_0, x_loadR_0, x_loadS_0, x_iconst, p_6_25, p_6_26, x_storeI_1, x_storeI_2, x_loadI_1, y_if_eq_t, y_if_eq_f, b_X6_eRead_22, f_6_21, y_ic_eq_t, y_ic_eq_f, b_X6_eRead_30, y_ic_ne_t, y_ic_ne_f, b_X6_eRead_38, b_X6_eRead_47, f_6_22, x_iadd, x_goto, b_X6_eRead_57, b_X6_eRead_61, b_X6_eRead_75, b_X6_eRead_84, x_loadI_2, b_X6_eRead_88, y_if_ne_t, y_if_ne_f, b_X6_eRead_97, x_ret1_0, x_ret1_1, b_X6_eRead_108, b_X6_eRead_117, b_X6_eRead_119, b_X6_eRead_124, b_X6_eRead_133, b_X6_eRead_141, b_X6_eRead_143, b_X6_eRead_148, b_X6_eRead_150, b_X6_eRead_159, f_6_25, b_X6_eRead_171, b_X6_eRead_175, b_X6_eRead_176, b_X6_eRead_177, b_X6_eRead_186, b_X6_eRead_198, b_X6_eRead_200, x_dupI, x_dupR, x_isub, f_6_26, b_X6_eRead_229, x_storeI_3, x_loadI_3, b_X6_eRead_239, b_X6_eRead_247, b_X6_eRead_249, y_ic_gt_t, y_ic_gt_f, b_X6_eRead_257, b_X6_eRead_261, b_X6_eRead_262, q_isL_I, q_isL_R, q_isL_S, true_and, and_true, and_self, List.length_nil, List.length_cons, Nat.zero_add, x_K, x_Kn, Int.reduceToNat, Nat.reduceAdd, Nat.reduceMul, Nat.reduceLeDiff, Nat.reduceLT, Nat.zero_le, Int.reduceAdd, Int.reduceSub, Int.reduceMul, Int.reduceNeg, q_add_e, q_sub_e, q_mul_e, q_neg_e, q_upd_s, q_upd_n, zr_shr0, zr_shr1, zr_shr2, zr_shr3, zr_shr4, zr_and, zr_dyn8, zr_or, zr_shl, q_cpy_n, y_cpy26]
              exact opn 13 true (by omega) hstd
        · have x6 : M2 100 21 ≠ 6 := fun z => t10 (ti6.mp z)
          simp (disch := omega) only [b_X6_eRead_0, x_loadR_0, x_loadS_0, x_iconst, p_6_25, p_6_26, x_storeI_1, x_storeI_2, x_loadI_1, y_if_eq_t, y_if_eq_f, b_X6_eRead_22, f_6_21, y_ic_eq_t, y_ic_eq_f, b_X6_eRead_30, y_ic_ne_t, y_ic_ne_f, b_X6_eRead_38, b_X6_eRead_47, f_6_22, x_iadd, x_goto, b_X6_eRead_57, b_X6_eRead_61, b_X6_eRead_75, b_X6_eRead_84, x_loadI_2, b_X6_eRead_88, y_if_ne_t, y_if_ne_f, b_X6_eRead_97, x_ret1_0, x_ret1_1, b_X6_eRead_108, b_X6_eRead_117, b_X6_eRead_119, b_X6_eRead_124, b_X6_eRead_133, b_X6_eRead_141, b_X6_eRead_143, b_X6_eRead_148, b_X6_eRead_150, b_X6_eRead_159, f_6_25, b_X6_eRead_171, b_X6_eRead_175, b_X6_eRead_176, b_X6_eRead_177, b_X6_eRead_186, b_X6_eRead_198, b_X6_eRead_200, x_dupI, x_dupR, x_isub, f_6_26, b_X6_eRead_229, x_storeI_3, x_loadI_3, b_X6_eRead_239, b_X6_eRead_247, b_X6_eRead_249, y_ic_gt_t, y_ic_gt_f, b_X6_eRead_257, b_X6_eRead_261, b_X6_eRead_262, q_isL_I, q_isL_R, q_isL_S, true_and, and_true, and_self, List.length_nil, List.length_cons, Nat.zero_add, x_K, x_Kn, Int.reduceToNat, Nat.reduceAdd, Nat.reduceMul, Nat.reduceLeDiff, Nat.reduceLT, Nat.zero_le, Int.reduceAdd, Int.reduceSub, Int.reduceMul, Int.reduceNeg, q_add_e, q_sub_e, q_mul_e, q_neg_e, q_upd_s, q_upd_n, zr_shr0, zr_shr1, zr_shr2, zr_shr3, zr_shr4, zr_and, zr_dyn8, zr_or, zr_shl, q_cpy_n, y_cpy26]
          exact minus (fun z => t10 z.1)
  have hi0 := q_Yi_0 (O := O0) (a := at0) (by omega)
  rw [hsl] at hi0
  simp (disch := omega) only [b_X6_eRead_0, x_loadR_0, x_loadS_0, x_iconst, p_6_25, p_6_26, x_storeI_1, x_storeI_2, x_loadI_1, y_if_eq_t, y_if_eq_f, b_X6_eRead_22, f_6_21, y_ic_eq_t, y_ic_eq_f, b_X6_eRead_30, y_ic_ne_t, y_ic_ne_f, b_X6_eRead_38, b_X6_eRead_47, f_6_22, x_iadd, x_goto, b_X6_eRead_57, b_X6_eRead_61, b_X6_eRead_75, b_X6_eRead_84, x_loadI_2, b_X6_eRead_88, y_if_ne_t, y_if_ne_f, b_X6_eRead_97, x_ret1_0, x_ret1_1, b_X6_eRead_99, b_X6_eRead_108, b_X6_eRead_117, b_X6_eRead_119, b_X6_eRead_124, b_X6_eRead_133, b_X6_eRead_141, b_X6_eRead_143, b_X6_eRead_148, b_X6_eRead_150, b_X6_eRead_159, f_6_25, b_X6_eRead_171, b_X6_eRead_175, b_X6_eRead_176, b_X6_eRead_177, b_X6_eRead_186, b_X6_eRead_198, b_X6_eRead_200, x_dupI, x_dupR, x_isub, f_6_26, b_X6_eRead_229, x_storeI_3, x_loadI_3, b_X6_eRead_239, b_X6_eRead_247, b_X6_eRead_249, y_ic_gt_t, y_ic_gt_f, b_X6_eRead_257, b_X6_eRead_261, b_X6_eRead_262, q_isL_I, q_isL_R, q_isL_S, true_and, and_true, and_self, List.length_nil, List.length_cons, Nat.zero_add, x_K, x_Kn, Int.reduceToNat, Nat.reduceAdd, Nat.reduceMul, Nat.reduceLeDiff, Nat.reduceLT, Nat.zero_le, Int.reduceAdd, Int.reduceSub, Int.reduceMul, Int.reduceNeg, q_add_e, q_sub_e, q_mul_e, q_neg_e, q_upd_s, q_upd_n, zr_shr0, zr_shr1, zr_shr2, zr_shr3, zr_shr4, zr_and, zr_dyn8, zr_or, zr_shl, q_cpy_n, y_cpy26]
  refine loop kf true true [] 0 O0 at0 _ _ rfl hkf hi0 h0 ⟨?_, ?_, ?_, trivial, ?_⟩ (q_efr_u (q_ufr_up (q_ufr_up q_ufr_rf (by omega)) (by omega))) (by simp (disch := omega) only [q_upd_n]; exact h19)
  · simp (disch := omega) only [q_upd_n, q_upd_s]
    rfl
  · simp (disch := omega) only [q_upd_n, q_upd_s]
  · simp (disch := omega) only [q_upd_n]
    rw [hs, hsl]
  · exact q_oL_c (fun i _ => by simp (disch := omega) only [q_upd_n]) ho
end
section
/-! THE MODEL'S READER: a text, just so -/
/-- what reading a text changes in the model -/
def q_txf (tm : Nat) (M M2 : q_M) : Prop := ∀ a i, (a = 106 → i < 200 * tm ∨ 200 * tm + 200 ≤ i) → (a = 107 → i < 4 * tm ∨ 4 * tm + 4 ≤ i) → (a = 100 → i ≠ 7 ∧ i ≠ 10 ∧ i ≠ 19 ∧ i ≠ 20 ∧ i ≠ 21 ∧ i ≠ 22 ∧ i ≠ 25 ∧ i ≠ 26 ∧ i ≠ 27) → a ≠ 115 → M2 a i = M a i
theorem q_txf_t {tm : Nat} {M M2 : q_M} (h : q_tfr tm M M2) : q_txf tm M M2 := fun a i q1 q2 q3 q4 => h a i q1 q2 (fun z => by have := q3 z; omega) q4
/-- the parts read so far, none deep -/
def q_tpx (tm i : Nat) (S : Nat → Nat) (M : q_M) : Prop := (∀ p, p < i → M 107 (4 * tm + p) = S p) ∧ M 100 27 = S i ∧ (∀ p, p < i → S (p + 1) ≤ S i) ∧ ∀ p, p < i → S p < S (p + 1) ∧ ∃ D, q_wfP (fun i => M 106 (200 * tm + i)) (S p) (S (p + 1)) D ∧ D (S (p + 1)) = 1 ∧ ∀ j, j ≤ S (p + 1) → D j ≤ 31
theorem q_tpx_nxf {tm i : Nat} {S : Nat → Nat} {M M2 : q_M} (h : q_tpx tm i S M) (hf : q_nxf M M2) : q_tpx tm i S M2 := ⟨fun p hp => (hf 107 _ (by omega)).trans (h.1 p hp), (hf 100 27 (by omega)).trans h.2.1, h.2.2.1, fun p hp => by
  obtain ⟨h1, D, h2, h3, h4⟩ := h.2.2.2 p hp
  exact ⟨h1, D, q_wfP_c h2 (fun j _ => hf 106 _ (by omega)), h3, h4⟩⟩
set_option maxHeartbeats 16000000 in
theorem mw_textX {Vt : Nat → Nat → (Nat → Int) → Int} {d tm n : Nat} {res : Option Nat} {O2 : List Int} {s2 : Nat → Nat} {g : q_G} {M : q_M} {Q : Option q_V → q_G → q_M → Prop} (hI : q_MI Vt tm M) (hwd : q_mwd M) (htm : tm < 6) (hn : M 100 7 = n) (hx : Y_tx (M 105) n 3 0 0 [] (fun _ => 0) res O2 s2)
    (hq0 : ∀ (f : Nat) (M2 : q_M), res = some f → q_MI Vt tm M2 → q_txf tm M M2 → M2 100 7 = 0 → M2 100 10 = tm → Q (some (qI (-100 - f))) g M2)
    (hq1 : ∀ M2 : q_M, res = none → q_MI (q_Vadd Vt tm (q_V1 (fun i => M2 106 (200 * tm + i)) (fun i => M2 107 (4 * tm + i)))) (tm + 1) M2 → q_txf tm M M2 → M2 100 7 = 0 → M2 100 10 = (tm : Int) + 1 → q_oL (fun i => M2 106 (200 * tm + i)) O2 → (∀ p, p < 4 → M2 107 (4 * tm + p) = s2 p) → (∀ p, p < 3 → s2 p < s2 (p + 1) ∧ s2 (p + 1) ≤ O2.length ∧ ∃ D, q_wfP (fun i => M2 106 (200 * tm + i)) (s2 p) (s2 (p + 1)) D ∧ D (s2 (p + 1)) = 1 ∧ ∀ j, j ≤ s2 (p + 1) → D j ≤ 31) → Q (some (qI tm)) g M2) : q_S 1 (d + 11) 133 [qR 6 100] g M Q := by
  have h10 := hI.2.2.2.2.1.2.2.1
  have hn2 : n ≤ 160 := by have := hI.2.2.2.2.2.2.1; omega
  rw [s_X6_text]
  have t3 : (4 * (tm : Int) + 3).toNat = 4 * tm + 3 := by omega
  have fail : ∀ (f : Nat) (M1 : q_M) (l2 : q_V), res = some f → q_isL l2 = false → q_tfr tm M M1 → M1 100 20 = (f : Nat) → q_T 1 (d + 11) qP_X6_text 122 [] [qR 6 100, qI 0, l2] [] g M1 Q := by
    intro f M1 l2 hrf i2 hf f20
    have e10 : M1 100 10 = tm := (hf 100 10 (by omega) (by omega) (by omega) (by omega)).trans h10
    have hf2 := q_tfr_up (v := 0) (q_tfr_up (v := M1 100 27) hf (Or.inl ⟨rfl, show 4 * tm ≤ 4 * tm + 3 by omega, by omega⟩)) (Or.inr ⟨rfl, Or.inl rfl⟩)
    have := hq0 f _ hrf (q_MI_tfr hI hf2 (by rw [q_upd_s]; omega)) (q_txf_t hf2) (by rw [q_upd_s]) (by simp (disch := omega) only [q_upd_n]; exact e10)
    by_cases hb : (f : Int) ≤ 1000000
    · rw [b_X6_text_122]
      simp (disch := omega) only [b_X6_text_0, x_loadR_0, x_loadS_0, f_6_10, x_iconst, y_ic_ne_t, y_ic_ne_f, b_X6_text_9, x_ret0, b_X6_text_12, p_6_19, p_6_27, x_storeI_1, x_storeI_2, x_loadI_2, y_ic_ge_t, y_ic_ge_f, b_X6_text_31, x_loadI_1, y_if_eq_t, y_if_eq_f, b_X6_text_35, f_6_21, b_X6_text_47, f_6_22, b_X6_text_55, x_goto, b_X6_text_59, b_X6_text_60, f_6_9, x_imul, x_iadd, f_6_27, y_iast_44, b_X6_text_82, b_X6_text_89, b_X6_text_93, b_X6_text_94, x_iinc_2, b_X6_text_101, b_X6_text_105, y_if_ne_t, y_if_ne_f, b_X6_text_116, b_X6_text_120, b_X6_text_121, p_6_7, b_X6_text_148, f_6_20, x_isub, b_X6_text_156, x_dupI, x_dupR, p_6_10, q_isL_I, q_isL_R, q_isL_S, true_and, and_true, and_self, List.length_nil, List.length_cons, Nat.zero_add, x_K, x_Kn, Int.reduceToNat, Nat.reduceAdd, Nat.reduceMul, Nat.reduceLeDiff, Nat.reduceLT, Nat.zero_le, Int.reduceAdd, Int.reduceSub, Int.reduceMul, Int.reduceNeg, q_add_e, q_sub_e, q_mul_e, q_neg_e, q_upd_s, q_upd_n, zr_shr0, zr_shr1, zr_shr2, zr_shr3, zr_shr4, zr_and, zr_dyn8, zr_or, zr_shl, q_cpy_n, y_cpy26, e10, t3, f20]
      exact this
    · exfalso
      unfold Y_tx at hx
      exact hb (by
        have hall : ∀ (k p a : Nat) (O : List Int) (s : Nat → Nat), O.length ≤ a → a ≤ n → Y_tx (M 105) n k p a O s res O2 s2 → (f : Int) ≤ 160 := by
          intro k
          induction k with
          | zero =>
            intro p a O s hO ha h
            unfold Y_tx at h
            by_cases c : L_t (M 105) n a = -2
            · rw [if_pos c] at h
              rw [hrf] at h
              exact absurd h.1 (by simp)
            · rw [if_neg c, hrf] at h
              injection h with h
              have L := L_ok (T := M 105) ha
              omega
          | succ k ih =>
            intro p a O s hO ha h
            unfold Y_tx at h
            have L := L_ok (T := M 105) ha
            by_cases c : L_t (M 105) n a = -5 - p
            · rw [if_pos c] at h
              rcases h with ⟨f2, ⟨kf, h1⟩, h2⟩ | ⟨i, a2, O1, ⟨kf, h1⟩, h2⟩
              · rw [hrf] at h2
                injection h2 with h2
                have hh : ∀ (kf : Nat) (c : q_Yc), c.2.2.2 ≤ n → q_Yic O.length c → Y_rd (M 105) n kf c = some (false, f2, 0, []) → (f2 : Int) ≤ 160 := by
                  intro kf
                  induction kf with
                  | zero =>
                    intro c _ _ hc
                    rw [Y_rd] at hc
                    exact absurd hc (by simp)
                  | succ kf ih2 =>
                    intro c hca hic hc
                    rw [Y_rd] at hc
                    have sti := Y_st_i (T := M 105) hca hic
                    cases e : Y_st (M 105) n c with
                    | inl c2 =>
                      rw [e] at hc
                      have := sti.1 c2 e
                      exact ih2 c2 this.2 this.1 hc
                    | inr r =>
                      rw [e] at hc
                      injection hc with hc
                      subst hc
                      have hb : f2 = L_i (M 105) n c.2.2.2 := Y_st_f e
                      have L2 := L_ok (T := M 105) hca
                      omega
                have := hh kf _ (by show L_b (M 105) n a ≤ n; omega) (q_Yi_0 (O := O) (a := L_b (M 105) n a) (by omega)) h1
                omega
              · have hri := Y_rd_i (T := M 105) (n := n) (s := O.length) kf _ _ (by show L_b (M 105) n a ≤ n; omega) (q_Yi_0 (O := O) (a := L_b (M 105) n a) (by omega)) h1 rfl
                exact ih (p + 1) a2 O1 _ hri.2.1 hri.2.2.1 h2
            · rw [if_neg c, hrf] at h
              injection h with h
              omega
        have := hall 3 0 0 [] (fun _ => 0) (Nat.zero_le _) (Nat.zero_le _) (by unfold Y_tx; exact hx)
        omega)
  have fail2 : ∀ (f : Nat) (M1 : q_M) (i : Nat), res = some f → i ≤ 3 → q_tfr tm M M1 → M1 100 20 = (f : Nat) → q_T 1 (d + 11) qP_X6_text 26 [] [qR 6 100, qI 0, qI i] [] g M1 Q := by
    intro f M1 i hrf hi hf f20
    rw [b_X6_text_26]
    by_cases c : i = 3
    · simp (disch := omega) only [b_X6_text_0, x_loadR_0, x_loadS_0, f_6_10, x_iconst, y_ic_ne_t, y_ic_ne_f, b_X6_text_9, x_ret0, b_X6_text_12, p_6_19, p_6_27, x_storeI_1, x_storeI_2, x_loadI_2, y_ic_ge_t, y_ic_ge_f, b_X6_text_31, x_loadI_1, y_if_eq_t, y_if_eq_f, b_X6_text_35, f_6_21, b_X6_text_47, f_6_22, b_X6_text_55, x_goto, b_X6_text_59, b_X6_text_60, f_6_9, x_imul, x_iadd, f_6_27, y_iast_44, b_X6_text_82, b_X6_text_89, b_X6_text_93, b_X6_text_94, x_iinc_2, b_X6_text_101, b_X6_text_105, y_if_ne_t, y_if_ne_f, b_X6_text_116, b_X6_text_120, b_X6_text_121, p_6_7, b_X6_text_148, f_6_20, x_isub, b_X6_text_156, x_dupI, x_dupR, p_6_10, q_isL_I, q_isL_R, q_isL_S, true_and, and_true, and_self, List.length_nil, List.length_cons, Nat.zero_add, x_K, x_Kn, Int.reduceToNat, Nat.reduceAdd, Nat.reduceMul, Nat.reduceLeDiff, Nat.reduceLT, Nat.zero_le, Int.reduceAdd, Int.reduceSub, Int.reduceMul, Int.reduceNeg, q_add_e, q_sub_e, q_mul_e, q_neg_e, q_upd_s, q_upd_n, zr_shr0, zr_shr1, zr_shr2, zr_shr3, zr_shr4, zr_and, zr_dyn8, zr_or, zr_shl, q_cpy_n, y_cpy26]
      exact fail f M1 _ hrf rfl hf f20
    · simp (disch := omega) only [b_X6_text_0, x_loadR_0, x_loadS_0, f_6_10, x_iconst, y_ic_ne_t, y_ic_ne_f, b_X6_text_9, x_ret0, b_X6_text_12, p_6_19, p_6_27, x_storeI_1, x_storeI_2, x_loadI_2, y_ic_ge_t, y_ic_ge_f, b_X6_text_31, x_loadI_1, y_if_eq_t, y_if_eq_f, b_X6_text_35, f_6_21, b_X6_text_47, f_6_22, b_X6_text_55, x_goto, b_X6_text_59, b_X6_text_60, f_6_9, x_imul, x_iadd, f_6_27, y_iast_44, b_X6_text_82, b_X6_text_89, b_X6_text_93, b_X6_text_94, x_iinc_2, b_X6_text_101, b_X6_text_105, y_if_ne_t, y_if_ne_f, b_X6_text_116, b_X6_text_120, b_X6_text_121, p_6_7, b_X6_text_148, f_6_20, x_isub, b_X6_text_156, x_dupI, x_dupR, p_6_10, q_isL_I, q_isL_R, q_isL_S, true_and, and_true, and_self, List.length_nil, List.length_cons, Nat.zero_add, x_K, x_Kn, Int.reduceToNat, Nat.reduceAdd, Nat.reduceMul, Nat.reduceLeDiff, Nat.reduceLT, Nat.zero_le, Int.reduceAdd, Int.reduceSub, Int.reduceMul, Int.reduceNeg, q_add_e, q_sub_e, q_mul_e, q_neg_e, q_upd_s, q_upd_n, zr_shr0, zr_shr1, zr_shr2, zr_shr3, zr_shr4, zr_and, zr_dyn8, zr_or, zr_shl, q_cpy_n, y_cpy26]
      exact fail f M1 _ hrf rfl hf f20
  have loop : ∀ j i : Nat, i + j = 3 → ∀ (M1 : q_M) (at1 : Nat) (O : List Int) (s : Nat → Nat), Y_tx (M 105) n j i at1 O s res O2 s2 → q_tfr tm M M1 → M1 100 7 = n → M1 100 19 = at1 → at1 ≤ n → O.length ≤ at1 → q_oL (fun x => M1 106 (200 * tm + x)) O → q_tpx tm i (fun x => if x = i then O.length else s x) M1 → q_T 1 (d + 11) qP_X6_text 26 [] [qR 6 100, qI 1, qI i] [] g M1 Q := by
    intro j
    induction j with
    | zero =>
      intro i hi M1 at1 O s hx hf e7 e19 hat hS hO hT
      have ei : i = 3 := by omega
      subst ei
      have e5 : M1 105 = M 105 := funext (fun x => hf 105 x (by omega) (by omega) (by omega) (by omega))
      have ewd : q_mwd M1 := fun w c h1 h2 => (hf 114 _ (by omega) (by omega) (by omega) (by omega)).trans (hwd w c h1 h2)
      have L := L_ok (T := M 105) hat
      rw [b_X6_text_26]
      simp (disch := omega) only [b_X6_text_0, x_loadR_0, x_loadS_0, f_6_10, x_iconst, y_ic_ne_t, y_ic_ne_f, b_X6_text_9, x_ret0, b_X6_text_12, p_6_19, p_6_27, x_storeI_1, x_storeI_2, x_loadI_2, y_ic_ge_t, y_ic_ge_f, b_X6_text_31, x_loadI_1, y_if_eq_t, y_if_eq_f, b_X6_text_35, f_6_21, b_X6_text_47, f_6_22, b_X6_text_55, x_goto, b_X6_text_59, b_X6_text_60, f_6_9, x_imul, x_iadd, f_6_27, y_iast_44, b_X6_text_82, b_X6_text_89, b_X6_text_93, b_X6_text_94, x_iinc_2, b_X6_text_101, b_X6_text_105, y_if_ne_t, y_if_ne_f, b_X6_text_116, b_X6_text_120, b_X6_text_121, p_6_7, b_X6_text_148, f_6_20, x_isub, b_X6_text_156, x_dupI, x_dupR, p_6_10, q_isL_I, q_isL_R, q_isL_S, true_and, and_true, and_self, List.length_nil, List.length_cons, Nat.zero_add, x_K, x_Kn, Int.reduceToNat, Nat.reduceAdd, Nat.reduceMul, Nat.reduceLeDiff, Nat.reduceLT, Nat.zero_le, Int.reduceAdd, Int.reduceSub, Int.reduceMul, Int.reduceNeg, q_add_e, q_sub_e, q_mul_e, q_neg_e, q_upd_s, q_upd_n, zr_shr0, zr_shr1, zr_shr2, zr_shr3, zr_shr4, zr_and, zr_dyn8, zr_or, zr_shl, q_cpy_n, y_cpy26, c_X6_next]
      refine mp_nextX (d := d + 9) ewd e7 hn2 e19 hat (fun M2 hn3 g19 g20 g21 g22 => ?_)
      rw [e5] at g19 g20 g21 g22
      have hf2 := q_tfr_tr hf (q_tfr_n (tm := tm) hn3)
      have hT2 := q_tpx_nxf hT hn3
      have e10 : M2 100 10 = tm := (hf2 100 10 (by omega) (by omega) (by omega) (by omega)).trans h10
      have ti := (Y_t_i L.2.2.2.2.2.1).2.2.2.2.2.2.2.2
      rw [← g21] at ti
      unfold Y_tx at hx
      by_cases t0 : L_t (M 105) n at1 = -2
      · rw [if_pos t0] at hx
        obtain ⟨x1, x2, x3⟩ := hx
        have z0 : M2 100 21 = 0 := ti.mpr t0
        obtain ⟨p1, p2, p3, p4⟩ := hT2
        rw [← x3] at p1 p2 p3 p4
        have hf3 := q_tfr_up (v := 0) (q_tfr_up (v := (s2 3 : Int)) hf2 (Or.inl ⟨rfl, show 4 * tm ≤ 4 * tm + 3 by omega, by omega⟩)) (Or.inr ⟨rfl, Or.inl rfl⟩)
        have hI3 := q_MI_tfr hI hf3 (by rw [q_upd_s]; omega)
        have es3 : s2 3 = O.length := by rw [x3]; exact if_pos rfl
        have hw : q_wfT (fun i => q_upd (q_upd M2 107 (4 * tm + 3) (s2 3 : Int)) 100 7 0 106 (200 * tm + i)) (fun i => q_upd (q_upd M2 107 (4 * tm + 3) (s2 3 : Int)) 100 7 0 107 (4 * tm + i)) := by
          intro p hp
          obtain ⟨h1, D, h2, h3, _⟩ := p4 p hp
          have h4 := p3 p hp
          refine ⟨s2 p, s2 (p + 1), D, ?_, ?_, h1, by omega, q_wfP_c h2 (fun x _ => by simp (disch := omega) only [q_upd_n]), h3⟩
          · show q_upd (q_upd M2 107 (4 * tm + 3) (s2 3 : Int)) 100 7 0 107 (4 * tm + p) = s2 p
            rw [q_upd_n (by omega), q_upd_n (by omega)]
            exact p1 p hp
          · show q_upd (q_upd M2 107 (4 * tm + 3) (s2 3 : Int)) 100 7 0 107 (4 * tm + (p + 1)) = s2 (p + 1)
            by_cases e : p = 2
            · subst e
              rw [q_upd_n (by omega), q_upd_s]
            · rw [q_upd_n (by omega), q_upd_n (by omega)]
              exact p1 (p + 1) (by omega)
        have e6 : ∀ x, q_upd (q_upd (q_upd M2 107 (4 * tm + 3) (s2 3 : Int)) 100 7 0) 100 10 ((tm : Int) + 1) 106 x = M2 106 x := fun x => by simp (disch := omega) only [q_upd_n]
        simp (disch := omega) only [b_X6_text_0, x_loadR_0, x_loadS_0, f_6_10, x_iconst, y_ic_ne_t, y_ic_ne_f, b_X6_text_9, x_ret0, b_X6_text_12, p_6_19, p_6_27, x_storeI_1, x_storeI_2, x_loadI_2, y_ic_ge_t, y_ic_ge_f, b_X6_text_31, x_loadI_1, y_if_eq_t, y_if_eq_f, b_X6_text_35, f_6_21, b_X6_text_47, f_6_22, b_X6_text_55, x_goto, b_X6_text_59, b_X6_text_60, f_6_9, x_imul, x_iadd, f_6_27, y_iast_44, b_X6_text_82, b_X6_text_89, b_X6_text_93, b_X6_text_94, x_iinc_2, b_X6_text_101, b_X6_text_105, y_if_ne_t, y_if_ne_f, b_X6_text_116, b_X6_text_120, b_X6_text_121, b_X6_text_122, p_6_7, b_X6_text_148, f_6_20, x_isub, b_X6_text_156, x_dupI, x_dupR, p_6_10, q_isL_I, q_isL_R, q_isL_S, true_and, and_true, and_self, List.length_nil, List.length_cons, Nat.zero_add, x_K, x_Kn, Int.reduceToNat, Nat.reduceAdd, Nat.reduceMul, Nat.reduceLeDiff, Nat.reduceLT, Nat.zero_le, Int.reduceAdd, Int.reduceSub, Int.reduceMul, Int.reduceNeg, q_add_e, q_sub_e, q_mul_e, q_neg_e, q_upd_s, q_upd_n, zr_shr0, zr_shr1, zr_shr2, zr_shr3, zr_shr4, zr_and, zr_dyn8, zr_or, zr_shl, q_cpy_n, y_cpy26, e10, t3, p2]
        have hMI := q_MI_add hI3 (by omega) hw
        have eC : (fun i => q_upd (q_upd M2 107 (4 * tm + 3) (s2 3 : Int)) 100 7 0 106 (200 * tm + i)) = (fun i => q_upd (q_upd (q_upd M2 107 (4 * tm + 3) (s2 3 : Int)) 100 7 0) 100 10 ((tm : Int) + 1) 106 (200 * tm + i)) := funext (fun i => by simp (disch := omega) only [q_upd_n])
        have eS : (fun i => q_upd (q_upd M2 107 (4 * tm + 3) (s2 3 : Int)) 100 7 0 107 (4 * tm + i)) = (fun i => q_upd (q_upd (q_upd M2 107 (4 * tm + 3) (s2 3 : Int)) 100 7 0) 100 10 ((tm : Int) + 1) 107 (4 * tm + i)) := funext (fun i => (q_upd_n (by omega)).symm)
        rw [eC, eS] at hMI
        have fin := hq1 (q_upd (q_upd (q_upd M2 107 (4 * tm + 3) (s2 3 : Int)) 100 7 0) 100 10 ((tm : Int) + 1)) x1 hMI (fun a i q1 q2 q3 q4 => (q_upd_n (by
          by_cases z : a = 100
          · exact Or.inr (q3 z).2.1
          · exact Or.inl z)).trans (hf3 a i q1 q2 (fun z => by have := q3 z; omega) q4)) (by rw [q_upd_n (by omega), q_upd_s]) (by rw [q_upd_s]) (by rw [x2]; exact q_oL_c (fun i _ => (e6 _).trans (hn3 106 _ (by omega))) hO) (fun p hp => ?_) (fun p hp => ?_)
        · rw [show (tm : Int) + 1 - 1 = tm by omega]
          exact fin
        · by_cases e : p = 3
          · subst e
            rw [q_upd_n (by omega), q_upd_n (by omega), q_upd_s]
          · rw [q_upd_n (by omega), q_upd_n (by omega), q_upd_n (by omega)]
            exact p1 p (by omega)
        · obtain ⟨h1, D, h2, h3, h4⟩ := p4 p hp
          have h5 := p3 p hp
          exact ⟨h1, by rw [x2]; omega, D, q_wfP_c h2 (fun x _ => e6 _), h3, h4⟩
      · rw [if_neg t0] at hx
        have z0 : M2 100 21 ≠ 0 := fun z => t0 (ti.mp z)
        simp (disch := omega) only [b_X6_text_0, x_loadR_0, x_loadS_0, f_6_10, x_iconst, y_ic_ne_t, y_ic_ne_f, b_X6_text_9, x_ret0, b_X6_text_12, p_6_19, p_6_27, x_storeI_1, x_storeI_2, x_loadI_2, y_ic_ge_t, y_ic_ge_f, b_X6_text_31, x_loadI_1, y_if_eq_t, y_if_eq_f, b_X6_text_35, f_6_21, b_X6_text_47, f_6_22, b_X6_text_55, x_goto, b_X6_text_59, b_X6_text_60, f_6_9, x_imul, x_iadd, f_6_27, y_iast_44, b_X6_text_82, b_X6_text_89, b_X6_text_93, b_X6_text_94, x_iinc_2, b_X6_text_101, b_X6_text_105, y_if_ne_t, y_if_ne_f, b_X6_text_116, b_X6_text_120, b_X6_text_121, p_6_7, b_X6_text_148, f_6_20, x_isub, b_X6_text_156, x_dupI, x_dupR, p_6_10, q_isL_I, q_isL_R, q_isL_S, true_and, and_true, and_self, List.length_nil, List.length_cons, Nat.zero_add, x_K, x_Kn, Int.reduceToNat, Nat.reduceAdd, Nat.reduceMul, Nat.reduceLeDiff, Nat.reduceLT, Nat.zero_le, Int.reduceAdd, Int.reduceSub, Int.reduceMul, Int.reduceNeg, q_add_e, q_sub_e, q_mul_e, q_neg_e, q_upd_s, q_upd_n, zr_shr0, zr_shr1, zr_shr2, zr_shr3, zr_shr4, zr_and, zr_dyn8, zr_or, zr_shl, q_cpy_n, y_cpy26]
        exact fail _ M2 _ hx rfl hf2 g20
    | succ j ih =>
      intro i hi M1 at1 O s hx hf e7 e19 hat hS hO hT
      have ti : (4 * (tm : Int) + (i : Int)).toNat = 4 * tm + i := by omega
      have e5 : M1 105 = M 105 := funext (fun x => hf 105 x (by omega) (by omega) (by omega) (by omega))
      have ewd : q_mwd M1 := fun w c h1 h2 => (hf 114 _ (by omega) (by omega) (by omega) (by omega)).trans (hwd w c h1 h2)
      have L := L_ok (T := M 105) hat
      rw [b_X6_text_26]
      simp (disch := omega) only [b_X6_text_0, x_loadR_0, x_loadS_0, f_6_10, x_iconst, y_ic_ne_t, y_ic_ne_f, b_X6_text_9, x_ret0, b_X6_text_12, p_6_19, p_6_27, x_storeI_1, x_storeI_2, x_loadI_2, y_ic_ge_t, y_ic_ge_f, b_X6_text_31, x_loadI_1, y_if_eq_t, y_if_eq_f, b_X6_text_35, f_6_21, b_X6_text_47, f_6_22, b_X6_text_55, x_goto, b_X6_text_59, b_X6_text_60, f_6_9, x_imul, x_iadd, f_6_27, y_iast_44, b_X6_text_82, b_X6_text_89, b_X6_text_93, b_X6_text_94, x_iinc_2, b_X6_text_101, b_X6_text_105, y_if_ne_t, y_if_ne_f, b_X6_text_116, b_X6_text_120, b_X6_text_121, p_6_7, b_X6_text_148, f_6_20, x_isub, b_X6_text_156, x_dupI, x_dupR, p_6_10, q_isL_I, q_isL_R, q_isL_S, true_and, and_true, and_self, List.length_nil, List.length_cons, Nat.zero_add, x_K, x_Kn, Int.reduceToNat, Nat.reduceAdd, Nat.reduceMul, Nat.reduceLeDiff, Nat.reduceLT, Nat.zero_le, Int.reduceAdd, Int.reduceSub, Int.reduceMul, Int.reduceNeg, q_add_e, q_sub_e, q_mul_e, q_neg_e, q_upd_s, q_upd_n, zr_shr0, zr_shr1, zr_shr2, zr_shr3, zr_shr4, zr_and, zr_dyn8, zr_or, zr_shl, q_cpy_n, y_cpy26, c_X6_next]
      refine mp_nextX (d := d + 9) ewd e7 hn2 e19 hat (fun M2 hn3 g19 g20 g21 g22 => ?_)
      rw [e5] at g19 g20 g21 g22
      have hf2 := q_tfr_tr hf (q_tfr_n (tm := tm) hn3)
      have hT2 := q_tpx_nxf hT hn3
      have hO2 : q_oL (fun x => M2 106 (200 * tm + x)) O := q_oL_c (fun x _ => hn3 106 _ (by omega)) hO
      have ewd2 : q_mwd M2 := fun w c h1 h2 => (hn3 114 _ (by omega)).trans (ewd w c h1 h2)
      have e52 : M2 105 = M 105 := funext (fun x => (hn3 105 x (by omega)).trans (congrFun e5 x))
      have e10 : M2 100 10 = tm := (hf2 100 10 (by omega) (by omega) (by omega) (by omega)).trans h10
      have e27 : M2 100 27 = O.length := by
        have h := hT2.2.1
        dsimp only at h
        rw [if_pos rfl] at h
        exact h
      have g7 : M2 100 7 = n := (hn3 100 7 (by omega)).trans e7
      have tt := Y_t_i L.2.2.2.2.2.1
      rw [← g21] at tt
      have tt3 := tt.2.2.1
      generalize hol : O.length = o at e27 hS
      have hf3 := fun v => q_tfr_up (v := v) hf2 (Or.inl ⟨rfl, show 4 * tm ≤ 4 * tm + i by omega, by omega⟩)
      unfold Y_tx at hx
      have bad : L_t (M 105) n at1 ≠ -5 - i → q_T 1 (d + 11) qP_X6_text 26 [] [qR 6 100, qI 0, qI ((i : Int) + 1)] [] g (q_upd M2 107 (4 * tm + i) (o : Int)) Q := by
        intro ht
        rw [if_neg ht] at hx
        exact fail2 _ _ (i + 1) hx (by omega) (hf3 _) ((q_upd_n (by omega)).trans g20)
      have good : L_t (M 105) n at1 = -5 - i → q_S 1 (d + 10) 132 [qR 6 100] g (q_upd M2 107 (4 * tm + i) (o : Int)) (q_K 1 (d + 11) qP_X6_text 89 [.ifCond .eq 93] [qR 6 100, qI 1, qI i] [] Q) := by
        intro ht
        rw [if_pos ht] at hx
        have lt := L.2.2.2.2.1 (by omega)
        have e53 : q_upd M2 107 (4 * tm + i) (o : Int) 105 = M 105 := by
          rw [← e52]
          exact funext (fun x => q_upd_n (by omega))
        have core := fun (r : q_Yr) (Q2 : Option q_V → q_G → q_M → Prop) (hev : Y_ev (M 105) n (true, true, ([], 0, O), L_b (M 105) n at1) r) hq2 => mp_eReadX (d := d + 7) (tm := tm) (n := n) (at0 := L_b (M 105) n at1) (O0 := O) (r := r) (g := g) (M := q_upd M2 107 (4 * tm + i) (o : Int)) (Q := Q2) (fun w c h1 h2 => (q_upd_n (by omega)).trans (ewd2 w c h1 h2)) (by rw [q_upd_n (by omega)]; exact e10) htm (by rw [q_upd_n (by omega), hol]; exact e27) (q_oL_c (fun x _ => q_upd_n (by omega)) hO2) (by rw [q_upd_n (by omega)]; exact g7) hn2 (by rw [q_upd_n (by omega)]; exact g19) L.2.2.2.1 (by rw [hol]; omega) (by rw [e53]; exact hev) hq2
        rcases hx with ⟨f, h1, h2⟩ | ⟨i1, a2, O1, h1, h2⟩
        · refine core _ _ h1 (fun M3 hf4 f20 _ => ?_)
          have eb : Y_b false = 0 := rfl
          show q_K 1 (d + 11) qP_X6_text 89 [.ifCond .eq 93] [qR 6 100, qI 1, qI i] [] Q (some (qI (Y_b false))) g M3
          rw [eb]
          simp (disch := omega) only [b_X6_text_0, x_loadR_0, x_loadS_0, f_6_10, x_iconst, y_ic_ne_t, y_ic_ne_f, b_X6_text_9, x_ret0, b_X6_text_12, p_6_19, p_6_27, x_storeI_1, x_storeI_2, x_loadI_2, y_ic_ge_t, y_ic_ge_f, b_X6_text_31, x_loadI_1, y_if_eq_t, y_if_eq_f, b_X6_text_35, f_6_21, b_X6_text_47, f_6_22, b_X6_text_55, x_goto, b_X6_text_59, b_X6_text_60, f_6_9, x_imul, x_iadd, f_6_27, y_iast_44, b_X6_text_82, b_X6_text_89, b_X6_text_93, b_X6_text_94, x_iinc_2, b_X6_text_101, b_X6_text_105, y_if_ne_t, y_if_ne_f, b_X6_text_116, b_X6_text_120, b_X6_text_121, p_6_7, b_X6_text_148, f_6_20, x_isub, b_X6_text_156, x_dupI, x_dupR, p_6_10, q_isL_I, q_isL_R, q_isL_S, true_and, and_true, and_self, List.length_nil, List.length_cons, Nat.zero_add, x_K, x_Kn, Int.reduceToNat, Nat.reduceAdd, Nat.reduceMul, Nat.reduceLeDiff, Nat.reduceLT, Nat.zero_le, Int.reduceAdd, Int.reduceSub, Int.reduceMul, Int.reduceNeg, q_add_e, q_sub_e, q_mul_e, q_neg_e, q_upd_s, q_upd_n, zr_shr0, zr_shr1, zr_shr2, zr_shr3, zr_shr4, zr_and, zr_dyn8, zr_or, zr_shl, q_cpy_n, y_cpy26]
          exact fail2 f _ (i + 1) h2 (by omega) (q_tfr_tr (hf3 _) (q_tfr_e hf4)) f20
        · obtain ⟨kf, h1'⟩ := h1
          have hri := Y_rd_i (T := M 105) (n := n) (s := O.length) kf _ _ (by show L_b (M 105) n at1 ≤ n; omega) (q_Yi_0 (O := O) (a := L_b (M 105) n at1) (by omega)) h1' rfl
          refine core _ _ ⟨kf, h1'⟩ (fun M3 hf4 f20 hgo => ?_)
          obtain ⟨f27, f19, fO⟩ := hgo rfl
          have eb : Y_b true = 1 := rfl
          show q_K 1 (d + 11) qP_X6_text 89 [.ifCond .eq 93] [qR 6 100, qI 1, qI i] [] Q (some (qI (Y_b true))) g M3
          rw [eb]
          simp (disch := omega) only [b_X6_text_0, x_loadR_0, x_loadS_0, f_6_10, x_iconst, y_ic_ne_t, y_ic_ne_f, b_X6_text_9, x_ret0, b_X6_text_12, p_6_19, p_6_27, x_storeI_1, x_storeI_2, x_loadI_2, y_ic_ge_t, y_ic_ge_f, b_X6_text_31, x_loadI_1, y_if_eq_t, y_if_eq_f, b_X6_text_35, f_6_21, b_X6_text_47, f_6_22, b_X6_text_55, x_goto, b_X6_text_59, b_X6_text_60, f_6_9, x_imul, x_iadd, f_6_27, y_iast_44, b_X6_text_82, b_X6_text_89, b_X6_text_93, b_X6_text_94, x_iinc_2, b_X6_text_101, b_X6_text_105, y_if_ne_t, y_if_ne_f, b_X6_text_116, b_X6_text_120, b_X6_text_121, p_6_7, b_X6_text_148, f_6_20, x_isub, b_X6_text_156, x_dupI, x_dupR, p_6_10, q_isL_I, q_isL_R, q_isL_S, true_and, and_true, and_self, List.length_nil, List.length_cons, Nat.zero_add, x_K, x_Kn, Int.reduceToNat, Nat.reduceAdd, Nat.reduceMul, Nat.reduceLeDiff, Nat.reduceLT, Nat.zero_le, Int.reduceAdd, Int.reduceSub, Int.reduceMul, Int.reduceNeg, q_add_e, q_sub_e, q_mul_e, q_neg_e, q_upd_s, q_upd_n, zr_shr0, zr_shr1, zr_shr2, zr_shr3, zr_shr4, zr_and, zr_dyn8, zr_or, zr_shl, q_cpy_n, y_cpy26]
          have f7 : M3 100 7 = n := (hf4 100 7 (by omega) (by omega) (by omega)).trans (by rw [q_upd_n (by omega)]; exact g7)
          obtain ⟨r1, r2, r3, D, r4, r5, r6⟩ := hri
          simp only at r1 r2 r3 r4 r5 r6 f27 f19 fO
          refine ih (i + 1) (by omega) M3 a2 O1 _ h2 (q_tfr_tr (hf3 _) (q_tfr_e hf4)) f7 f19 r3 r2 fO ?_
          obtain ⟨p1, p2, p3, p4⟩ := hT2
          rw [hol] at p2 p3 p4
          simp only at p1 p2 p3 p4
          rw [hol] at r1 r4
          refine ⟨fun p hp => ?_, ?_, fun p hp => ?_, fun p hp => ?_⟩
          · dsimp only
            rw [hf4 107 _ (by omega) (by omega) (by omega), if_neg (by omega)]
            by_cases e : p = i
            · subst e
              rw [q_upd_s, if_pos rfl, hol]
            · rw [q_upd_n (by omega), if_neg e]
              have := p1 p (by omega)
              rw [if_neg e] at this
              exact this
          · dsimp only
            rw [if_pos rfl]
            exact f27
          · dsimp only
            rw [if_pos rfl]
            by_cases e : p = i
            · rw [if_pos (by omega)]
              exact Nat.le_refl _
            · rw [if_neg (by omega)]
              have h := p3 p (by omega)
              rw [if_pos trivial] at h
              by_cases e2 : p + 1 = i
              · rw [if_pos e2, hol]
                omega
              · rw [if_neg e2]
                rw [if_neg e2] at h
                omega
          · dsimp only
            by_cases e : p = i
            · subst e
              rw [if_neg (show ¬p = p + 1 by omega), if_pos rfl, if_pos rfl, hol]
              exact ⟨r1, D, q_wfP_c r4 (fun x hx => fO x hx), r6, fun j hj => r5 j hj⟩
            · have h := p4 p (by omega)
              have h3 := p3 p (by omega)
              rw [if_pos trivial] at h3
              rw [if_neg (show ¬p = i + 1 by omega), if_neg e, if_neg (show ¬p + 1 = i + 1 by omega)]
              rw [if_neg e] at h
              rw [hol]
              obtain ⟨w1, D2, w2, w3, w4⟩ := h
              refine ⟨w1, D2, q_wfP_c w2 (fun x hx => (hf4 106 _ (fun _ => Or.inl (by rw [hol]; omega)) (by omega) (by omega)).trans (q_upd_n (by omega))), w3, w4⟩
      by_cases t3 : M2 100 21 = 3
      · have htr := tt3.mp t3
        have hv := g22 (by omega)
        have hv2 : Y_v (L_t (M 105) n at1) (L_v (M 105) n at1) = -5 - L_t (M 105) n at1 := by
          rcases htr with e | e | e <;> rw [e] <;> rfl
        rw [hv2] at hv
        by_cases t4 : M2 100 22 = i
        · simp (disch := omega) only [b_X6_text_0, x_loadR_0, x_loadS_0, f_6_10, x_iconst, y_ic_ne_t, y_ic_ne_f, b_X6_text_9, x_ret0, b_X6_text_12, p_6_19, p_6_27, x_storeI_1, x_storeI_2, x_loadI_2, y_ic_ge_t, y_ic_ge_f, b_X6_text_31, x_loadI_1, y_if_eq_t, y_if_eq_f, b_X6_text_35, f_6_21, b_X6_text_47, f_6_22, b_X6_text_55, x_goto, b_X6_text_59, b_X6_text_60, f_6_9, x_imul, x_iadd, f_6_27, y_iast_44, b_X6_text_82, b_X6_text_89, b_X6_text_93, b_X6_text_94, x_iinc_2, b_X6_text_101, b_X6_text_105, y_if_ne_t, y_if_ne_f, b_X6_text_116, b_X6_text_120, b_X6_text_121, p_6_7, b_X6_text_148, f_6_20, x_isub, b_X6_text_156, x_dupI, x_dupR, p_6_10, q_isL_I, q_isL_R, q_isL_S, true_and, and_true, and_self, List.length_nil, List.length_cons, Nat.zero_add, x_K, x_Kn, Int.reduceToNat, Nat.reduceAdd, Nat.reduceMul, Nat.reduceLeDiff, Nat.reduceLT, Nat.zero_le, Int.reduceAdd, Int.reduceSub, Int.reduceMul, Int.reduceNeg, q_add_e, q_sub_e, q_mul_e, q_neg_e, q_upd_s, q_upd_n, zr_shr0, zr_shr1, zr_shr2, zr_shr3, zr_shr4, zr_and, zr_dyn8, zr_or, zr_shl, q_cpy_n, y_cpy26, e10, ti, e27, c_X6_eRead]
          exact good (by omega)
        · simp (disch := omega) only [b_X6_text_0, x_loadR_0, x_loadS_0, f_6_10, x_iconst, y_ic_ne_t, y_ic_ne_f, b_X6_text_9, x_ret0, b_X6_text_12, p_6_19, p_6_27, x_storeI_1, x_storeI_2, x_loadI_2, y_ic_ge_t, y_ic_ge_f, b_X6_text_31, x_loadI_1, y_if_eq_t, y_if_eq_f, b_X6_text_35, f_6_21, b_X6_text_47, f_6_22, b_X6_text_55, x_goto, b_X6_text_59, b_X6_text_60, f_6_9, x_imul, x_iadd, f_6_27, y_iast_44, b_X6_text_82, b_X6_text_89, b_X6_text_93, b_X6_text_94, x_iinc_2, b_X6_text_101, b_X6_text_105, y_if_ne_t, y_if_ne_f, b_X6_text_116, b_X6_text_120, b_X6_text_121, p_6_7, b_X6_text_148, f_6_20, x_isub, b_X6_text_156, x_dupI, x_dupR, p_6_10, q_isL_I, q_isL_R, q_isL_S, true_and, and_true, and_self, List.length_nil, List.length_cons, Nat.zero_add, x_K, x_Kn, Int.reduceToNat, Nat.reduceAdd, Nat.reduceMul, Nat.reduceLeDiff, Nat.reduceLT, Nat.zero_le, Int.reduceAdd, Int.reduceSub, Int.reduceMul, Int.reduceNeg, q_add_e, q_sub_e, q_mul_e, q_neg_e, q_upd_s, q_upd_n, zr_shr0, zr_shr1, zr_shr2, zr_shr3, zr_shr4, zr_and, zr_dyn8, zr_or, zr_shl, q_cpy_n, y_cpy26, e10, ti, e27]
          exact bad (by omega)
      · simp (disch := omega) only [b_X6_text_0, x_loadR_0, x_loadS_0, f_6_10, x_iconst, y_ic_ne_t, y_ic_ne_f, b_X6_text_9, x_ret0, b_X6_text_12, p_6_19, p_6_27, x_storeI_1, x_storeI_2, x_loadI_2, y_ic_ge_t, y_ic_ge_f, b_X6_text_31, x_loadI_1, y_if_eq_t, y_if_eq_f, b_X6_text_35, f_6_21, b_X6_text_47, f_6_22, b_X6_text_55, x_goto, b_X6_text_59, b_X6_text_60, f_6_9, x_imul, x_iadd, f_6_27, y_iast_44, b_X6_text_82, b_X6_text_89, b_X6_text_93, b_X6_text_94, x_iinc_2, b_X6_text_101, b_X6_text_105, y_if_ne_t, y_if_ne_f, b_X6_text_116, b_X6_text_120, b_X6_text_121, p_6_7, b_X6_text_148, f_6_20, x_isub, b_X6_text_156, x_dupI, x_dupR, p_6_10, q_isL_I, q_isL_R, q_isL_S, true_and, and_true, and_self, List.length_nil, List.length_cons, Nat.zero_add, x_K, x_Kn, Int.reduceToNat, Nat.reduceAdd, Nat.reduceMul, Nat.reduceLeDiff, Nat.reduceLT, Nat.zero_le, Int.reduceAdd, Int.reduceSub, Int.reduceMul, Int.reduceNeg, q_add_e, q_sub_e, q_mul_e, q_neg_e, q_upd_s, q_upd_n, zr_shr0, zr_shr1, zr_shr2, zr_shr3, zr_shr4, zr_and, zr_dyn8, zr_or, zr_shl, q_cpy_n, y_cpy26, e10, ti, e27]
        exact bad (fun z => t3 (tt3.mpr (by omega)))
  have hf0 : q_tfr tm M (q_upd (q_upd M 100 19 0) 100 27 0) := q_tfr_up (q_tfr_up q_tfr_rf (Or.inr ⟨rfl, Or.inr (Or.inl rfl)⟩)) (Or.inr ⟨rfl, Or.inr (Or.inr rfl)⟩)
  simp (disch := omega) only [b_X6_text_0, x_loadR_0, x_loadS_0, f_6_10, x_iconst, y_ic_ne_t, y_ic_ne_f, b_X6_text_9, x_ret0, b_X6_text_12, p_6_19, p_6_27, x_storeI_1, x_storeI_2, x_loadI_2, y_ic_ge_t, y_ic_ge_f, b_X6_text_31, x_loadI_1, y_if_eq_t, y_if_eq_f, b_X6_text_35, f_6_21, b_X6_text_47, f_6_22, b_X6_text_55, x_goto, b_X6_text_59, b_X6_text_60, f_6_9, x_imul, x_iadd, f_6_27, y_iast_44, b_X6_text_82, b_X6_text_89, b_X6_text_93, b_X6_text_94, x_iinc_2, b_X6_text_101, b_X6_text_105, y_if_ne_t, y_if_ne_f, b_X6_text_116, b_X6_text_120, b_X6_text_121, p_6_7, b_X6_text_148, f_6_20, x_isub, b_X6_text_156, x_dupI, x_dupR, p_6_10, q_isL_I, q_isL_R, q_isL_S, true_and, and_true, and_self, List.length_nil, List.length_cons, Nat.zero_add, x_K, x_Kn, Int.reduceToNat, Nat.reduceAdd, Nat.reduceMul, Nat.reduceLeDiff, Nat.reduceLT, Nat.zero_le, Int.reduceAdd, Int.reduceSub, Int.reduceMul, Int.reduceNeg, q_add_e, q_sub_e, q_mul_e, q_neg_e, q_upd_s, q_upd_n, zr_shr0, zr_shr1, zr_shr2, zr_shr3, zr_shr4, zr_and, zr_dyn8, zr_or, zr_shl, q_cpy_n, y_cpy26, h10]
  exact loop 3 0 rfl _ 0 [] (fun _ => 0) hx hf0 (by simp (disch := omega) only [q_upd_n]; exact hn) (by rw [q_upd_n (by omega), q_upd_s]; rfl) (by omega) (Nat.zero_le _) (fun x hx => absurd hx (Nat.not_lt_zero x)) ⟨fun p hp => absurd hp (by omega), q_upd_s, fun p hp => absurd hp (by omega), fun p hp => absurd hp (by omega)⟩
end
section
/-! BOTH READERS: a text -/
theorem q_ta_inj {s t : Nat} (h : q_ta s = q_ta t) : s = t := by
  unfold q_ta at h
  split at h <;> split at h <;> omega
/-- what the class's text leaves, told so that the model can go on -/
def q_TXP (Vt : Nat → Nat → (Nat → Int) → Int) (tm l sl n : Nat) (M : q_M) (v : Int) (tm2 sl2 : Nat) (M1 : q_M) : Prop :=
  (tm = 6 ∧ v = -4 ∧ M1 = M ∧ tm2 = tm ∧ sl2 = sl) ∨
  (tm < 6 ∧ tm2 = tm ∧ sl2 = sl ∧ q_XI Vt tm l sl M1 ∧ q_cfx M M1 ∧ M1 1 1 = 0 ∧ ∃ f : Nat, v = -100 - f ∧ Y_tx (M 2) n 3 0 0 [] (fun _ => 0) (some f) [] (fun _ => 0)) ∨
  (tm < 6 ∧ tm2 = tm + 1 ∧ v = tm ∧ q_cfx M M1 ∧ M1 1 1 = 0 ∧ ∃ (V : Nat → (Nat → Int) → Int) (O : List Int) (s : Nat → Nat), q_XI (q_Tadd Vt tm V) (tm + 1) l sl2 M1 ∧ q_lawV V ∧ Y_tx (M 2) n 3 0 0 [] (fun _ => 0) none O s ∧
    ∀ (C S : Nat → Int), q_oL C O → (∀ p, p < 4 → S p = s p) → (∀ p, p < 3 → s p < s (p + 1) ∧ s (p + 1) ≤ O.length ∧ ∃ D, q_wfP C (s p) (s (p + 1)) D ∧ D (s (p + 1)) = 1 ∧ ∀ j, j ≤ s (p + 1) → D j ≤ 31) → ∀ p, p < 3 → ∀ N, q_V1 C S p N = V p N)
theorem cv_textY {Vt : Nat → Nat → (Nat → Int) → Int} {d tm l sl n : Nat} {M : q_M} {Q : Option q_V → q_G → q_M → Prop} (C : q_XI Vt tm l sl M) (hn : M 1 1 = n) (hq : ∀ (v : Int) (tm2 sl2 : Nat) (M1 : q_M), q_TXP Vt tm l sl n M v tm2 sl2 M1 → Q (some (qI v)) (124 + 4 * (tm2 - 1), sl2) M1) : q_S 1 (d + 50) 67 [qR 5 0] (124 + 4 * (tm - 1), sl) M Q := by
  have T := C.1
  by_cases c6 : tm < 6
  · have hn2 : n ≤ 160 := by have := C.2.2.2.2.2.1; omega
    have i1 : q_zI n (R_z1 M n) := R_nx_I0
    have i5 : q_zI n (R_z5 (M 2) n (R_z1 M n)) := R_z5_I i1
    have tk := R_nx_tk0 (T := M 2) (n := n) (a := 0) (z := (0, M 1 5, M 1 6, M 1 7, 0, -1, M 3)) rfl rfl
    have yt := Y_text (T := M 2) (n := n) (z := R_z1 M n) (st := M 4) hn2 tk.1 tk.2.1
    refine sp_text (d := d + 3) hn hn2 T.2.2.1 T.1 c6 (fun hf => ?_) (fun hf M2 h => ?_)
    · rcases yt with ⟨y1, y2⟩ | ⟨y1, _⟩
      · have := hq (-100 - (R_z5 (M 2) n (R_z1 M n)).2.2.2.2.2.1) tm sl (q_upd (q_zM M (R_z5 (M 2) n (R_z1 M n)) (R_st (M 2) n (R_z1 M n) (M 4))) 1 1 0) (Or.inr (Or.inl ⟨c6, rfl, rfl, q_XI_sh C (fun a i ha => by rw [q_upd_n (by omega), q_zM_f (by omega) (by omega) (by omega)]) (by rw [q_upd_s]; omega) (fun s hs => by rw [q_upd_n (by omega), q_zM_f (by omega) (by omega) (by omega)]; exact C.2.2.1.2.2.2.2.2.2 s hs), fun a i ha => by rw [q_upd_n (by omega), q_zM_f (by omega) (by omega) (by omega)], q_upd_s, (R_z5 (M 2) n (R_z1 M n)).2.2.2.2.2.1.toNat, by omega, y2⟩))
        exact this
      · exfalso
        omega
    · obtain ⟨K, S, len, h1, h2, h3, h4, h5, h6⟩ := q_XI_text C c6 (show tm = tm - 1 + 1 by have := T.1; omega) i5 (R_st_b i1) h
      rcases yt with ⟨y1, _⟩ | ⟨_, O, s, y2, y3, y4, y5⟩
      · exfalso
        have := y1.1
        omega
      · have e : tm + 1 - 1 = tm := by omega
        have := hq tm (tm + 1) _ _ (Or.inr (Or.inr ⟨c6, rfl, rfl, h2, q_upd_s, q_Vt K S len, O, s, h1, q_lawV_of2 h3, y2, fun C2 S2 k1 k2 k3 p hp N => ?_⟩))
        · rw [e] at this
          exact this
        · obtain ⟨b, k, w1, w2, w3, w4, w5⟩ := y5 p hp
          obtain ⟨g1, g2, D, g3, g4, g5⟩ := k3 p hp
          rw [w2] at g2 g3 g4 g5
          refine (Y_law (b := b) (c := s p) (k := k) (D := D) h3 ((h5 p).trans w1) (k2 p (by omega)) ((k2 (p + 1) (by omega)).trans (by rw [w2])) (by omega) ?_ (fun j hj => ?_) g3 g5 g4 N).symm
          · rw [h4 _ (by omega)]
            exact w4
          · rw [h4 _ (by omega), k1 (s p + j) (by omega)]
            exact w5 j hj
  · have e6 : tm = 6 := by have := T.2.1; omega
    exact sp_textF (by have := T.2.2.1; omega) (hq _ tm sl M (Or.inl ⟨e6, rfl, rfl, rfl, rfl⟩))
theorem mp_textF {d : Nat} {g : q_G} {M : q_M} {Q : Option q_V → q_G → q_M → Prop} (h : M 100 10 = 6) (hq : Q (some (qI (-4))) g M) : q_S 1 d 133 [qR 6 100] g M Q := by
  rw [s_X6_text]
  simp (disch := omega) only [b_X6_text_0, x_loadR_0, x_loadS_0, f_6_10, x_iconst, y_ic_ne_t, y_ic_ne_f, b_X6_text_9, x_ret0, b_X6_text_12, p_6_19, p_6_27, x_storeI_1, x_storeI_2, b_X6_text_26, x_loadI_2, y_ic_ge_t, y_ic_ge_f, b_X6_text_31, x_loadI_1, y_if_eq_t, y_if_eq_f, b_X6_text_35, f_6_21, b_X6_text_47, f_6_22, b_X6_text_55, x_goto, b_X6_text_59, b_X6_text_60, f_6_9, x_imul, x_iadd, f_6_27, y_iast_44, b_X6_text_82, b_X6_text_89, b_X6_text_93, b_X6_text_94, x_iinc_2, b_X6_text_101, b_X6_text_105, y_if_ne_t, y_if_ne_f, b_X6_text_116, b_X6_text_120, b_X6_text_121, b_X6_text_122, p_6_7, b_X6_text_148, f_6_20, x_isub, b_X6_text_156, x_dupI, x_dupR, p_6_10, q_isL_I, q_isL_R, q_isL_S, true_and, and_true, and_self, List.length_nil, List.length_cons, Nat.zero_add, x_K, x_Kn, Int.reduceToNat, Nat.reduceAdd, Nat.reduceMul, Nat.reduceLeDiff, Nat.reduceLT, Nat.zero_le, Int.reduceAdd, Int.reduceSub, Int.reduceMul, Int.reduceNeg, q_add_e, q_sub_e, q_mul_e, q_neg_e, q_upd_s, q_upd_n, zr_shr0, zr_shr1, zr_shr2, zr_shr3, zr_shr4, zr_and, zr_dyn8, zr_or, zr_shl, q_cpy_n, y_cpy26]
  exact hq
/-- other laws that say the same -/
theorem q_MI_V {Vt Wt : Nat → Nat → (Nat → Int) → Int} {tm : Nat} {M : q_M} (hI : q_MI Wt tm M) (hV : ∀ t, t < tm → q_lawV (Vt t)) (he : ∀ t, t < tm → ∀ p, p < 3 → ∀ N, Wt t p N = Vt t p N) : q_MI Vt tm M := by
  obtain ⟨g1, g2, g3, g4, ⟨t1, t2, t3, t4⟩, g6, g7, g8, g9⟩ := hI
  refine ⟨g1, g2, g3, g4, ⟨t1, t2, t3, fun t ht => ⟨hV t ht, fun M' h1 h2 d g Q part hp hq => ?_⟩⟩, g6, g7, g8, g9⟩
  refine (t4 t ht).2 M' h1 h2 d g Q part hp ?_
  rw [he t ht part hp]
  exact hq
/-- the tapes and the words -/
def q_Rtp (M : q_M) : Prop := M 2 = M 105 ∧ M 1 1 = M 100 7 ∧ q_mwd M
theorem mw_textY {Vt : Nat → Nat → (Nat → Int) → Int} {d tm tm2 l sl sl2 n : Nat} {v : Int} {g : q_G} {M M1 : q_M} {Q : Option q_V → q_G → q_M → Prop} (C : q_XI Vt tm l sl M) (I : q_MI Vt tm M) (R : q_Rtp M) (hn : M 1 1 = n) (h : q_TXP Vt tm l sl n M v tm2 sl2 M1)
    (hq : ∀ (Vt2 : Nat → Nat → (Nat → Int) → Int) (M2 : q_M), q_XI Vt2 tm2 l sl2 M2 → q_MI Vt2 tm2 M2 → q_Rtp M2 → (∀ a i, (1000 ≤ a ∨ (11 ≤ a ∧ a < 100) ∨ (a = 0 ∧ i = 6) ∨ (a = 100 ∧ (i = 0 ∨ i = 5 ∨ i = 11 ∨ i = 12)) ∨ (100 < a ∧ a < 124 ∧ a ≠ 105 ∧ a ≠ 106 ∧ a ≠ 107 ∧ a ≠ 115)) → M2 a i = M a i) → Q (some (qI v)) g M2) : q_S 1 (d + 11) 133 [qR 6 100] g M1 Q := by
  have h10 := I.2.2.2.2.1.2.2.1
  obtain ⟨r1, r2, r3⟩ := R
  rcases h with ⟨e1, e2, e3, e4, e5⟩ | ⟨e1, e2, e3, e4, e5, e6, f, e7, e8⟩ | ⟨e1, e2, e3, e4, e5, V, O, s, e6, e7, e8, e9⟩
  · subst e3
    subst e4
    subst e5
    rw [e2] at hq
    exact mp_textF (by omega) (hq Vt M1 C I ⟨r1, r2, r3⟩ (fun _ _ _ => rfl))
  · have I1 : q_MI Vt tm M1 := q_MI_same (fun a i ha => by unfold q_rel at ha; exact e5 a i (by omega)) I
    have et : M1 105 = M 2 := (funext (fun i => e5 105 i (by omega))).trans r1.symm
    have ew : q_mwd M1 := fun w c h1 h2 => (e5 114 _ (by omega)).trans (r3 w c h1 h2)
    subst e2
    subst e3
    refine mw_textX I1 ew e1 (by rw [e5 100 7 (by omega), ← r2]; exact hn) (by rw [et]; exact e8) (fun f2 M2 x1 x2 x3 x4 x5 => ?_) (fun M2 x1 _ _ _ _ _ _ _ => absurd x1 (by simp))
    injection x1 with x1
    rw [← x1, ← e7]
    have hfr : ∀ a i, a < 100 ∨ 124 ≤ a → M2 a i = M1 a i := fun a i ha => x3 a i (by omega) (by omega) (by omega) (by omega)
    refine hq Vt M2 (q_XI_mfw hfr e4) x2 ⟨?_, ?_, fun w c h1 h2 => (x3 114 _ (by omega) (by omega) (by omega) (by omega)).trans (ew w c h1 h2)⟩ (fun a i ha => (x3 a i (by omega) (by omega) (by omega) (by omega)).trans (e5 a i (by omega)))
    · rw [funext (fun i => hfr 2 i (by omega)), funext (fun i => x3 105 i (by omega) (by omega) (by omega) (by omega)), et]
      exact funext (fun i => e5 2 i (by omega))
    · rw [hfr 1 1 (by omega), e6, x4]
  · have I1 : q_MI Vt tm M1 := q_MI_same (fun a i ha => by unfold q_rel at ha; exact e4 a i (by omega)) I
    have et : M1 105 = M 2 := (funext (fun i => e4 105 i (by omega))).trans r1.symm
    have ew : q_mwd M1 := fun w c h1 h2 => (e4 114 _ (by omega)).trans (r3 w c h1 h2)
    subst e2
    refine mw_textX I1 ew e1 (by rw [e4 100 7 (by omega), ← r2]; exact hn) (by rw [et]; exact e8) (fun f2 M2 x1 _ _ _ _ => absurd x1 (by simp)) (fun M2 _ x2 x3 x4 x5 x6 x7 x8 => ?_)
    rw [← e3]
    have hfr : ∀ a i, a < 100 ∨ 124 ≤ a → M2 a i = M1 a i := fun a i ha => x3 a i (by omega) (by omega) (by omega) (by omega)
    refine hq (q_Tadd Vt tm V) M2 (q_XI_mfw hfr e6) (q_MI_V x2 (fun t ht => (e6.1.2.2.2 t ht).2.2.1) (fun t ht p hp N => ?_)) ⟨?_, ?_, fun w c h1 h2 => (x3 114 _ (by omega) (by omega) (by omega) (by omega)).trans (ew w c h1 h2)⟩ (fun a i ha => (x3 a i (by omega) (by omega) (by omega) (by omega)).trans (e4 a i (by omega)))
    · by_cases e : t = tm
      · subst e
        rw [show q_Vadd Vt t (q_V1 (fun i => M2 106 (200 * t + i)) (fun i => M2 107 (4 * t + i))) t = q_V1 (fun i => M2 106 (200 * t + i)) (fun i => M2 107 (4 * t + i)) from if_pos rfl, show q_Tadd Vt t V t = V from if_pos rfl]
        exact e9 _ _ x6 x7 x8 p hp N
      · rw [show q_Vadd Vt tm (q_V1 (fun i => M2 106 (200 * tm + i)) (fun i => M2 107 (4 * tm + i))) t = Vt t from if_neg e, show q_Tadd Vt tm V t = Vt t from if_neg e]
    · rw [funext (fun i => hfr 2 i (by omega)), funext (fun i => x3 105 i (by omega) (by omega) (by omega) (by omega)), et]
      exact funext (fun i => e4 2 i (by omega))
    · rw [hfr 1 1 (by omega), e5, x4]
end
section
/-! THE FIRST STATE: both sides say the same -/
def q_mwb : Bool := match q_T0[114]? with
  | some r => (List.range 12).all (fun w => (List.range 8).all (fun c => decide (q_rg r (8 * w + c) = W_c w c)))
  | none => false
theorem q_mwb_t : q_mwb = true := by decide +kernel
theorem q_first_mwd {B : q_M} : q_mwd (q_lk q_T0 B) := by
  intro w c hw hc
  have h := q_mwb_t
  unfold q_mwb at h
  unfold q_lk
  cases e : q_T0[114]? with
  | none => rw [e] at h; cases h
  | some r =>
    rw [e] at h
    simp only [List.all_eq_true, List.mem_range, decide_eq_true_eq] at h
    exact h w hw c hc
theorem q_rows_2 : decide (q_T0[2]? = q_T0[105]?) = true := by decide +kernel
theorem q_rows_s : (q_T0[105]?).isSome = true := by decide +kernel
theorem q_first_tape {B : q_M} : q_lk q_T0 B 2 = q_lk q_T0 B 105 := by
  funext i
  unfold q_lk
  rw [of_decide_eq_true q_rows_2]
  cases e : q_T0[105]? with
  | none => have h := q_rows_s; rw [e] at h; cases h
  | some r => rfl
theorem q_first_eq {B : q_M} : ∀ p, p < 3 → ∀ N, q_V1 (fun i => q_lk q_T0 B 106 (200 * 0 + i)) (fun i => q_lk q_T0 B 107 (4 * 0 + i)) p N = q_Vt (q_lk q_T0 B 7) (q_lk q_T0 B 9) 8 p N := by
  intro p hp N
  have c0 : q_lk q_T0 B 106 (200 * 0 + 0) = 100099 := rfl
  have c1 : q_lk q_T0 B 106 (200 * 0 + 1) = 0 := rfl
  have c2 : q_lk q_T0 B 106 (200 * 0 + 2) = 17 := rfl
  have c3 : q_lk q_T0 B 106 (200 * 0 + 3) = 3 := rfl
  have c4 : q_lk q_T0 B 106 (200 * 0 + 4) = 100009 := rfl
  match p, hp with
  | 0, _ =>
    refine (Y_law (O := fun i => q_lk q_T0 B 106 (200 * 0 + i)) (S := fun i => q_lk q_T0 B 107 (4 * 0 + i)) (p := 0) (b := 0) (c := 0) (k := 3) (D := fun i => if i = 0 then 0 else if i = 1 then 1 else if i = 2 then 2 else 1) q_first_cod m_9_0 rfl rfl (by omega) m_7_3 (fun j hj => ?_) ⟨rfl, fun i _ hi => ?_⟩ (fun i hi => by (repeat' split) <;> omega) rfl N).symm
    · match j, hj with
      | 0, _ => show q_lk q_T0 B 106 (200 * 0 + 0) = K_c (q_lk q_T0 B 7 0); rw [c0, m_7_0]; rfl
      | 1, _ => show q_lk q_T0 B 106 (200 * 0 + 1) = K_c (q_lk q_T0 B 7 1); rw [c1, m_7_1]; rfl
      | 2, _ => show q_lk q_T0 B 106 (200 * 0 + 2) = K_c (q_lk q_T0 B 7 2); rw [c2, m_7_2]; rfl
      | n + 3, h => omega
    · match i, hi with
      | 0, _ => exact Or.inl ⟨by show q_pu (q_lk q_T0 B 106 (200 * 0 + 0)); rw [c0]; unfold q_pu; omega, rfl⟩
      | 1, _ => exact Or.inl ⟨by show q_pu (q_lk q_T0 B 106 (200 * 0 + 1)); rw [c1]; unfold q_pu; omega, rfl⟩
      | 2, _ => exact Or.inr (Or.inr ⟨by show q_bi (q_lk q_T0 B 106 (200 * 0 + 2)); rw [c2]; unfold q_bi; omega, by decide, rfl⟩)
      | n + 3, h => omega
  | 1, _ =>
    refine (Y_law (O := fun i => q_lk q_T0 B 106 (200 * 0 + i)) (S := fun i => q_lk q_T0 B 107 (4 * 0 + i)) (p := 1) (b := 4) (c := 3) (k := 1) (D := fun i => i - 3) q_first_cod m_9_1 rfl rfl (by omega) m_7_5 (fun j hj => ?_) ⟨rfl, fun i h0 hi => ?_⟩ (fun i hi => by omega) rfl N).symm
    · have e : j = 0 := by omega
      subst e
      show q_lk q_T0 B 106 (200 * 0 + 3) = K_c (q_lk q_T0 B 7 4)
      rw [c3, m_7_4]
      rfl
    · have e : i = 3 := by omega
      subst e
      exact Or.inl ⟨by show q_pu (q_lk q_T0 B 106 (200 * 0 + 3)); rw [c3]; unfold q_pu; omega, rfl⟩
  | 2, _ =>
    refine (Y_law (O := fun i => q_lk q_T0 B 106 (200 * 0 + i)) (S := fun i => q_lk q_T0 B 107 (4 * 0 + i)) (p := 2) (b := 6) (c := 4) (k := 1) (D := fun i => i - 4) q_first_cod m_9_2 rfl rfl (by omega) m_7_7 (fun j hj => ?_) ⟨rfl, fun i h0 hi => ?_⟩ (fun i hi => by omega) rfl N).symm
    · have e : j = 0 := by omega
      subst e
      show q_lk q_T0 B 106 (200 * 0 + 4) = K_c (q_lk q_T0 B 7 6)
      rw [c4, m_7_6]
      rfl
    · have e : i = 4 := by omega
      subst e
      exact Or.inl ⟨by show q_pu (q_lk q_T0 B 106 (200 * 0 + 4)); rw [c4]; unfold q_pu; omega, rfl⟩
  | n + 3, h => omega
theorem q_first_MV {B : q_M} : q_MI (fun _ => q_Vt (q_lk q_T0 B 7) (q_lk q_T0 B 9) 8) 1 (q_lk q_T0 B) := q_MI_V q_first_MI (fun _ _ => q_lawV_of2 q_first_cod) (fun t ht p hp N => q_first_eq p hp N)
theorem q_first_Rtp {B : q_M} : q_Rtp (q_lk q_T0 B) := ⟨q_first_tape, rfl, q_first_mwd⟩
end
section
/-! BOTH SIDES: a year -/
theorem q_upd_id {M : q_M} {a i : Nat} {x : Int} (h : M a i = x) : q_upd M a i x = M := by
  funext b j
  by_cases e : b = a ∧ j = i
  · obtain ⟨rfl, rfl⟩ := e
    rw [q_upd_s, h]
  · exact q_upd_n (by omega)
theorem q_upd_r {M : q_M} {a i : Nat} {x : Int} : q_upd M a i x a = F_u (M a) i x := by
  funext j
  unfold F_u
  by_cases e : j = i
  · rw [if_pos e, e, q_upd_s]
  · rw [if_neg e, q_upd_n (by omega)]
theorem q_upd_o {M : q_M} {a i b : Nat} {x : Int} (h : b ≠ a) : q_upd M a i x b = M b := funext (fun j => q_upd_n (by omega))
theorem F_cnt_u {f : Nat → Int} {p : Nat} {v b : Int} : ∀ n : Nat, p < n → F_cnt (F_u f p v) b n = F_cnt f b n - (if f p = b then 1 else 0) + (if v = b then 1 else 0)
  | 0, h => absurd h (Nat.not_lt_zero p)
  | n + 1, h => by
    rw [F_cnt, F_cnt]
    by_cases e : p = n
    · subst e
      have hc : ∀ m : Nat, m ≤ p → F_cnt (F_u f p v) b m = F_cnt f b m := by
        intro m
        induction m with
        | zero => intro _; rfl
        | succ m ih => intro hm; rw [F_cnt, F_cnt, ih (by omega), F_u_n (by omega)]
      rw [hc p (Nat.le_refl p), F_u_s]
      omega
    · rw [F_cnt_u n (by omega), F_u_n (f := f) (v := v) (show n ≠ p by omega)]
      omega
theorem F_cnt_pos {f : Nat → Int} {b : Int} {k : Nat} : ∀ n : Nat, k < n → f k = b → 1 ≤ F_cnt f b n
  | 0, h, _ => absurd h (Nat.not_lt_zero k)
  | n + 1, h, e => by
    rw [F_cnt]
    have h0 := F_cnt_le f b n
    by_cases z : k = n
    · subst z
      rw [if_pos e]
      omega
    · have := F_cnt_pos n (by omega) e
      split <;> omega
/-- what holds of a world: no building holds more than it has room for, who is in one lies there -/
def q_ivS (S : q_M) : Prop := (0 ≤ S 9 0 ∧ S 9 0 ≤ 5) ∧ (∀ p, p < F_n S → 0 ≤ S 4 p ∧ S 4 p ≤ 5) ∧ (∀ b : Nat, b < 5 → F_cnt (S 4) b (F_n S) ≤ S 6 b) ∧ (∀ p b : Nat, p < F_n S → b < 5 → S 4 p = b → S 2 p = S 5 b)
theorem F_takes_12 {f w : Nat → Int} {room b : Int} {n p : Nat} (hp : f p ≠ b) (h : F_cnt f b n ≤ room) : F_takes1 f w room b n p = F_takes f w room b n p := by
  unfold F_takes1 F_takes
  rw [if_neg hp]
  by_cases c1 : F_cnt f b n < room
  · rw [if_pos c1, if_pos c1]
  · rw [if_neg c1, if_neg c1]
    by_cases c2 : F_last f w b n = 5
    · rw [if_pos c2, if_pos c2]
    · rw [if_neg c2, if_neg c2]
      rcases F_last_in (f := f) (w := w) (b := b) n with z | z
      · exact absurd z c2
      · have hc := F_cnt_pos n z.1 z.2
        have : 0 < room := by omega
        simp only [this, true_and]
theorem F_S1_4 {V : Nat → (Nat → Int) → Int} {S : q_M} {p b : Nat} : F_S1 V S p b 4 = S 4 := q_upd_o (by omega)
theorem F_ivS_1 {V : Nat → (Nat → Int) → Int} {S : q_M} {p b : Nat} (h : q_ivS S) (hp : p < F_n S) (hin : S 4 p = 5) : q_ivS (F_S1 V S p b) := by
  obtain ⟨h0, h1, h2, h3⟩ := h
  have e4 : F_S1 V S p b 4 = S 4 := q_upd_o (by omega)
  have e9 : F_S1 V S p b 9 = S 9 := q_upd_o (by omega)
  have e6 : F_S1 V S p b 6 = S 6 := q_upd_o (by omega)
  have e5 : F_S1 V S p b 5 = S 5 := q_upd_o (by omega)
  have en : F_n (F_S1 V S p b) = F_n S := by unfold F_n; rw [e9]
  refine ⟨by rw [e9]; exact h0, by rw [en, e4]; exact h1, by rw [en, e4, e6]; exact h2, ?_⟩
  rw [en, e4, e5]
  intro q c hq hc hqc
  have : q ≠ p := fun z => by rw [z] at hqc; omega
  rw [← h3 q c hq hc hqc]
  exact q_upd_n (by omega)
theorem F_S2_e {V : Nat → (Nat → Int) → Int} {S : q_M} {p b : Nat} (h : q_ivS S) (hb : b < 5) (hp : p < F_n S) (hin : S 4 p = 5) : F_S2 V S p b = G_S2 V S p b := by
  unfold F_S2 G_S2
  by_cases c : F_out V S b = 5
  · rw [if_pos c, if_pos c]
  · rw [if_neg c, if_neg c]
    have hc := c
    unfold F_out F_cast at hc
    by_cases c1 : F_cnt (S 4) b (F_n S) < S 6 b
    · rw [if_pos c1] at hc
      exact absurd rfl hc
    · rw [if_neg c1] at hc
      have eo : F_out V S b = F_last (S 4) (fun q => F_wants V S q b) b (F_n S) := if_neg c1
      rcases F_last_in (f := S 4) (w := fun q => F_wants V S q b) (b := b) (F_n S) with z | z
      · exact absurd z hc
      · rw [← eo] at z
        rw [q_upd_id (a := 2)]
        have h3 := h.2.2.2 _ b z.1 hb z.2
        rw [q_upd_n (by omega), q_upd_n (by omega)]
        exact h3
theorem F_ivS_2 {V : Nat → (Nat → Int) → Int} {S : q_M} {p b : Nat} (h : q_ivS S) (hb : b < 5) (hp : p < F_n S) (hin : S 4 p = 5) (hat : S 2 p = S 5 b) (ht : G_tak V S p b = true) : q_ivS (G_S2 V S p b) := by
  obtain ⟨h0, h1, h2, h3⟩ := h
  unfold G_S2
  by_cases c : F_out V S b = 5
  · rw [if_pos c]
    have hc : F_cnt (S 4) b (F_n S) < S 6 b := by
      unfold G_tak F_takes at ht
      unfold F_out F_cast at c
      by_cases c1 : F_cnt (S 4) b (F_n S) < S 6 b
      · exact c1
      · rw [if_neg c1] at c
        rw [if_neg c1, if_pos c] at ht
        exact absurd ht (by decide)
    generalize (if S 8 b + 1 < 99 then S 8 b + 1 else 99) = y
    have e4 : q_upd (q_upd S 4 p b) 8 b y 4 = F_u (S 4) p b := by rw [q_upd_o (by omega), q_upd_r]
    have eo : ∀ k, k ≠ 4 → k ≠ 8 → q_upd (q_upd S 4 p b) 8 b y k = S k := fun k k1 k2 => by rw [q_upd_o k2, q_upd_o k1]
    have en : F_n (q_upd (q_upd S 4 p b) 8 b y) = F_n S := by unfold F_n; rw [eo 9 (by omega) (by omega)]
    unfold q_ivS
    rw [en, e4, eo 9 (by omega) (by omega), eo 6 (by omega) (by omega), eo 2 (by omega) (by omega), eo 5 (by omega) (by omega)]
    refine ⟨h0, fun q hq => ?_, fun c hc2 => ?_, fun q c hq hc2 hqc => ?_⟩
    · unfold F_u
      split
      · omega
      · exact h1 q hq
    · rw [F_cnt_u _ hp]
      have := h2 c hc2
      rw [hin]
      by_cases e : c = b
      · subst e
        rw [if_pos rfl, if_neg (by omega)]
        omega
      · rw [if_neg (show ¬(5 : Int) = c by omega), if_neg (show ¬(b : Int) = c by omega)]
        omega
    · unfold F_u at hqc
      by_cases e : q = p
      · rw [if_pos e] at hqc
        have : b = c := by omega
        rw [e, ← this]
        exact hat
      · rw [if_neg e] at hqc
        exact h3 q c hq hc2 hqc
  · rw [if_neg c]
    have hc := c
    unfold F_out F_cast at hc
    by_cases c1 : F_cnt (S 4) b (F_n S) < S 6 b
    · rw [if_pos c1] at hc
      exact absurd rfl hc
    · rw [if_neg c1] at hc
      have eo1 : F_out V S b = F_last (S 4) (fun q => F_wants V S q b) b (F_n S) := if_neg c1
      have hz : F_out V S b < F_n S ∧ S 4 (F_out V S b) = b := by
        rcases F_last_in (f := S 4) (w := fun q => F_wants V S q b) (b := b) (F_n S) with z | z
        · exact absurd z hc
        · rw [eo1]; exact z
      generalize F_out V S b = o at hz
      have hop : o ≠ p := fun z => by have := hz.2; rw [z, hin] at this; omega
      generalize (if S 8 b + 1 < 99 then S 8 b + 1 else 99) = y
      have e4 : q_upd (q_upd (q_upd S 4 o 5) 4 p b) 8 b y 4 = F_u (F_u (S 4) o 5) p b := by rw [q_upd_o (by omega), q_upd_r, q_upd_r]
      have eo : ∀ k, k ≠ 4 → k ≠ 8 → q_upd (q_upd (q_upd S 4 o 5) 4 p b) 8 b y k = S k := fun k k1 k2 => by rw [q_upd_o k2, q_upd_o k1, q_upd_o k1]
      have en : F_n (q_upd (q_upd (q_upd S 4 o 5) 4 p b) 8 b y) = F_n S := by unfold F_n; rw [eo 9 (by omega) (by omega)]
      unfold q_ivS
      rw [en, e4, eo 9 (by omega) (by omega), eo 6 (by omega) (by omega), eo 2 (by omega) (by omega), eo 5 (by omega) (by omega)]
      refine ⟨h0, fun q hq => ?_, fun c hc2 => ?_, fun q c hq hc2 hqc => ?_⟩
      · unfold F_u
        split
        · omega
        · split
          · omega
          · exact h1 q hq
      · rw [F_cnt_u _ hp, F_cnt_u _ hz.1, F_u_n (Ne.symm hop), hin, hz.2]
        have := h2 c hc2
        by_cases e : c = b
        · rw [e] at this ⊢
          rw [if_pos rfl, if_neg (show ¬(5 : Int) = b by omega)]
          omega
        · rw [if_neg (show ¬(5 : Int) = c by omega), if_neg (show ¬(b : Int) = c by omega)]
          omega
      · unfold F_u at hqc
        by_cases e : q = p
        · rw [if_pos e] at hqc
          have : b = c := by omega
          rw [e, ← this]
          exact hat
        · rw [if_neg e] at hqc
          by_cases e2 : q = o
          · rw [if_pos e2] at hqc
            omega
          · rw [if_neg e2] at hqc
            exact h3 q c hq hc2 hqc
theorem F_goto_e {V : Nat → (Nat → Int) → Int} {S : q_M} {p b : Nat} (h : q_ivS S) (hb : b < 5) (hp : p < F_n S) (hin : S 4 p = 5) : F_goto V S p b = G_goto V S p b ∧ q_ivS (G_goto V S p b).2 := by
  have h1 := F_ivS_1 (V := V) (b := b) h hp hin
  have en : F_n (F_S1 V S p b) = F_n S := by unfold F_n F_S1; rw [q_upd_n (by omega)]
  have i1 : F_S1 V S p b 4 p = 5 := by rw [F_S1_4]; exact hin
  have et : F_tak V (F_S1 V S p b) p b = G_tak V (F_S1 V S p b) p b := F_takes_12 (by rw [i1]; omega) (h1.2.2.1 b hb)
  unfold F_goto G_goto
  rw [et]
  by_cases c1 : F_mv V S p b = S 5 b
  · rw [if_pos c1, if_pos c1]
    by_cases c2 : G_tak V (F_S1 V S p b) p b = true
    · rw [if_pos c2, if_pos c2, F_S2_e h1 hb (by rw [en]; exact hp) i1]
      refine ⟨rfl, F_ivS_2 h1 hb (by rw [en]; exact hp) i1 ?_ c2⟩
      show q_upd S 2 p (F_mv V S p b) 2 p = q_upd S 2 p (F_mv V S p b) 5 b
      rw [q_upd_s, q_upd_n (by omega)]
      exact c1
    · rw [if_neg c2, if_neg c2]
      exact ⟨rfl, h1⟩
  · rw [if_neg c1, if_neg c1]
    exact ⟨rfl, h1⟩
theorem G_goto_n {V : Nat → (Nat → Int) → Int} {S : q_M} {p b : Nat} : F_n (G_goto V S p b).2 = F_n S := by
  unfold G_goto G_S2 F_S1 F_n
  split
  · split
    · split <;> simp (disch := omega) only [q_upd_n]
    · simp (disch := omega) only [q_upd_n]
  · simp (disch := omega) only [q_upd_n]
theorem q_or_00 : q_or 0 0 = 0 := by decide
theorem q_or_x0 {x y : Int} : q_or (q_or x y) 0 = q_or x y := by
  unfold q_or
  rw [Int32.ofInt_toInt]
  show ((_ ||| _) ||| (0 : Int32)).toInt = _
  rw [Int32.or_zero]
theorem F_yr_0 {V : Nat → (Nat → Int) → Int} {S : q_M} : ∀ k : Nat, q_or (F_yr V S k).1 0 = (F_yr V S k).1
  | 0 => q_or_00
  | k + 1 => by
    rw [F_yr]
    split
    · dsimp only
      split
      · exact q_or_x0
      · exact F_yr_0 k
    · exact F_yr_0 k
theorem F_yr_e {V : Nat → (Nat → Int) → Int} {S : q_M} (h : q_ivS S) : ∀ k : Nat, k ≤ F_n S → F_yr V S k = G_yr V S k ∧ q_ivS (G_yr V S k).2 ∧ F_n (G_yr V S k).2 = F_n S
  | 0, _ => ⟨rfl, h, rfl⟩
  | k + 1, hk => by
    have ih := F_yr_e (V := V) h k (by omega)
    have h0 := F_yr_0 (V := V) (S := S) k
    rw [F_yr, G_yr]
    rw [ih.1] at h0 ⊢
    by_cases c1 : (G_yr V S k).2 4 k = 5
    · rw [if_pos c1]
      unfold G_turn
      by_cases c2 : F_wish V (G_yr V S k).2 k = 5
      · rw [if_neg (fun z => z.2 c2), if_pos c2]
        refine ⟨?_, ih.2⟩
        show _ = (q_or (G_yr V S k).1 (if false = true then _ else 0), (G_yr V S k).2)
        rw [if_neg (by decide), h0]
      · have hw : F_wish V (G_yr V S k).2 k < 5 := by
          rcases F_best_1 (F_likes V (G_yr V S k).2 k) (fun _ => true) 5 with z | z
          · exact z
          · exact absurd z c2
        have g := F_goto_e (V := V) ih.2.1 hw (by rw [ih.2.2]; omega) c1
        rw [if_pos ⟨c1, c2⟩, if_neg c2, g.1]
        refine ⟨?_, g.2, by rw [G_goto_n]; exact ih.2.2⟩
        by_cases c3 : (G_goto V (G_yr V S k).2 k (F_wish V (G_yr V S k).2 k)).1 = true
        · rw [if_pos c3, if_pos c3]
        · rw [if_neg c3, if_neg c3, h0]
    · rw [if_neg c1, if_neg (fun z => c1 z.1)]
      exact ⟨rfl, ih.2⟩
theorem G_year_o {V : Nat → (Nat → Int) → Int} {S : q_M} {k : Nat} (h : k ≠ 9) : (G_year V S).2 k = (G_yr V S (F_n S)).2 k := q_upd_o h
theorem G_year_90 {V : Nat → (Nat → Int) → Int} {S : q_M} : (G_year V S).2 9 0 = (G_yr V S (F_n S)).2 9 0 := by
  show q_upd (G_yr V S (F_n S)).2 9 1 (S 9 1 + 1) 9 0 = _
  exact q_upd_n (by omega)
theorem F_year_e {V : Nat → (Nat → Int) → Int} {S : q_M} (h : q_ivS S) : F_year V S = G_year V S ∧ q_ivS (G_year V S).2 ∧ F_n (G_year V S).2 = F_n S := by
  have e := F_yr_e (V := V) h (F_n S) (Nat.le_refl _)
  have n2 : F_n (G_year V S).2 = F_n S := by
    unfold F_n
    rw [G_year_90]
    exact e.2.2
  refine ⟨by unfold F_year G_year; rw [e.1], ?_, n2⟩
  obtain ⟨h0, h1, h2, h3⟩ := e.2.1
  unfold q_ivS
  rw [n2, G_year_o (show 4 ≠ 9 by omega), G_year_o (show 6 ≠ 9 by omega), G_year_o (show 2 ≠ 9 by omega), G_year_o (show 5 ≠ 9 by omega), G_year_90]
  rw [e.2.2] at h1 h2 h3
  exact ⟨h0, h1, h2, h3⟩
end
