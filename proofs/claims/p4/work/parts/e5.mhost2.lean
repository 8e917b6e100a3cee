/-! THE MODEL: image, back, and the questions' wrappers -/
theorem q_MI_img {Vt : Nat → Nat → (Nat → Int) → Int} {tm : Nat} {M M2 : q_M} (hI : q_MI Vt tm M) (hf : ∀ a i, a ≠ 108 → a ≠ 109 → (a = 100 → i ≠ 12) → M2 a i = M a i) (h1 : ∀ i, i < 15 → M2 108 i = M 104 i) (h2 : ∀ i, i < 20 → M2 108 (15 + i) = M 103 i) (h3 : M2 109 0 = M 100 0) (h4 : M2 109 1 = M 100 5) (h5 : M2 109 2 = M 100 11) (h6 : M2 100 12 = 1) : q_MI Vt tm M2 := by
  obtain ⟨g1, g2, g3, g4, g5, g6, g7, g8, g9⟩ := hI
  have r := g1
  obtain ⟨r1, r2, r3, r4, r5, r6, r7, r8, r9, r10, r11⟩ := r
  refine ⟨q_mb_same (fun a i ha => hf a i (by omega) (by omega) (by omega)) g1, by rw [hf _ _ (by omega) (by omega) (by omega)]; exact g2, fun b hb => by rw [hf _ _ (by omega) (by omega) (by omega)]; exact g3 b hb, fun s hs => by rw [hf _ _ (by omega) (by omega) (by omega)]; exact g4 s hs, q_mtx_mq (fun a i ha => hf a i (by omega) (by omega) (by omega)) g5, by rw [hf _ _ (by omega) (by omega) (by omega)]; exact g6, by rw [hf _ _ (by omega) (by omega) (by omega)]; exact g7, ⟨fun i hi => ?_, fun i hi => ?_, fun i hi => ?_, fun i hi => ?_, fun i hi => ?_, fun i hi => ?_, fun i hi => ?_, ?_, ?_, ?_⟩, Or.inr h6⟩
  · rw [h1 _ (by omega)]; exact r5 i hi
  · rw [h1 _ (by omega)]; exact r6 i hi
  · rw [h1 _ (by omega)]; exact r7 i hi
  · rw [h2 _ (by omega)]; exact r8 i hi
  · rw [h2 _ (by omega)]; exact ⟨(r9 i hi).1, g3 i hi⟩
  · rw [h2 _ (by omega)]; exact r10 i hi
  · rw [h2 _ (by omega)]; exact r11 i hi
  · rw [h3]; exact r1
  · rw [h4]; exact ⟨r2.1, g2⟩
  · rw [h5]; exact g6
theorem q_MI_bck {Vt : Nat → Nat → (Nat → Int) → Int} {tm : Nat} {M M2 : q_M} (hI : q_MI Vt tm M) (hf : ∀ a i, a ≠ 103 → a ≠ 104 → (a = 100 → i ≠ 0 ∧ i ≠ 5 ∧ i ≠ 11) → M2 a i = M a i) (h1 : ∀ i, i < 15 → M2 104 i = M 108 i) (h2 : ∀ i, i < 20 → M2 103 i = M 108 (15 + i)) (h3 : M2 100 0 = M 109 0) (h4 : M2 100 5 = M 109 1) (h5 : M2 100 11 = M 109 2) : q_MI Vt tm M2 := by
  obtain ⟨g1, g2, g3, g4, g5, g6, g7, g8, g9⟩ := hI
  have r := g1
  obtain ⟨r1, r2, r3, r4, r5, r6, r7, r8, r9, r10, r11⟩ := r
  have g := g8
  obtain ⟨i1, i2, i3, i4, i5, i6, i7, i8, i9, i10⟩ := g
  refine ⟨⟨by rw [h3]; exact i8, by rw [h4]; omega, fun i hi => by rw [hf _ _ (by omega) (by omega) (by omega)]; exact r3 i hi, fun i hi => by rw [hf _ _ (by omega) (by omega) (by omega)]; exact r4 i hi, fun i hi => by rw [h1 _ (by omega)]; exact i1 i hi, fun i hi => by rw [h1 _ (by omega)]; exact i2 i hi, fun i hi => by rw [h1 _ (by omega)]; exact i3 i hi, fun i hi => by rw [h2 _ (by omega)]; exact i4 i hi, fun i hi => by rw [h2 _ (by omega)]; have := i5 i hi; omega, fun i hi => by rw [h2 _ (by omega)]; exact i6 i hi, fun i hi => by rw [h2 _ (by omega)]; exact i7 i hi⟩, by rw [h4]; exact i9.2, fun b hb => by rw [h2 _ (by omega)]; exact (i5 b hb).2, fun s hs => by rw [hf _ _ (by omega) (by omega) (by omega)]; exact g4 s hs, q_mtx_mq (fun a i ha => hf a i (by omega) (by omega) (by omega)) g5, by rw [h5]; exact i10, by rw [hf _ _ (by omega) (by omega) (by omega)]; exact g7, q_img_same (fun a i ha => hf a i (by omega) (by omega) (by omega)) g8, by rw [hf _ _ (by omega) (by omega) (by omega)]; exact g9⟩
set_option maxHeartbeats 4000000 in
theorem mw_image {Vt : Nat → Nat → (Nat → Int) → Int} {d tm : Nat} {g : q_G} {M : q_M} {Q : Option q_V → q_G → q_M → Prop} (hI : q_MI Vt tm M) (hq : ∀ (v : Int) (M2 : q_M), q_MI Vt tm M2 → q_mfw M M2 → M2 100 5 = M 100 5 → M2 109 1 = M 100 5 → M2 100 12 = 1 → (∀ a i, ((a = 100 ∧ (i = 7 ∨ i = 11)) ∨ a = 105 ∨ a = 114) → M2 a i = M a i) → M2 109 2 = M 100 11 → Q (some (qI v)) g M2) : q_S 1 (d + 11) 191 [qR 6 100] g M Q := by
  rw [s_X6_image]
  have loop2 : ∀ j k : Nat, k + j = 20 → ∀ (M1 : q_M), (∀ a i, a ≠ 108 → a ≠ 109 → (a = 100 → i ≠ 12) → M1 a i = M a i) → (∀ i, i < 15 → M1 108 i = M 104 i) → (∀ i, i < k → M1 108 (15 + i) = M 103 i) → M1 100 12 = 1 → q_T 1 (d + 11) qP_X6_image 33 [] [qR 6 100, qI k] [] g M1 Q := by
    intro j
    induction j with
    | zero =>
      intro k hk M1 hf h1 h2 h6
      rw [b_X6_image_33]
      have ek : (15 + (k : Int)).toNat = 15 + k := by omega
      simp (disch := omega) only [b_X6_image_0, x_loadR_0, x_loadS_0, x_iconst, p_6_12, x_storeI_1, x_loadI_1, y_ic_ge_t, y_ic_ge_f, b_X6_image_13, f_6_13, f_6_4, y_iald_23, y_iald_35, y_iald_40, y_iald_55, y_iast_23, y_iast_35, y_iast_40, y_iast_55, x_iinc_1, x_goto, b_X6_image_31, b_X6_image_39, x_iadd, f_6_3, b_X6_image_60, f_6_14, f_6_0, f_6_5, f_6_11, x_ret0, q_isL_I, q_isL_R, q_isL_S, true_and, and_true, and_self, List.length_nil, List.length_cons, Nat.zero_add, x_K, x_Kn, Int.reduceToNat, Nat.reduceAdd, Nat.reduceMul, Nat.reduceLeDiff, Nat.reduceLT, Nat.zero_le, Int.reduceAdd, Int.reduceSub, Int.reduceMul, Int.reduceNeg, q_add_e, q_sub_e, q_mul_e, q_neg_e, q_upd_s, q_upd_n, zr_shr0, zr_shr1, zr_shr2, zr_shr3, zr_shr4, zr_and, zr_dyn8, zr_or, zr_shl, q_cpy_n, y_cpy26, tn_c, q_upd_n]
      refine hq _ _ (q_MI_img hI (fun a i ha hb hc => ?_) (fun i hi => ?_) (fun i hi => ?_) ?_ ?_ ?_ ?_) (fun a i ha => ?_) ?_ ?_ ?_ (fun a i ha => ?_) ?_
      · rw [q_upd_n (by omega), q_upd_n (by omega), q_upd_n (by omega)]; exact hf a i ha hb hc
      · rw [q_upd_n (by omega), q_upd_n (by omega), q_upd_n (by omega)]; exact h1 i hi
      · rw [q_upd_n (by omega), q_upd_n (by omega), q_upd_n (by omega)]; exact h2 i (by omega)
      · rw [q_upd_n (by omega), q_upd_n (by omega), q_upd_s]; exact hf _ _ (by omega) (by omega) (by omega)
      · rw [q_upd_n (by omega), q_upd_s]; exact hf _ _ (by omega) (by omega) (by omega)
      · rw [q_upd_s]; exact hf _ _ (by omega) (by omega) (by omega)
      · rw [q_upd_n (by omega), q_upd_n (by omega), q_upd_n (by omega)]; exact h6
      · rw [q_upd_n (by omega), q_upd_n (by omega), q_upd_n (by omega)]; exact hf _ _ (by omega) (by omega) (by omega)
      · rw [q_upd_n (by omega), q_upd_n (by omega), q_upd_n (by omega)]; exact hf _ _ (by omega) (by omega) (by omega)
      · rw [q_upd_n (by omega), q_upd_s]; exact hf _ _ (by omega) (by omega) (by omega)
      · rw [q_upd_n (by omega), q_upd_n (by omega), q_upd_n (by omega)]; exact h6
      · rw [q_upd_n (by omega), q_upd_n (by omega), q_upd_n (by omega)]; exact hf _ _ (by omega) (by omega) (by omega)
      · rw [q_upd_s]; exact hf _ _ (by omega) (by omega) (by omega)
    | succ j ih =>
      intro k hk M1 hf h1 h2 h6
      rw [b_X6_image_33]
      have ek : (15 + (k : Int)).toNat = 15 + k := by omega
      simp (disch := omega) only [b_X6_image_0, x_loadR_0, x_loadS_0, x_iconst, p_6_12, x_storeI_1, x_loadI_1, y_ic_ge_t, y_ic_ge_f, b_X6_image_13, f_6_13, f_6_4, y_iald_23, y_iald_35, y_iald_40, y_iald_55, y_iast_23, y_iast_35, y_iast_40, y_iast_55, x_iinc_1, x_goto, b_X6_image_31, b_X6_image_39, x_iadd, f_6_3, b_X6_image_60, f_6_14, f_6_0, f_6_5, f_6_11, x_ret0, q_isL_I, q_isL_R, q_isL_S, true_and, and_true, and_self, List.length_nil, List.length_cons, Nat.zero_add, x_K, x_Kn, Int.reduceToNat, Nat.reduceAdd, Nat.reduceMul, Nat.reduceLeDiff, Nat.reduceLT, Nat.zero_le, Int.reduceAdd, Int.reduceSub, Int.reduceMul, Int.reduceNeg, q_add_e, q_sub_e, q_mul_e, q_neg_e, q_upd_s, q_upd_n, zr_shr0, zr_shr1, zr_shr2, zr_shr3, zr_shr4, zr_and, zr_dyn8, zr_or, zr_shl, q_cpy_n, y_cpy26, ek, Int.toNat_natCast]
      refine ih (k + 1) (by omega) _ (fun a i ha hb hc => ?_) (fun i hi => ?_) (fun i hi => ?_) ?_
      · rw [q_upd_n (by omega)]; exact hf a i ha hb hc
      · rw [q_upd_n (by omega)]; exact h1 i hi
      · by_cases e : i = k
        · subst e
          rw [q_upd_s]; exact hf _ _ (by omega) (by omega) (by omega)
        · rw [q_upd_n (by omega)]; exact h2 i (by omega)
      · rw [q_upd_n (by omega)]; exact h6
  have loop1 : ∀ j k : Nat, k + j = 15 → ∀ (M1 : q_M), (∀ a i, a ≠ 108 → a ≠ 109 → (a = 100 → i ≠ 12) → M1 a i = M a i) → (∀ i, i < k → M1 108 i = M 104 i) → M1 100 12 = 1 → q_T 1 (d + 11) qP_X6_image 7 [] [qR 6 100, qI k] [] g M1 Q := by
    intro j
    induction j with
    | zero =>
      intro k hk M1 hf h1 h6
      rw [b_X6_image_7]
      simp (disch := omega) only [b_X6_image_0, x_loadR_0, x_loadS_0, x_iconst, p_6_12, x_storeI_1, x_loadI_1, y_ic_ge_t, y_ic_ge_f, b_X6_image_13, f_6_13, f_6_4, y_iald_23, y_iald_35, y_iald_40, y_iald_55, y_iast_23, y_iast_35, y_iast_40, y_iast_55, x_iinc_1, x_goto, b_X6_image_31, b_X6_image_39, x_iadd, f_6_3, b_X6_image_60, f_6_14, f_6_0, f_6_5, f_6_11, x_ret0, q_isL_I, q_isL_R, q_isL_S, true_and, and_true, and_self, List.length_nil, List.length_cons, Nat.zero_add, x_K, x_Kn, Int.reduceToNat, Nat.reduceAdd, Nat.reduceMul, Nat.reduceLeDiff, Nat.reduceLT, Nat.zero_le, Int.reduceAdd, Int.reduceSub, Int.reduceMul, Int.reduceNeg, q_add_e, q_sub_e, q_mul_e, q_neg_e, q_upd_s, q_upd_n, zr_shr0, zr_shr1, zr_shr2, zr_shr3, zr_shr4, zr_and, zr_dyn8, zr_or, zr_shl, q_cpy_n, y_cpy26]
      exact loop2 20 0 rfl _ hf (fun i hi => h1 i (by omega)) (fun i hi => absurd hi (by omega)) h6
    | succ j ih =>
      intro k hk M1 hf h1 h6
      rw [b_X6_image_7]
      simp (disch := omega) only [b_X6_image_0, x_loadR_0, x_loadS_0, x_iconst, p_6_12, x_storeI_1, x_loadI_1, y_ic_ge_t, y_ic_ge_f, b_X6_image_13, f_6_13, f_6_4, y_iald_23, y_iald_35, y_iald_40, y_iald_55, y_iast_23, y_iast_35, y_iast_40, y_iast_55, x_iinc_1, x_goto, b_X6_image_31, b_X6_image_39, x_iadd, f_6_3, b_X6_image_60, f_6_14, f_6_0, f_6_5, f_6_11, x_ret0, q_isL_I, q_isL_R, q_isL_S, true_and, and_true, and_self, List.length_nil, List.length_cons, Nat.zero_add, x_K, x_Kn, Int.reduceToNat, Nat.reduceAdd, Nat.reduceMul, Nat.reduceLeDiff, Nat.reduceLT, Nat.zero_le, Int.reduceAdd, Int.reduceSub, Int.reduceMul, Int.reduceNeg, q_add_e, q_sub_e, q_mul_e, q_neg_e, q_upd_s, q_upd_n, zr_shr0, zr_shr1, zr_shr2, zr_shr3, zr_shr4, zr_and, zr_dyn8, zr_or, zr_shl, q_cpy_n, y_cpy26, Int.toNat_natCast]
      refine ih (k + 1) (by omega) _ (fun a i ha hb hc => ?_) (fun i hi => ?_) ?_
      · rw [q_upd_n (by omega)]; exact hf a i ha hb hc
      · by_cases e : i = k
        · subst e
          rw [q_upd_s]; exact hf _ _ (by omega) (by omega) (by omega)
        · rw [q_upd_n (by omega)]; exact h1 i (by omega)
      · rw [q_upd_n (by omega)]; exact h6
  simp (disch := omega) only [b_X6_image_0, x_loadR_0, x_loadS_0, x_iconst, p_6_12, x_storeI_1, x_loadI_1, y_ic_ge_t, y_ic_ge_f, b_X6_image_13, f_6_13, f_6_4, y_iald_23, y_iald_35, y_iald_40, y_iald_55, y_iast_23, y_iast_35, y_iast_40, y_iast_55, x_iinc_1, x_goto, b_X6_image_31, b_X6_image_39, x_iadd, f_6_3, b_X6_image_60, f_6_14, f_6_0, f_6_5, f_6_11, x_ret0, q_isL_I, q_isL_R, q_isL_S, true_and, and_true, and_self, List.length_nil, List.length_cons, Nat.zero_add, x_K, x_Kn, Int.reduceToNat, Nat.reduceAdd, Nat.reduceMul, Nat.reduceLeDiff, Nat.reduceLT, Nat.zero_le, Int.reduceAdd, Int.reduceSub, Int.reduceMul, Int.reduceNeg, q_add_e, q_sub_e, q_mul_e, q_neg_e, q_upd_s, q_upd_n, zr_shr0, zr_shr1, zr_shr2, zr_shr3, zr_shr4, zr_and, zr_dyn8, zr_or, zr_shl, q_cpy_n, y_cpy26]
  refine ⟨Or.inr trivial, ?_⟩
  exact loop1 15 0 rfl _ (fun a i ha hb hc => by rw [q_upd_n (by omega)]) (fun i hi => absurd hi (by omega)) q_upd_s
set_option maxHeartbeats 4000000 in
theorem mw_back {Vt : Nat → Nat → (Nat → Int) → Int} {d tm : Nat} {g : q_G} {M : q_M} {Q : Option q_V → q_G → q_M → Prop} (hI : q_MI Vt tm M) (hq : ∀ (v : Int) (M2 : q_M), q_MI Vt tm M2 → q_mfw M M2 → M2 100 5 = (if M 100 12 = 0 then M 100 5 else M 109 1) → M2 109 1 = M 109 1 → M2 100 12 = M 100 12 → (∀ a i, ((a = 100 ∧ i = 7) ∨ (a = 109 ∧ i = 2) ∨ a = 105 ∨ a = 114) → M2 a i = M a i) → M2 100 11 = (if M 100 12 = 0 then M 100 11 else M 109 2) → Q (some (qI v)) g M2) : q_S 1 (d + 11) 192 [qR 6 100] g M Q := by
  rw [s_X6_back]
  by_cases c : M 100 12 = 0
  · simp (disch := omega) only [b_X6_back_0, x_loadR_0, x_loadS_0, f_6_12, y_if_ne_t, y_if_ne_f, b_X6_back_7, x_iconst, x_ret0, b_X6_back_10, x_storeI_1, x_loadI_1, y_ic_ge_t, y_ic_ge_f, b_X6_back_18, f_6_4, f_6_13, y_iald_23, y_iald_35, y_iald_40, y_iald_55, y_iast_23, y_iast_35, y_iast_40, y_iast_55, x_iinc_1, x_goto, b_X6_back_36, b_X6_back_44, f_6_3, x_iadd, b_X6_back_65, f_6_14, p_6_0, p_6_5, p_6_11, f_6_0, q_isL_I, q_isL_R, q_isL_S, true_and, and_true, and_self, List.length_nil, List.length_cons, Nat.zero_add, x_K, x_Kn, Int.reduceToNat, Nat.reduceAdd, Nat.reduceMul, Nat.reduceLeDiff, Nat.reduceLT, Nat.zero_le, Int.reduceAdd, Int.reduceSub, Int.reduceMul, Int.reduceNeg, q_add_e, q_sub_e, q_mul_e, q_neg_e, q_upd_s, q_upd_n, zr_shr0, zr_shr1, zr_shr2, zr_shr3, zr_shr4, zr_and, zr_dyn8, zr_or, zr_shl, q_cpy_n, y_cpy26]
    exact hq _ _ hI (fun _ _ _ => rfl) (by rw [if_pos c]) rfl rfl (fun _ _ _ => rfl) (by rw [if_pos c])
  rw [if_neg c, if_neg c] at hq
  have loop2 : ∀ j k : Nat, k + j = 20 → ∀ (M1 : q_M), (∀ a i, a ≠ 103 → a ≠ 104 → M1 a i = M a i) → (∀ i, i < 15 → M1 104 i = M 108 i) → (∀ i, i < k → M1 103 i = M 108 (15 + i)) → q_T 1 (d + 11) qP_X6_back 38 [] [qR 6 100, qI k] [] g M1 Q := by
    intro j
    induction j with
    | zero =>
      intro k hk M1 hf h1 h2
      rw [b_X6_back_38]
      have ek : (15 + (k : Int)).toNat = 15 + k := by omega
      simp (disch := omega) only [b_X6_back_0, x_loadR_0, x_loadS_0, f_6_12, y_if_ne_t, y_if_ne_f, b_X6_back_7, x_iconst, x_ret0, b_X6_back_10, x_storeI_1, x_loadI_1, y_ic_ge_t, y_ic_ge_f, b_X6_back_18, f_6_4, f_6_13, y_iald_23, y_iald_35, y_iald_40, y_iald_55, y_iast_23, y_iast_35, y_iast_40, y_iast_55, x_iinc_1, x_goto, b_X6_back_36, b_X6_back_44, f_6_3, x_iadd, b_X6_back_65, f_6_14, p_6_0, p_6_5, p_6_11, f_6_0, q_isL_I, q_isL_R, q_isL_S, true_and, and_true, and_self, List.length_nil, List.length_cons, Nat.zero_add, x_K, x_Kn, Int.reduceToNat, Nat.reduceAdd, Nat.reduceMul, Nat.reduceLeDiff, Nat.reduceLT, Nat.zero_le, Int.reduceAdd, Int.reduceSub, Int.reduceMul, Int.reduceNeg, q_add_e, q_sub_e, q_mul_e, q_neg_e, q_upd_s, q_upd_n, zr_shr0, zr_shr1, zr_shr2, zr_shr3, zr_shr4, zr_and, zr_dyn8, zr_or, zr_shl, q_cpy_n, y_cpy26, tn_c, q_upd_n]
      refine hq _ _ (q_MI_bck hI (fun a i ha hb hc => ?_) (fun i hi => ?_) (fun i hi => ?_) ?_ ?_ ?_) (fun a i ha => ?_) ?_ ?_ ?_ (fun a i ha => ?_) ?_
      · rw [q_upd_n (by omega), q_upd_n (by omega), q_upd_n (by omega)]; exact hf a i ha hb
      · rw [q_upd_n (by omega), q_upd_n (by omega), q_upd_n (by omega)]; exact h1 i hi
      · rw [q_upd_n (by omega), q_upd_n (by omega), q_upd_n (by omega)]; exact h2 i (by omega)
      · rw [q_upd_n (by omega), q_upd_n (by omega), q_upd_s]; exact hf _ _ (by omega) (by omega)
      · rw [q_upd_n (by omega), q_upd_s]; exact hf _ _ (by omega) (by omega)
      · rw [q_upd_s]; exact hf _ _ (by omega) (by omega)
      · rw [q_upd_n (by omega), q_upd_n (by omega), q_upd_n (by omega)]; exact hf _ _ (by omega) (by omega)
      · rw [q_upd_n (by omega), q_upd_s]; exact hf _ _ (by omega) (by omega)
      · rw [q_upd_n (by omega), q_upd_n (by omega), q_upd_n (by omega)]; exact hf _ _ (by omega) (by omega)
      · rw [q_upd_n (by omega), q_upd_n (by omega), q_upd_n (by omega)]; exact hf _ _ (by omega) (by omega)
      · rw [q_upd_n (by omega), q_upd_n (by omega), q_upd_n (by omega)]; exact hf _ _ (by omega) (by omega)
      · rw [q_upd_s]; exact hf _ _ (by omega) (by omega)
    | succ j ih =>
      intro k hk M1 hf h1 h2
      rw [b_X6_back_38]
      have ek : (15 + (k : Int)).toNat = 15 + k := by omega
      simp (disch := omega) only [b_X6_back_0, x_loadR_0, x_loadS_0, f_6_12, y_if_ne_t, y_if_ne_f, b_X6_back_7, x_iconst, x_ret0, b_X6_back_10, x_storeI_1, x_loadI_1, y_ic_ge_t, y_ic_ge_f, b_X6_back_18, f_6_4, f_6_13, y_iald_23, y_iald_35, y_iald_40, y_iald_55, y_iast_23, y_iast_35, y_iast_40, y_iast_55, x_iinc_1, x_goto, b_X6_back_36, b_X6_back_44, f_6_3, x_iadd, b_X6_back_65, f_6_14, p_6_0, p_6_5, p_6_11, f_6_0, q_isL_I, q_isL_R, q_isL_S, true_and, and_true, and_self, List.length_nil, List.length_cons, Nat.zero_add, x_K, x_Kn, Int.reduceToNat, Nat.reduceAdd, Nat.reduceMul, Nat.reduceLeDiff, Nat.reduceLT, Nat.zero_le, Int.reduceAdd, Int.reduceSub, Int.reduceMul, Int.reduceNeg, q_add_e, q_sub_e, q_mul_e, q_neg_e, q_upd_s, q_upd_n, zr_shr0, zr_shr1, zr_shr2, zr_shr3, zr_shr4, zr_and, zr_dyn8, zr_or, zr_shl, q_cpy_n, y_cpy26, ek, Int.toNat_natCast]
      refine ih (k + 1) (by omega) _ (fun a i ha hb => ?_) (fun i hi => ?_) (fun i hi => ?_)
      · rw [q_upd_n (by omega)]; exact hf a i ha hb
      · rw [q_upd_n (by omega)]; exact h1 i hi
      · by_cases e : i = k
        · subst e
          rw [q_upd_s]; exact hf _ _ (by omega) (by omega)
        · rw [q_upd_n (by omega)]; exact h2 i (by omega)
  have loop1 : ∀ j k : Nat, k + j = 15 → ∀ (M1 : q_M), (∀ a i, a ≠ 103 → a ≠ 104 → M1 a i = M a i) → (∀ i, i < k → M1 104 i = M 108 i) → q_T 1 (d + 11) qP_X6_back 12 [] [qR 6 100, qI k] [] g M1 Q := by
    intro j
    induction j with
    | zero =>
      intro k hk M1 hf h1
      rw [b_X6_back_12]
      simp (disch := omega) only [b_X6_back_0, x_loadR_0, x_loadS_0, f_6_12, y_if_ne_t, y_if_ne_f, b_X6_back_7, x_iconst, x_ret0, b_X6_back_10, x_storeI_1, x_loadI_1, y_ic_ge_t, y_ic_ge_f, b_X6_back_18, f_6_4, f_6_13, y_iald_23, y_iald_35, y_iald_40, y_iald_55, y_iast_23, y_iast_35, y_iast_40, y_iast_55, x_iinc_1, x_goto, b_X6_back_36, b_X6_back_44, f_6_3, x_iadd, b_X6_back_65, f_6_14, p_6_0, p_6_5, p_6_11, f_6_0, q_isL_I, q_isL_R, q_isL_S, true_and, and_true, and_self, List.length_nil, List.length_cons, Nat.zero_add, x_K, x_Kn, Int.reduceToNat, Nat.reduceAdd, Nat.reduceMul, Nat.reduceLeDiff, Nat.reduceLT, Nat.zero_le, Int.reduceAdd, Int.reduceSub, Int.reduceMul, Int.reduceNeg, q_add_e, q_sub_e, q_mul_e, q_neg_e, q_upd_s, q_upd_n, zr_shr0, zr_shr1, zr_shr2, zr_shr3, zr_shr4, zr_and, zr_dyn8, zr_or, zr_shl, q_cpy_n, y_cpy26]
      exact loop2 20 0 rfl _ hf (fun i hi => h1 i (by omega)) (fun i hi => absurd hi (by omega))
    | succ j ih =>
      intro k hk M1 hf h1
      rw [b_X6_back_12]
      simp (disch := omega) only [b_X6_back_0, x_loadR_0, x_loadS_0, f_6_12, y_if_ne_t, y_if_ne_f, b_X6_back_7, x_iconst, x_ret0, b_X6_back_10, x_storeI_1, x_loadI_1, y_ic_ge_t, y_ic_ge_f, b_X6_back_18, f_6_4, f_6_13, y_iald_23, y_iald_35, y_iald_40, y_iald_55, y_iast_23, y_iast_35, y_iast_40, y_iast_55, x_iinc_1, x_goto, b_X6_back_36, b_X6_back_44, f_6_3, x_iadd, b_X6_back_65, f_6_14, p_6_0, p_6_5, p_6_11, f_6_0, q_isL_I, q_isL_R, q_isL_S, true_and, and_true, and_self, List.length_nil, List.length_cons, Nat.zero_add, x_K, x_Kn, Int.reduceToNat, Nat.reduceAdd, Nat.reduceMul, Nat.reduceLeDiff, Nat.reduceLT, Nat.zero_le, Int.reduceAdd, Int.reduceSub, Int.reduceMul, Int.reduceNeg, q_add_e, q_sub_e, q_mul_e, q_neg_e, q_upd_s, q_upd_n, zr_shr0, zr_shr1, zr_shr2, zr_shr3, zr_shr4, zr_and, zr_dyn8, zr_or, zr_shl, q_cpy_n, y_cpy26, Int.toNat_natCast]
      refine ih (k + 1) (by omega) _ (fun a i ha hb => ?_) (fun i hi => ?_)
      · rw [q_upd_n (by omega)]; exact hf a i ha hb
      · by_cases e : i = k
        · subst e
          rw [q_upd_s]; exact hf _ _ (by omega) (by omega)
        · rw [q_upd_n (by omega)]; exact h1 i (by omega)
  simp (disch := omega) only [b_X6_back_0, x_loadR_0, x_loadS_0, f_6_12, y_if_ne_t, y_if_ne_f, b_X6_back_7, x_iconst, x_ret0, b_X6_back_10, x_storeI_1, x_loadI_1, y_ic_ge_t, y_ic_ge_f, b_X6_back_18, f_6_4, f_6_13, y_iald_23, y_iald_35, y_iald_40, y_iald_55, y_iast_23, y_iast_35, y_iast_40, y_iast_55, x_iinc_1, x_goto, b_X6_back_36, b_X6_back_44, f_6_3, x_iadd, b_X6_back_65, f_6_14, p_6_0, p_6_5, p_6_11, f_6_0, q_isL_I, q_isL_R, q_isL_S, true_and, and_true, and_self, List.length_nil, List.length_cons, Nat.zero_add, x_K, x_Kn, Int.reduceToNat, Nat.reduceAdd, Nat.reduceMul, Nat.reduceLeDiff, Nat.reduceLT, Nat.zero_le, Int.reduceAdd, Int.reduceSub, Int.reduceMul, Int.reduceNeg, q_add_e, q_sub_e, q_mul_e, q_neg_e, q_upd_s, q_upd_n, zr_shr0, zr_shr1, zr_shr2, zr_shr3, zr_shr4, zr_and, zr_dyn8, zr_or, zr_shl, q_cpy_n, y_cpy26]
  exact loop1 15 0 rfl _ (fun a i ha hb => rfl) (fun i hi => absurd hi (by omega))
