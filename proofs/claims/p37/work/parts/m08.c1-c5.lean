section
/-! THE MODEL: what the law says; likes, wants, goes -/
set_option maxHeartbeats 4000000 in
theorem mp_asks {V : Nat → (Nat → Int) → Int} {d : Nat} {g : q_G} {M : q_M} {part p : Nat} {b : Int} {Q : Option q_V → q_G → q_M → Prop} (hm : q_ml V M) (hpt : part < 3) (hp : p < (M 100 0).toNat) (hb : b = -1 ∨ (0 ≤ b ∧ b < 5)) (hq : ∀ M2 : q_M, q_mf M M2 → Q (some (qI (F_says V (mW M) part p (if b = -1 then 5 else b.toNat)))) g M2) : q_S 1 (d + 2) 137 [qR 6 100, qI part, qI p, qI b] g M Q := by
  obtain ⟨⟨r0, r1, r2, r3, r4, r5, r6, r7, r8, r9, ra⟩, hV, hl⟩ := hm
  have hp5 : p < 5 := by omega
  have hat := r4 p hp5
  rw [s_X6_asksOf]
  have fin : ∀ (M' : q_M) (l4 : q_V), q_isL l4 = false → (∀ a i, a ≠ 117 → M' a i = M a i) → (∀ i, i < 3 → M' 117 i = F_nm (mW M) p (if b = -1 then 5 else b.toNat) i) → q_T 1 (d + 2) qP_X6_asksOf 96 [] [qR 6 100, qI part, qI p, qI b, l4] [] g M' Q := by
    intro M' l4 hl4 h1 h2
    have e3 : M' 104 (3 * p + 1) = M 104 (3 * p + 1) := h1 _ _ (by omega)
    have e4 : M' 100 5 = M 100 5 := h1 _ _ (by omega)
    have e5 : M' 102 p = M 102 p := h1 _ _ (by omega)
    have law : ∀ (M3 : q_M) (nx : Nat) (ops : List Instr) (ls st : List q_V), (∀ a i, a ≠ 117 → M3 a i = M a i) → (∀ i, i < 6 → M3 117 i = F_nm (mW M) p (if b = -1 then 5 else b.toNat) i) → (∀ M2 : q_M, q_mf M M2 → q_T 1 (d + 2) qP_X6_asksOf nx ops ls (qI (V part (F_nm (mW M) p (if b = -1 then 5 else b.toNat))) :: st) g M2 Q) → q_S 1 (d + 1) 135 [qR 6 100, qI part] g M3 (q_K 1 (d + 2) qP_X6_asksOf nx ops ls st Q) := by
      intro M3 nx ops ls st g1 g2 h
      refine hl M3 (fun a i ha => g1 a i (by omega)) (g1 100 11 (by omega)) _ _ _ part hpt (fun M2 hM2 => ?_)
      rw [hV part _ _ g2]
      exact h M2 (fun a i q1 q2 => (hM2 a i q1).trans (g1 a i q2))
    rw [b_X6_asksOf_96]
    simp (disch := omega) only [b_X6_asksOf_0, x_loadR_0, x_loadS_0, f_6_29, x_iconst, y_iast_25, y_iast_26, y_iast_35, y_iast_40, x_loadI_3, y_ic_eq_t, y_ic_eq_f, b_X6_asksOf_26, f_6_4, x_loadI_2, x_imul, y_iald_25, y_iald_26, y_iald_35, y_iald_40, f_6_3, x_isub, x_storeI_4, x_loadI_4, y_if_ge_t, y_if_ge_f, b_X6_asksOf_55, x_ineg, x_goto, b_X6_asksOf_61, b_X6_asksOf_63, x_iadd, f_6_5, f_6_2, x_loadI_1, y_ic_ne_t, y_ic_ne_f, b_X6_asksOf_144, b_X6_asksOf_148, b_X6_asksOf_150, x_ret0, q_isL_I, q_isL_R, q_isL_S, true_and, and_true, and_self, List.length_nil, List.length_cons, Nat.zero_add, x_K, x_Kn, Int.reduceToNat, Nat.reduceAdd, Nat.reduceMul, Nat.reduceLeDiff, Nat.reduceLT, Nat.zero_le, Int.reduceAdd, Int.reduceSub, Int.reduceMul, Int.reduceNeg, q_add_e, q_sub_e, q_mul_e, q_neg_e, q_upd_s, q_upd_n, zr_shr0, zr_shr1, zr_shr2, zr_shr3, zr_shr4, zr_and, zr_dyn8, zr_or, zr_shl, q_cpy_n, y_cpy26, Int.toNat_natCast, tn_31, c_X6_says]
    refine law _ _ _ _ _ (fun a i ha => by simp (disch := omega) only [q_upd_n]; exact h1 a i ha) ?_ (fun M2 hf => ?_)
    · intro i hi
      rcases (show i < 3 ∨ i = 3 ∨ i = 4 ∨ i = 5 by omega) with h | rfl | rfl | rfl
      · simp (disch := omega) only [q_upd_n]
        exact h2 i h
      · simp (disch := omega) only [q_upd_n, q_upd_s, e3]
        exact (mW_3 hp).symm
      · simp (disch := omega) only [q_upd_n, q_upd_s, e4]
        exact mW_91.symm
      · simp (disch := omega) only [q_upd_n, q_upd_s, e5]
        exact (mW_1 hp).symm
    · have h9 := hq M2 hf
      unfold F_says F_cl at h9
      by_cases c : part = 2
      · rw [if_pos c] at h9
        simp (disch := omega) only [b_X6_asksOf_0, x_loadR_0, x_loadS_0, f_6_29, x_iconst, y_iast_25, y_iast_26, y_iast_35, y_iast_40, x_loadI_3, y_ic_eq_t, y_ic_eq_f, b_X6_asksOf_26, f_6_4, x_loadI_2, x_imul, y_iald_25, y_iald_26, y_iald_35, y_iald_40, f_6_3, x_isub, x_storeI_4, x_loadI_4, y_if_ge_t, y_if_ge_f, b_X6_asksOf_55, x_ineg, x_goto, b_X6_asksOf_61, b_X6_asksOf_63, x_iadd, f_6_5, f_6_2, x_loadI_1, y_ic_ne_t, y_ic_ne_f, b_X6_asksOf_144, b_X6_asksOf_148, b_X6_asksOf_150, x_ret0, q_isL_I, q_isL_R, q_isL_S, true_and, and_true, and_self, List.length_nil, List.length_cons, Nat.zero_add, x_K, x_Kn, Int.reduceToNat, Nat.reduceAdd, Nat.reduceMul, Nat.reduceLeDiff, Nat.reduceLT, Nat.zero_le, Int.reduceAdd, Int.reduceSub, Int.reduceMul, Int.reduceNeg, q_add_e, q_sub_e, q_mul_e, q_neg_e, q_upd_s, q_upd_n, zr_shr0, zr_shr1, zr_shr2, zr_shr3, zr_shr4, zr_and, zr_dyn8, zr_or, zr_shl, q_cpy_n, y_cpy26, c_X6_within, mp_within]
        exact h9
      · rw [if_neg c] at h9
        simp (disch := omega) only [b_X6_asksOf_0, x_loadR_0, x_loadS_0, f_6_29, x_iconst, y_iast_25, y_iast_26, y_iast_35, y_iast_40, x_loadI_3, y_ic_eq_t, y_ic_eq_f, b_X6_asksOf_26, f_6_4, x_loadI_2, x_imul, y_iald_25, y_iald_26, y_iald_35, y_iald_40, f_6_3, x_isub, x_storeI_4, x_loadI_4, y_if_ge_t, y_if_ge_f, b_X6_asksOf_55, x_ineg, x_goto, b_X6_asksOf_61, b_X6_asksOf_63, x_iadd, f_6_5, f_6_2, x_loadI_1, y_ic_ne_t, y_ic_ne_f, b_X6_asksOf_144, b_X6_asksOf_148, b_X6_asksOf_150, x_ret0, q_isL_I, q_isL_R, q_isL_S, true_and, and_true, and_self, List.length_nil, List.length_cons, Nat.zero_add, x_K, x_Kn, Int.reduceToNat, Nat.reduceAdd, Nat.reduceMul, Nat.reduceLeDiff, Nat.reduceLT, Nat.zero_le, Int.reduceAdd, Int.reduceSub, Int.reduceMul, Int.reduceNeg, q_add_e, q_sub_e, q_mul_e, q_neg_e, q_upd_s, q_upd_n, zr_shr0, zr_shr1, zr_shr2, zr_shr3, zr_shr4, zr_and, zr_dyn8, zr_or, zr_shl, q_cpy_n, y_cpy26, c_X6_within, mp_within]
        exact h9
  rcases hb with k | k
  · subst k
    simp (disch := omega) only [b_X6_asksOf_0, x_loadR_0, x_loadS_0, f_6_29, x_iconst, y_iast_25, y_iast_26, y_iast_35, y_iast_40, x_loadI_3, y_ic_eq_t, y_ic_eq_f, b_X6_asksOf_26, f_6_4, x_loadI_2, x_imul, y_iald_25, y_iald_26, y_iald_35, y_iald_40, f_6_3, x_isub, x_storeI_4, x_loadI_4, y_if_ge_t, y_if_ge_f, b_X6_asksOf_55, x_ineg, x_goto, b_X6_asksOf_61, b_X6_asksOf_63, x_iadd, f_6_5, f_6_2, x_loadI_1, y_ic_ne_t, y_ic_ne_f, b_X6_asksOf_144, b_X6_asksOf_148, b_X6_asksOf_150, x_ret0, q_isL_I, q_isL_R, q_isL_S, true_and, and_true, and_self, List.length_nil, List.length_cons, Nat.zero_add, x_K, x_Kn, Int.reduceToNat, Nat.reduceAdd, Nat.reduceMul, Nat.reduceLeDiff, Nat.reduceLT, Nat.zero_le, Int.reduceAdd, Int.reduceSub, Int.reduceMul, Int.reduceNeg, q_add_e, q_sub_e, q_mul_e, q_neg_e, q_upd_s, q_upd_n, zr_shr0, zr_shr1, zr_shr2, zr_shr3, zr_shr4, zr_and, zr_dyn8, zr_or, zr_shl, q_cpy_n, y_cpy26]
    refine fin _ _ rfl (fun a i ha => by simp (disch := omega) only [q_upd_n]) ?_
    intro i hi
    rcases (show i = 0 ∨ i = 1 ∨ i = 2 by omega) with rfl | rfl | rfl
    · simp (disch := omega) only [q_upd_n, q_upd_s]
      rfl
    · simp (disch := omega) only [q_upd_n, q_upd_s]
      rfl
    · simp (disch := omega) only [q_upd_n, q_upd_s]
      rfl
  · obtain ⟨B, rfl⟩ : ∃ B : Nat, b = B := ⟨b.toNat, by omega⟩
    have hB : B < 5 := by omega
    rw [if_neg (by omega), Int.toNat_natCast] at fin
    have hpl := r7 B hB
    have e0 : F_nm (mW M) p B 0 = if M 104 (3 * p) - M 103 (4 * B) < 0 then -(M 104 (3 * p) - M 103 (4 * B)) else M 104 (3 * p) - M 103 (4 * B) := by
      show (if B = 5 then 0 else if mW M 2 p - mW M 5 B < 0 then -(mW M 2 p - mW M 5 B) else mW M 2 p - mW M 5 B) = _
      rw [if_neg (by omega), mW_2 hp, mW_5 hB]
    by_cases hs : M 104 (3 * p) - M 103 (4 * B) < 0
    · rw [if_pos hs] at e0
      simp (disch := omega) only [b_X6_asksOf_0, x_loadR_0, x_loadS_0, f_6_29, x_iconst, y_iast_25, y_iast_26, y_iast_35, y_iast_40, x_loadI_3, y_ic_eq_t, y_ic_eq_f, b_X6_asksOf_26, f_6_4, x_loadI_2, x_imul, y_iald_25, y_iald_26, y_iald_35, y_iald_40, f_6_3, x_isub, x_storeI_4, x_loadI_4, y_if_ge_t, y_if_ge_f, b_X6_asksOf_55, x_ineg, x_goto, b_X6_asksOf_61, b_X6_asksOf_63, x_iadd, f_6_5, f_6_2, x_loadI_1, y_ic_ne_t, y_ic_ne_f, b_X6_asksOf_144, b_X6_asksOf_148, b_X6_asksOf_150, x_ret0, q_isL_I, q_isL_R, q_isL_S, true_and, and_true, and_self, List.length_nil, List.length_cons, Nat.zero_add, x_K, x_Kn, Int.reduceToNat, Nat.reduceAdd, Nat.reduceMul, Nat.reduceLeDiff, Nat.reduceLT, Nat.zero_le, Int.reduceAdd, Int.reduceSub, Int.reduceMul, Int.reduceNeg, q_add_e, q_sub_e, q_mul_e, q_neg_e, q_upd_s, q_upd_n, zr_shr0, zr_shr1, zr_shr2, zr_shr3, zr_shr4, zr_and, zr_dyn8, zr_or, zr_shl, q_cpy_n, y_cpy26, Int.toNat_natCast, tn_30, tn_40, tn_42, tn_43]
      refine fin _ _ rfl (fun a i ha => by simp (disch := omega) only [q_upd_n]) ?_
      intro i hi
      rcases (show i = 0 ∨ i = 1 ∨ i = 2 by omega) with rfl | rfl | rfl
      · simp (disch := omega) only [q_upd_n, q_upd_s]
        exact e0.symm
      · simp (disch := omega) only [q_upd_n, q_upd_s]
        exact (mW_7 hB).symm
      · simp (disch := omega) only [q_upd_n, q_upd_s]
        exact (mW_8 hB).symm
    · rw [if_neg hs] at e0
      simp (disch := omega) only [b_X6_asksOf_0, x_loadR_0, x_loadS_0, f_6_29, x_iconst, y_iast_25, y_iast_26, y_iast_35, y_iast_40, x_loadI_3, y_ic_eq_t, y_ic_eq_f, b_X6_asksOf_26, f_6_4, x_loadI_2, x_imul, y_iald_25, y_iald_26, y_iald_35, y_iald_40, f_6_3, x_isub, x_storeI_4, x_loadI_4, y_if_ge_t, y_if_ge_f, b_X6_asksOf_55, x_ineg, x_goto, b_X6_asksOf_61, b_X6_asksOf_63, x_iadd, f_6_5, f_6_2, x_loadI_1, y_ic_ne_t, y_ic_ne_f, b_X6_asksOf_144, b_X6_asksOf_148, b_X6_asksOf_150, x_ret0, q_isL_I, q_isL_R, q_isL_S, true_and, and_true, and_self, List.length_nil, List.length_cons, Nat.zero_add, x_K, x_Kn, Int.reduceToNat, Nat.reduceAdd, Nat.reduceMul, Nat.reduceLeDiff, Nat.reduceLT, Nat.zero_le, Int.reduceAdd, Int.reduceSub, Int.reduceMul, Int.reduceNeg, q_add_e, q_sub_e, q_mul_e, q_neg_e, q_upd_s, q_upd_n, zr_shr0, zr_shr1, zr_shr2, zr_shr3, zr_shr4, zr_and, zr_dyn8, zr_or, zr_shl, q_cpy_n, y_cpy26, Int.toNat_natCast, tn_30, tn_40, tn_42, tn_43]
      refine fin _ _ rfl (fun a i ha => by simp (disch := omega) only [q_upd_n]) ?_
      intro i hi
      rcases (show i = 0 ∨ i = 1 ∨ i = 2 by omega) with rfl | rfl | rfl
      · simp (disch := omega) only [q_upd_n, q_upd_s]
        exact e0.symm
      · simp (disch := omega) only [q_upd_n, q_upd_s]
        exact (mW_7 hB).symm
      · simp (disch := omega) only [q_upd_n, q_upd_s]
        exact (mW_8 hB).symm
set_option maxHeartbeats 4000000 in
theorem mp_likes {V : Nat → (Nat → Int) → Int} {d : Nat} {g : q_G} {M : q_M} {p b : Nat} {Q : Option q_V → q_G → q_M → Prop} (hm : q_ml V M) (hp : p < (M 100 0).toNat) (hb : b < 5) (hq : ∀ M2 : q_M, q_mf M M2 → Q (some (qI (F_likes V (mW M) p b))) g M2) : q_S 1 (d + 3) 141 [qR 6 100, qI p, qI b] g M Q := by
  have hm2 := hm
  obtain ⟨⟨r0, r1, r2, r3, r4, r5, r6, r7, r8, r9, ra⟩, hV, hl⟩ := hm2
  have hp5 : p < 5 := by omega
  have hk := r2 p hp5
  have hmo := r3 p hp5
  have asks : ∀ (nx : Nat) (ops : List Instr) (ls st : List q_V), (∀ M2 : q_M, q_mf M M2 → q_T 1 (d + 3) qP_X6_likesOf nx ops ls (qI (F_says V (mW M) 0 p b) :: st) g M2 Q) → q_S 1 (d + 2) 137 [qR 6 100, qI 0, qI p, qI b] g M (q_K 1 (d + 3) qP_X6_likesOf nx ops ls st Q) := fun nx ops ls st h => mp_asks (part := 0) hm (by omega) hp (Or.inr ⟨by omega, by omega⟩) (by rw [if_neg (by omega), Int.toNat_natCast]; exact h)
  rw [s_X6_likesOf]
  simp (disch := omega) only [b_X6_likesOf_0, x_loadR_0, x_loadS_0, x_iconst, x_loadI_1, x_loadI_2, x_storeI_3, f_6_1, y_iald_25, y_iald_40, tw_10_1, tw_10_2, tw_10_3, tw_10_4, tw_10_5, tw_10_o, b_X6_likesOf_48, f_6_2, y_irem, y_ic_ne_t, y_ic_ne_f, b_X6_likesOf_60, x_goto, b_X6_likesOf_65, x_loadI_3, y_idiv, b_X6_likesOf_68, x_ret0, b_X6_likesOf_69, f_6_3, x_imul, x_iadd, y_ic_le_t, y_ic_le_f, b_X6_likesOf_84, x_ineg, b_X6_likesOf_89, b_X6_likesOf_90, b_X6_likesOf_91, b_X6_likesOf_110, b_X6_likesOf_114, b_X6_likesOf_115, b_X6_likesOf_116, q_isL_I, q_isL_R, q_isL_S, true_and, and_true, and_self, List.length_nil, List.length_cons, Nat.zero_add, x_K, x_Kn, Int.reduceToNat, Nat.reduceAdd, Nat.reduceMul, Nat.reduceLeDiff, Nat.reduceLT, Nat.zero_le, Int.reduceAdd, Int.reduceSub, Int.reduceMul, Int.reduceNeg, q_add_e, q_sub_e, q_mul_e, q_neg_e, q_upd_s, q_upd_n, zr_shr0, zr_shr1, zr_shr2, zr_shr3, zr_shr4, zr_and, zr_dyn8, zr_or, zr_shl, q_cpy_n, y_cpy26, c_X6_asksOf]
  refine asks _ _ _ _ (fun M2 hf => ?_)
  have e1 : M2 101 p = M 101 p := hf _ _ (by omega) (by omega)
  have e2 : M2 102 p = M 102 p := hf _ _ (by omega) (by omega)
  have e7 : M2 103 (4 * b + 2) = M 103 (4 * b + 2) := hf _ _ (by omega) (by omega)
  have e8 : M2 103 (4 * b + 3) = M 103 (4 * b + 3) := hf _ _ (by omega) (by omega)
  have h9 := hq M2 hf
  have sl := F_says_le (V := V) (S := mW M) (part := 0) (p := p) (b := b)
  have hh := q_half (x := F_says V (mW M) 0 p b) (by omega) (by omega)
  unfold F_likes at h9
  rw [mW_0 hp, mW_1 hp, mW_7 hb, mW_8 hb] at h9
  have rm : q_rem (M 102 p) 5 = M 102 p % 5 := q_rem_e (by omega) (by omega) (by omega) (by omega)
  rcases (show M 101 p = 0 ∨ M 101 p = 1 ∨ M 101 p = 2 ∨ M 101 p = 3 ∨ M 101 p = 4 ∨ M 101 p = 5 by omega) with k | k | k | k | k | k
  · rw [k, if_neg (by omega), if_neg (by omega), if_neg (by omega)] at h9
    simp (disch := omega) only [b_X6_likesOf_0, x_loadR_0, x_loadS_0, x_iconst, x_loadI_1, x_loadI_2, x_storeI_3, f_6_1, y_iald_25, y_iald_40, tw_10_1, tw_10_2, tw_10_3, tw_10_4, tw_10_5, tw_10_o, b_X6_likesOf_48, f_6_2, y_irem, y_ic_ne_t, y_ic_ne_f, b_X6_likesOf_60, x_goto, b_X6_likesOf_65, x_loadI_3, y_idiv, b_X6_likesOf_68, x_ret0, b_X6_likesOf_69, f_6_3, x_imul, x_iadd, y_ic_le_t, y_ic_le_f, b_X6_likesOf_84, x_ineg, b_X6_likesOf_89, b_X6_likesOf_90, b_X6_likesOf_91, b_X6_likesOf_110, b_X6_likesOf_114, b_X6_likesOf_115, b_X6_likesOf_116, q_isL_I, q_isL_R, q_isL_S, true_and, and_true, and_self, List.length_nil, List.length_cons, Nat.zero_add, x_K, x_Kn, Int.reduceToNat, Nat.reduceAdd, Nat.reduceMul, Nat.reduceLeDiff, Nat.reduceLT, Nat.zero_le, Int.reduceAdd, Int.reduceSub, Int.reduceMul, Int.reduceNeg, q_add_e, q_sub_e, q_mul_e, q_neg_e, q_upd_s, q_upd_n, zr_shr0, zr_shr1, zr_shr2, zr_shr3, zr_shr4, zr_and, zr_dyn8, zr_or, zr_shl, q_cpy_n, y_cpy26, Int.toNat_natCast, e1, k]
    exact h9
  · rw [k, if_neg (by omega), if_pos (by omega)] at h9
    by_cases c : M 102 p % 5 = b
    · rw [if_pos c] at h9
      simp (disch := omega) only [b_X6_likesOf_0, x_loadR_0, x_loadS_0, x_iconst, x_loadI_1, x_loadI_2, x_storeI_3, f_6_1, y_iald_25, y_iald_40, tw_10_1, tw_10_2, tw_10_3, tw_10_4, tw_10_5, tw_10_o, b_X6_likesOf_48, f_6_2, y_irem, y_ic_ne_t, y_ic_ne_f, b_X6_likesOf_60, x_goto, b_X6_likesOf_65, x_loadI_3, y_idiv, b_X6_likesOf_68, x_ret0, b_X6_likesOf_69, f_6_3, x_imul, x_iadd, y_ic_le_t, y_ic_le_f, b_X6_likesOf_84, x_ineg, b_X6_likesOf_89, b_X6_likesOf_90, b_X6_likesOf_91, b_X6_likesOf_110, b_X6_likesOf_114, b_X6_likesOf_115, b_X6_likesOf_116, q_isL_I, q_isL_R, q_isL_S, true_and, and_true, and_self, List.length_nil, List.length_cons, Nat.zero_add, x_K, x_Kn, Int.reduceToNat, Nat.reduceAdd, Nat.reduceMul, Nat.reduceLeDiff, Nat.reduceLT, Nat.zero_le, Int.reduceAdd, Int.reduceSub, Int.reduceMul, Int.reduceNeg, q_add_e, q_sub_e, q_mul_e, q_neg_e, q_upd_s, q_upd_n, zr_shr0, zr_shr1, zr_shr2, zr_shr3, zr_shr4, zr_and, zr_dyn8, zr_or, zr_shl, q_cpy_n, y_cpy26, Int.toNat_natCast, e1, e2, k, rm]
      exact h9
    · rw [if_neg c] at h9
      simp (disch := omega) only [b_X6_likesOf_0, x_loadR_0, x_loadS_0, x_iconst, x_loadI_1, x_loadI_2, x_storeI_3, f_6_1, y_iald_25, y_iald_40, tw_10_1, tw_10_2, tw_10_3, tw_10_4, tw_10_5, tw_10_o, b_X6_likesOf_48, f_6_2, y_irem, y_ic_ne_t, y_ic_ne_f, b_X6_likesOf_60, x_goto, b_X6_likesOf_65, x_loadI_3, y_idiv, b_X6_likesOf_68, x_ret0, b_X6_likesOf_69, f_6_3, x_imul, x_iadd, y_ic_le_t, y_ic_le_f, b_X6_likesOf_84, x_ineg, b_X6_likesOf_89, b_X6_likesOf_90, b_X6_likesOf_91, b_X6_likesOf_110, b_X6_likesOf_114, b_X6_likesOf_115, b_X6_likesOf_116, q_isL_I, q_isL_R, q_isL_S, true_and, and_true, and_self, List.length_nil, List.length_cons, Nat.zero_add, x_K, x_Kn, Int.reduceToNat, Nat.reduceAdd, Nat.reduceMul, Nat.reduceLeDiff, Nat.reduceLT, Nat.zero_le, Int.reduceAdd, Int.reduceSub, Int.reduceMul, Int.reduceNeg, q_add_e, q_sub_e, q_mul_e, q_neg_e, q_upd_s, q_upd_n, zr_shr0, zr_shr1, zr_shr2, zr_shr3, zr_shr4, zr_and, zr_dyn8, zr_or, zr_shl, q_cpy_n, y_cpy26, Int.toNat_natCast, e1, e2, k, rm, hh]
      exact h9
  · rw [k, if_neg (by omega), if_neg (by omega), if_neg (by omega)] at h9
    simp (disch := omega) only [b_X6_likesOf_0, x_loadR_0, x_loadS_0, x_iconst, x_loadI_1, x_loadI_2, x_storeI_3, f_6_1, y_iald_25, y_iald_40, tw_10_1, tw_10_2, tw_10_3, tw_10_4, tw_10_5, tw_10_o, b_X6_likesOf_48, f_6_2, y_irem, y_ic_ne_t, y_ic_ne_f, b_X6_likesOf_60, x_goto, b_X6_likesOf_65, x_loadI_3, y_idiv, b_X6_likesOf_68, x_ret0, b_X6_likesOf_69, f_6_3, x_imul, x_iadd, y_ic_le_t, y_ic_le_f, b_X6_likesOf_84, x_ineg, b_X6_likesOf_89, b_X6_likesOf_90, b_X6_likesOf_91, b_X6_likesOf_110, b_X6_likesOf_114, b_X6_likesOf_115, b_X6_likesOf_116, q_isL_I, q_isL_R, q_isL_S, true_and, and_true, and_self, List.length_nil, List.length_cons, Nat.zero_add, x_K, x_Kn, Int.reduceToNat, Nat.reduceAdd, Nat.reduceMul, Nat.reduceLeDiff, Nat.reduceLT, Nat.zero_le, Int.reduceAdd, Int.reduceSub, Int.reduceMul, Int.reduceNeg, q_add_e, q_sub_e, q_mul_e, q_neg_e, q_upd_s, q_upd_n, zr_shr0, zr_shr1, zr_shr2, zr_shr3, zr_shr4, zr_and, zr_dyn8, zr_or, zr_shl, q_cpy_n, y_cpy26, Int.toNat_natCast, e1, k]
    exact h9
  · rw [k, if_neg (by omega), if_pos (by omega)] at h9
    by_cases c : M 102 p % 5 = b
    · rw [if_pos c] at h9
      simp (disch := omega) only [b_X6_likesOf_0, x_loadR_0, x_loadS_0, x_iconst, x_loadI_1, x_loadI_2, x_storeI_3, f_6_1, y_iald_25, y_iald_40, tw_10_1, tw_10_2, tw_10_3, tw_10_4, tw_10_5, tw_10_o, b_X6_likesOf_48, f_6_2, y_irem, y_ic_ne_t, y_ic_ne_f, b_X6_likesOf_60, x_goto, b_X6_likesOf_65, x_loadI_3, y_idiv, b_X6_likesOf_68, x_ret0, b_X6_likesOf_69, f_6_3, x_imul, x_iadd, y_ic_le_t, y_ic_le_f, b_X6_likesOf_84, x_ineg, b_X6_likesOf_89, b_X6_likesOf_90, b_X6_likesOf_91, b_X6_likesOf_110, b_X6_likesOf_114, b_X6_likesOf_115, b_X6_likesOf_116, q_isL_I, q_isL_R, q_isL_S, true_and, and_true, and_self, List.length_nil, List.length_cons, Nat.zero_add, x_K, x_Kn, Int.reduceToNat, Nat.reduceAdd, Nat.reduceMul, Nat.reduceLeDiff, Nat.reduceLT, Nat.zero_le, Int.reduceAdd, Int.reduceSub, Int.reduceMul, Int.reduceNeg, q_add_e, q_sub_e, q_mul_e, q_neg_e, q_upd_s, q_upd_n, zr_shr0, zr_shr1, zr_shr2, zr_shr3, zr_shr4, zr_and, zr_dyn8, zr_or, zr_shl, q_cpy_n, y_cpy26, Int.toNat_natCast, e1, e2, k, rm]
      exact h9
    · rw [if_neg c] at h9
      simp (disch := omega) only [b_X6_likesOf_0, x_loadR_0, x_loadS_0, x_iconst, x_loadI_1, x_loadI_2, x_storeI_3, f_6_1, y_iald_25, y_iald_40, tw_10_1, tw_10_2, tw_10_3, tw_10_4, tw_10_5, tw_10_o, b_X6_likesOf_48, f_6_2, y_irem, y_ic_ne_t, y_ic_ne_f, b_X6_likesOf_60, x_goto, b_X6_likesOf_65, x_loadI_3, y_idiv, b_X6_likesOf_68, x_ret0, b_X6_likesOf_69, f_6_3, x_imul, x_iadd, y_ic_le_t, y_ic_le_f, b_X6_likesOf_84, x_ineg, b_X6_likesOf_89, b_X6_likesOf_90, b_X6_likesOf_91, b_X6_likesOf_110, b_X6_likesOf_114, b_X6_likesOf_115, b_X6_likesOf_116, q_isL_I, q_isL_R, q_isL_S, true_and, and_true, and_self, List.length_nil, List.length_cons, Nat.zero_add, x_K, x_Kn, Int.reduceToNat, Nat.reduceAdd, Nat.reduceMul, Nat.reduceLeDiff, Nat.reduceLT, Nat.zero_le, Int.reduceAdd, Int.reduceSub, Int.reduceMul, Int.reduceNeg, q_add_e, q_sub_e, q_mul_e, q_neg_e, q_upd_s, q_upd_n, zr_shr0, zr_shr1, zr_shr2, zr_shr3, zr_shr4, zr_and, zr_dyn8, zr_or, zr_shl, q_cpy_n, y_cpy26, Int.toNat_natCast, e1, e2, k, rm, hh]
      exact h9
  · rw [k, if_neg (by omega), if_neg (by omega)] at h9
    by_cases c : 50 < M 103 (4 * b + 2)
    · rw [if_pos ⟨rfl, c⟩] at h9
      simp (disch := omega) only [b_X6_likesOf_0, x_loadR_0, x_loadS_0, x_iconst, x_loadI_1, x_loadI_2, x_storeI_3, f_6_1, y_iald_25, y_iald_40, tw_10_1, tw_10_2, tw_10_3, tw_10_4, tw_10_5, tw_10_o, b_X6_likesOf_48, f_6_2, y_irem, y_ic_ne_t, y_ic_ne_f, b_X6_likesOf_60, x_goto, b_X6_likesOf_65, x_loadI_3, y_idiv, b_X6_likesOf_68, x_ret0, b_X6_likesOf_69, f_6_3, x_imul, x_iadd, y_ic_le_t, y_ic_le_f, b_X6_likesOf_84, x_ineg, b_X6_likesOf_89, b_X6_likesOf_90, b_X6_likesOf_91, b_X6_likesOf_110, b_X6_likesOf_114, b_X6_likesOf_115, b_X6_likesOf_116, q_isL_I, q_isL_R, q_isL_S, true_and, and_true, and_self, List.length_nil, List.length_cons, Nat.zero_add, x_K, x_Kn, Int.reduceToNat, Nat.reduceAdd, Nat.reduceMul, Nat.reduceLeDiff, Nat.reduceLT, Nat.zero_le, Int.reduceAdd, Int.reduceSub, Int.reduceMul, Int.reduceNeg, q_add_e, q_sub_e, q_mul_e, q_neg_e, q_upd_s, q_upd_n, zr_shr0, zr_shr1, zr_shr2, zr_shr3, zr_shr4, zr_and, zr_dyn8, zr_or, zr_shl, q_cpy_n, y_cpy26, Int.toNat_natCast, tn_42, e1, e7, k]
      exact h9
    · rw [if_neg (fun z => c z.2)] at h9
      simp (disch := omega) only [b_X6_likesOf_0, x_loadR_0, x_loadS_0, x_iconst, x_loadI_1, x_loadI_2, x_storeI_3, f_6_1, y_iald_25, y_iald_40, tw_10_1, tw_10_2, tw_10_3, tw_10_4, tw_10_5, tw_10_o, b_X6_likesOf_48, f_6_2, y_irem, y_ic_ne_t, y_ic_ne_f, b_X6_likesOf_60, x_goto, b_X6_likesOf_65, x_loadI_3, y_idiv, b_X6_likesOf_68, x_ret0, b_X6_likesOf_69, f_6_3, x_imul, x_iadd, y_ic_le_t, y_ic_le_f, b_X6_likesOf_84, x_ineg, b_X6_likesOf_89, b_X6_likesOf_90, b_X6_likesOf_91, b_X6_likesOf_110, b_X6_likesOf_114, b_X6_likesOf_115, b_X6_likesOf_116, q_isL_I, q_isL_R, q_isL_S, true_and, and_true, and_self, List.length_nil, List.length_cons, Nat.zero_add, x_K, x_Kn, Int.reduceToNat, Nat.reduceAdd, Nat.reduceMul, Nat.reduceLeDiff, Nat.reduceLT, Nat.zero_le, Int.reduceAdd, Int.reduceSub, Int.reduceMul, Int.reduceNeg, q_add_e, q_sub_e, q_mul_e, q_neg_e, q_upd_s, q_upd_n, zr_shr0, zr_shr1, zr_shr2, zr_shr3, zr_shr4, zr_and, zr_dyn8, zr_or, zr_shl, q_cpy_n, y_cpy26, Int.toNat_natCast, tn_42, e1, e7, k]
      exact h9
  · rw [k] at h9
    by_cases c : M 102 p < M 103 (4 * b + 3)
    · rw [if_pos ⟨rfl, c⟩] at h9
      simp (disch := omega) only [b_X6_likesOf_0, x_loadR_0, x_loadS_0, x_iconst, x_loadI_1, x_loadI_2, x_storeI_3, f_6_1, y_iald_25, y_iald_40, tw_10_1, tw_10_2, tw_10_3, tw_10_4, tw_10_5, tw_10_o, b_X6_likesOf_48, f_6_2, y_irem, y_ic_ne_t, y_ic_ne_f, b_X6_likesOf_60, x_goto, b_X6_likesOf_65, x_loadI_3, y_idiv, b_X6_likesOf_68, x_ret0, b_X6_likesOf_69, f_6_3, x_imul, x_iadd, y_ic_le_t, y_ic_le_f, b_X6_likesOf_84, x_ineg, b_X6_likesOf_89, b_X6_likesOf_90, b_X6_likesOf_91, b_X6_likesOf_110, b_X6_likesOf_114, b_X6_likesOf_115, b_X6_likesOf_116, q_isL_I, q_isL_R, q_isL_S, true_and, and_true, and_self, List.length_nil, List.length_cons, Nat.zero_add, x_K, x_Kn, Int.reduceToNat, Nat.reduceAdd, Nat.reduceMul, Nat.reduceLeDiff, Nat.reduceLT, Nat.zero_le, Int.reduceAdd, Int.reduceSub, Int.reduceMul, Int.reduceNeg, q_add_e, q_sub_e, q_mul_e, q_neg_e, q_upd_s, q_upd_n, zr_shr0, zr_shr1, zr_shr2, zr_shr3, zr_shr4, zr_and, zr_dyn8, zr_or, zr_shl, q_cpy_n, y_cpy26, Int.toNat_natCast, tn_43, e1, e2, e8, k]
      exact h9
    · rw [if_neg (fun z => c z.2), if_neg (by omega), if_neg (by omega)] at h9
      simp (disch := omega) only [b_X6_likesOf_0, x_loadR_0, x_loadS_0, x_iconst, x_loadI_1, x_loadI_2, x_storeI_3, f_6_1, y_iald_25, y_iald_40, tw_10_1, tw_10_2, tw_10_3, tw_10_4, tw_10_5, tw_10_o, b_X6_likesOf_48, f_6_2, y_irem, y_ic_ne_t, y_ic_ne_f, b_X6_likesOf_60, x_goto, b_X6_likesOf_65, x_loadI_3, y_idiv, b_X6_likesOf_68, x_ret0, b_X6_likesOf_69, f_6_3, x_imul, x_iadd, y_ic_le_t, y_ic_le_f, b_X6_likesOf_84, x_ineg, b_X6_likesOf_89, b_X6_likesOf_90, b_X6_likesOf_91, b_X6_likesOf_110, b_X6_likesOf_114, b_X6_likesOf_115, b_X6_likesOf_116, q_isL_I, q_isL_R, q_isL_S, true_and, and_true, and_self, List.length_nil, List.length_cons, Nat.zero_add, x_K, x_Kn, Int.reduceToNat, Nat.reduceAdd, Nat.reduceMul, Nat.reduceLeDiff, Nat.reduceLT, Nat.zero_le, Int.reduceAdd, Int.reduceSub, Int.reduceMul, Int.reduceNeg, q_add_e, q_sub_e, q_mul_e, q_neg_e, q_upd_s, q_upd_n, zr_shr0, zr_shr1, zr_shr2, zr_shr3, zr_shr4, zr_and, zr_dyn8, zr_or, zr_shl, q_cpy_n, y_cpy26, Int.toNat_natCast, tn_43, e1, e2, e8, k]
      exact h9
set_option maxHeartbeats 4000000 in
theorem mp_wants {V : Nat → (Nat → Int) → Int} {d : Nat} {g : q_G} {M : q_M} {p b : Nat} {Q : Option q_V → q_G → q_M → Prop} (hm : q_ml V M) (hp : p < (M 100 0).toNat) (hb : b < 5) (hq : ∀ M2 : q_M, q_mf M M2 → Q (some (qI (F_wants V (mW M) p b))) g M2) : q_S 1 (d + 3) 142 [qR 6 100, qI p, qI b] g M Q := by
  have hm2 := hm
  obtain ⟨⟨r0, r1, r2, r3, r4, r5, r6, r7, r8, r9, ra⟩, hV, hl⟩ := hm2
  have hp5 : p < 5 := by omega
  have hk := r2 p hp5
  have hmo := r3 p hp5
  have asks : ∀ (nx : Nat) (ops : List Instr) (ls st : List q_V), (∀ M2 : q_M, q_mf M M2 → q_T 1 (d + 3) qP_X6_wantedOf nx ops ls (qI (F_says V (mW M) 1 p b) :: st) g M2 Q) → q_S 1 (d + 2) 137 [qR 6 100, qI 1, qI p, qI b] g M (q_K 1 (d + 3) qP_X6_wantedOf nx ops ls st Q) := fun nx ops ls st h => mp_asks (part := 1) hm (by omega) hp (Or.inr ⟨by omega, by omega⟩) (by rw [if_neg (by omega), Int.toNat_natCast]; exact h)
  rw [s_X6_wantedOf]
  simp (disch := omega) only [b_X6_wantedOf_0, x_loadR_0, x_loadS_0, x_iconst, x_loadI_1, x_loadI_2, x_storeI_3, f_6_1, y_iald_25, tw_11_2, tw_11_3, tw_11_4, tw_11_o, b_X6_wantedOf_40, x_loadI_3, f_6_2, x_imul, x_iadd, x_ret0, b_X6_wantedOf_52, x_ineg, b_X6_wantedOf_55, f_6_5, y_irem, y_if_ne_t, y_if_ne_f, b_X6_wantedOf_64, x_goto, b_X6_wantedOf_78, b_X6_wantedOf_79, b_X6_wantedOf_80, q_isL_I, q_isL_R, q_isL_S, true_and, and_true, and_self, List.length_nil, List.length_cons, Nat.zero_add, x_K, x_Kn, Int.reduceToNat, Nat.reduceAdd, Nat.reduceMul, Nat.reduceLeDiff, Nat.reduceLT, Nat.zero_le, Int.reduceAdd, Int.reduceSub, Int.reduceMul, Int.reduceNeg, q_add_e, q_sub_e, q_mul_e, q_neg_e, q_upd_s, q_upd_n, zr_shr0, zr_shr1, zr_shr2, zr_shr3, zr_shr4, zr_and, zr_dyn8, zr_or, zr_shl, q_cpy_n, y_cpy26, c_X6_asksOf]
  refine asks _ _ _ _ (fun M2 hf => ?_)
  have e1 : M2 101 p = M 101 p := hf _ _ (by omega) (by omega)
  have e2 : M2 102 p = M 102 p := hf _ _ (by omega) (by omega)
  have e5 : M2 100 5 = M 100 5 := hf _ _ (by omega) (by omega)
  have h9 := hq M2 hf
  have sl := F_says_le (V := V) (S := mW M) (part := 1) (p := p) (b := b)
  unfold F_wants at h9
  rw [mW_0 hp, mW_1 hp, mW_91] at h9
  have rm : q_rem (M 100 5) 2 = M 100 5 % 2 := q_rem_e (by omega) (by omega) (by omega) (by omega)
  rcases (show M 101 p = 3 ∨ M 101 p = 2 ∨ M 101 p = 4 ∨ (M 101 p ≠ 3 ∧ M 101 p ≠ 2 ∧ M 101 p ≠ 4) by omega) with k | k | k | k
  · rw [if_pos k] at h9
    simp (disch := omega) only [b_X6_wantedOf_0, x_loadR_0, x_loadS_0, x_iconst, x_loadI_1, x_loadI_2, x_storeI_3, f_6_1, y_iald_25, tw_11_2, tw_11_3, tw_11_4, tw_11_o, b_X6_wantedOf_40, x_loadI_3, f_6_2, x_imul, x_iadd, x_ret0, b_X6_wantedOf_52, x_ineg, b_X6_wantedOf_55, f_6_5, y_irem, y_if_ne_t, y_if_ne_f, b_X6_wantedOf_64, x_goto, b_X6_wantedOf_78, b_X6_wantedOf_79, b_X6_wantedOf_80, q_isL_I, q_isL_R, q_isL_S, true_and, and_true, and_self, List.length_nil, List.length_cons, Nat.zero_add, x_K, x_Kn, Int.reduceToNat, Nat.reduceAdd, Nat.reduceMul, Nat.reduceLeDiff, Nat.reduceLT, Nat.zero_le, Int.reduceAdd, Int.reduceSub, Int.reduceMul, Int.reduceNeg, q_add_e, q_sub_e, q_mul_e, q_neg_e, q_upd_s, q_upd_n, zr_shr0, zr_shr1, zr_shr2, zr_shr3, zr_shr4, zr_and, zr_dyn8, zr_or, zr_shl, q_cpy_n, y_cpy26, Int.toNat_natCast, e1, k]
    exact h9
  · rw [if_neg (by omega), if_pos (Or.inl k)] at h9
    simp (disch := omega) only [b_X6_wantedOf_0, x_loadR_0, x_loadS_0, x_iconst, x_loadI_1, x_loadI_2, x_storeI_3, f_6_1, y_iald_25, tw_11_2, tw_11_3, tw_11_4, tw_11_o, b_X6_wantedOf_40, x_loadI_3, f_6_2, x_imul, x_iadd, x_ret0, b_X6_wantedOf_52, x_ineg, b_X6_wantedOf_55, f_6_5, y_irem, y_if_ne_t, y_if_ne_f, b_X6_wantedOf_64, x_goto, b_X6_wantedOf_78, b_X6_wantedOf_79, b_X6_wantedOf_80, q_isL_I, q_isL_R, q_isL_S, true_and, and_true, and_self, List.length_nil, List.length_cons, Nat.zero_add, x_K, x_Kn, Int.reduceToNat, Nat.reduceAdd, Nat.reduceMul, Nat.reduceLeDiff, Nat.reduceLT, Nat.zero_le, Int.reduceAdd, Int.reduceSub, Int.reduceMul, Int.reduceNeg, q_add_e, q_sub_e, q_mul_e, q_neg_e, q_upd_s, q_upd_n, zr_shr0, zr_shr1, zr_shr2, zr_shr3, zr_shr4, zr_and, zr_dyn8, zr_or, zr_shl, q_cpy_n, y_cpy26, Int.toNat_natCast, e1, e2, k]
    exact h9
  · rw [if_neg (by omega)] at h9
    by_cases c : M 100 5 % 2 = 0
    · rw [if_pos (Or.inr ⟨k, c⟩)] at h9
      simp (disch := omega) only [b_X6_wantedOf_0, x_loadR_0, x_loadS_0, x_iconst, x_loadI_1, x_loadI_2, x_storeI_3, f_6_1, y_iald_25, tw_11_2, tw_11_3, tw_11_4, tw_11_o, b_X6_wantedOf_40, x_loadI_3, f_6_2, x_imul, x_iadd, x_ret0, b_X6_wantedOf_52, x_ineg, b_X6_wantedOf_55, f_6_5, y_irem, y_if_ne_t, y_if_ne_f, b_X6_wantedOf_64, x_goto, b_X6_wantedOf_78, b_X6_wantedOf_79, b_X6_wantedOf_80, q_isL_I, q_isL_R, q_isL_S, true_and, and_true, and_self, List.length_nil, List.length_cons, Nat.zero_add, x_K, x_Kn, Int.reduceToNat, Nat.reduceAdd, Nat.reduceMul, Nat.reduceLeDiff, Nat.reduceLT, Nat.zero_le, Int.reduceAdd, Int.reduceSub, Int.reduceMul, Int.reduceNeg, q_add_e, q_sub_e, q_mul_e, q_neg_e, q_upd_s, q_upd_n, zr_shr0, zr_shr1, zr_shr2, zr_shr3, zr_shr4, zr_and, zr_dyn8, zr_or, zr_shl, q_cpy_n, y_cpy26, Int.toNat_natCast, e1, e2, e5, k, rm, c]
      exact h9
    · rw [if_neg (by omega)] at h9
      generalize M 100 5 % 2 = y at rm c
      simp (disch := omega) only [b_X6_wantedOf_0, x_loadR_0, x_loadS_0, x_iconst, x_loadI_1, x_loadI_2, x_storeI_3, f_6_1, y_iald_25, tw_11_2, tw_11_3, tw_11_4, tw_11_o, b_X6_wantedOf_40, x_loadI_3, f_6_2, x_imul, x_iadd, x_ret0, b_X6_wantedOf_52, x_ineg, b_X6_wantedOf_55, f_6_5, y_irem, y_if_ne_t, y_if_ne_f, b_X6_wantedOf_64, x_goto, b_X6_wantedOf_78, b_X6_wantedOf_79, b_X6_wantedOf_80, q_isL_I, q_isL_R, q_isL_S, true_and, and_true, and_self, List.length_nil, List.length_cons, Nat.zero_add, x_K, x_Kn, Int.reduceToNat, Nat.reduceAdd, Nat.reduceMul, Nat.reduceLeDiff, Nat.reduceLT, Nat.zero_le, Int.reduceAdd, Int.reduceSub, Int.reduceMul, Int.reduceNeg, q_add_e, q_sub_e, q_mul_e, q_neg_e, q_upd_s, q_upd_n, zr_shr0, zr_shr1, zr_shr2, zr_shr3, zr_shr4, zr_and, zr_dyn8, zr_or, zr_shl, q_cpy_n, y_cpy26, Int.toNat_natCast, e1, e2, e5, k, rm]
      exact h9
  · rw [if_neg (by omega), if_neg (by omega)] at h9
    rcases (show M 101 p = 0 ∨ M 101 p = 1 ∨ M 101 p = 5 by omega) with k2 | k2 | k2
    · simp (disch := omega) only [b_X6_wantedOf_0, x_loadR_0, x_loadS_0, x_iconst, x_loadI_1, x_loadI_2, x_storeI_3, f_6_1, y_iald_25, tw_11_2, tw_11_3, tw_11_4, tw_11_o, b_X6_wantedOf_40, x_loadI_3, f_6_2, x_imul, x_iadd, x_ret0, b_X6_wantedOf_52, x_ineg, b_X6_wantedOf_55, f_6_5, y_irem, y_if_ne_t, y_if_ne_f, b_X6_wantedOf_64, x_goto, b_X6_wantedOf_78, b_X6_wantedOf_79, b_X6_wantedOf_80, q_isL_I, q_isL_R, q_isL_S, true_and, and_true, and_self, List.length_nil, List.length_cons, Nat.zero_add, x_K, x_Kn, Int.reduceToNat, Nat.reduceAdd, Nat.reduceMul, Nat.reduceLeDiff, Nat.reduceLT, Nat.zero_le, Int.reduceAdd, Int.reduceSub, Int.reduceMul, Int.reduceNeg, q_add_e, q_sub_e, q_mul_e, q_neg_e, q_upd_s, q_upd_n, zr_shr0, zr_shr1, zr_shr2, zr_shr3, zr_shr4, zr_and, zr_dyn8, zr_or, zr_shl, q_cpy_n, y_cpy26, Int.toNat_natCast, e1, k2]
      exact h9
    · simp (disch := omega) only [b_X6_wantedOf_0, x_loadR_0, x_loadS_0, x_iconst, x_loadI_1, x_loadI_2, x_storeI_3, f_6_1, y_iald_25, tw_11_2, tw_11_3, tw_11_4, tw_11_o, b_X6_wantedOf_40, x_loadI_3, f_6_2, x_imul, x_iadd, x_ret0, b_X6_wantedOf_52, x_ineg, b_X6_wantedOf_55, f_6_5, y_irem, y_if_ne_t, y_if_ne_f, b_X6_wantedOf_64, x_goto, b_X6_wantedOf_78, b_X6_wantedOf_79, b_X6_wantedOf_80, q_isL_I, q_isL_R, q_isL_S, true_and, and_true, and_self, List.length_nil, List.length_cons, Nat.zero_add, x_K, x_Kn, Int.reduceToNat, Nat.reduceAdd, Nat.reduceMul, Nat.reduceLeDiff, Nat.reduceLT, Nat.zero_le, Int.reduceAdd, Int.reduceSub, Int.reduceMul, Int.reduceNeg, q_add_e, q_sub_e, q_mul_e, q_neg_e, q_upd_s, q_upd_n, zr_shr0, zr_shr1, zr_shr2, zr_shr3, zr_shr4, zr_and, zr_dyn8, zr_or, zr_shl, q_cpy_n, y_cpy26, Int.toNat_natCast, e1, k2]
      exact h9
    · simp (disch := omega) only [b_X6_wantedOf_0, x_loadR_0, x_loadS_0, x_iconst, x_loadI_1, x_loadI_2, x_storeI_3, f_6_1, y_iald_25, tw_11_2, tw_11_3, tw_11_4, tw_11_o, b_X6_wantedOf_40, x_loadI_3, f_6_2, x_imul, x_iadd, x_ret0, b_X6_wantedOf_52, x_ineg, b_X6_wantedOf_55, f_6_5, y_irem, y_if_ne_t, y_if_ne_f, b_X6_wantedOf_64, x_goto, b_X6_wantedOf_78, b_X6_wantedOf_79, b_X6_wantedOf_80, q_isL_I, q_isL_R, q_isL_S, true_and, and_true, and_self, List.length_nil, List.length_cons, Nat.zero_add, x_K, x_Kn, Int.reduceToNat, Nat.reduceAdd, Nat.reduceMul, Nat.reduceLeDiff, Nat.reduceLT, Nat.zero_le, Int.reduceAdd, Int.reduceSub, Int.reduceMul, Int.reduceNeg, q_add_e, q_sub_e, q_mul_e, q_neg_e, q_upd_s, q_upd_n, zr_shr0, zr_shr1, zr_shr2, zr_shr3, zr_shr4, zr_and, zr_dyn8, zr_or, zr_shl, q_cpy_n, y_cpy26, Int.toNat_natCast, e1, k2]
      exact h9
end
section
/-! THE MODEL: goes, wishes, who is in what, who is last, whom a building takes -/
set_option maxHeartbeats 4000000 in
theorem mp_goes {V : Nat → (Nat → Int) → Int} {d : Nat} {g : q_G} {M : q_M} {p : Nat} {Q : Option q_V → q_G → q_M → Prop} (hm : q_ml V M) (hp : p < (M 100 0).toNat) (hq : ∀ M2 : q_M, q_mf M M2 → Q (some (qI (F_goes V (mW M) p))) g M2) : q_S 1 (d + 3) 143 [qR 6 100, qI p] g M Q := by
  have hm2 := hm
  obtain ⟨⟨r0, r1, r2, r3, r4, r5, r6, r7, r8, r9, ra⟩, hV, hl⟩ := hm2
  have hp5 : p < 5 := by omega
  have hk := r2 p hp5
  have hmo := r3 p hp5
  have asks : ∀ (nx : Nat) (ops : List Instr) (ls st : List q_V), (∀ M2 : q_M, q_mf M M2 → q_T 1 (d + 3) qP_X6_goesOf nx ops ls (qI (F_says V (mW M) 2 p 5) :: st) g M2 Q) → q_S 1 (d + 2) 137 [qR 6 100, qI 2, qI p, qI (-1)] g M (q_K 1 (d + 3) qP_X6_goesOf nx ops ls st Q) := fun nx ops ls st h => mp_asks (part := 2) hm (by omega) hp (Or.inl rfl) (by rw [if_pos rfl]; exact h)
  rw [s_X6_goesOf]
  simp (disch := omega) only [b_X6_goesOf_0, x_loadR_0, x_loadS_0, x_iconst, x_loadI_1, x_storeI_2, f_6_5, y_ic_ge_t, y_ic_ge_f, b_X6_goesOf_17, x_goto, b_X6_goesOf_21, x_loadI_2, b_X6_goesOf_22, x_storeI_3, f_6_1, y_iald_25, tw_12_1, tw_12_2, tw_12_3, tw_12_4, tw_12_5, tw_12_o, b_X6_goesOf_64, x_loadI_3, x_ret0, b_X6_goesOf_66, y_idiv, b_X6_goesOf_70, f_6_2, x_iadd, b_X6_goesOf_79, b_X6_goesOf_81, q_isL_I, q_isL_R, q_isL_S, true_and, and_true, and_self, List.length_nil, List.length_cons, Nat.zero_add, x_K, x_Kn, Int.reduceToNat, Nat.reduceAdd, Nat.reduceMul, Nat.reduceLeDiff, Nat.reduceLT, Nat.zero_le, Int.reduceAdd, Int.reduceSub, Int.reduceMul, Int.reduceNeg, q_add_e, q_sub_e, q_mul_e, q_neg_e, q_upd_s, q_upd_n, zr_shr0, zr_shr1, zr_shr2, zr_shr3, zr_shr4, zr_and, zr_dyn8, zr_or, zr_shl, q_cpy_n, y_cpy26, c_X6_asksOf]
  refine asks _ _ _ _ (fun M2 hf => ?_)
  have e1 : M2 101 p = M 101 p := hf _ _ (by omega) (by omega)
  have e2 : M2 102 p = M 102 p := hf _ _ (by omega) (by omega)
  have e5 : M2 100 5 = M 100 5 := hf _ _ (by omega) (by omega)
  have h9 := hq M2 hf
  have sl := F_says_le (V := V) (S := mW M) (part := 2) (p := p) (b := 5)
  have hh := q_half (x := F_says V (mW M) 2 p 5) (by omega) (by omega)
  have sl2 := sl.2.2 rfl
  unfold F_goes at h9
  rw [mW_0 hp, mW_1 hp, mW_91] at h9
  rcases (show M 101 p = 0 ∨ M 101 p = 1 ∨ M 101 p = 2 ∨ M 101 p = 3 ∨ M 101 p = 4 ∨ M 101 p = 5 by omega) with k | k | k | k | k | k
  · rw [k, if_neg (by omega), if_neg (by omega), if_neg (by omega), if_neg (by omega)] at h9
    by_cases c : M 100 5 < 10
    · simp (disch := omega) only [b_X6_goesOf_0, x_loadR_0, x_loadS_0, x_iconst, x_loadI_1, x_storeI_2, f_6_5, y_ic_ge_t, y_ic_ge_f, b_X6_goesOf_17, x_goto, b_X6_goesOf_21, x_loadI_2, b_X6_goesOf_22, x_storeI_3, f_6_1, y_iald_25, tw_12_1, tw_12_2, tw_12_3, tw_12_4, tw_12_5, tw_12_o, b_X6_goesOf_64, x_loadI_3, x_ret0, b_X6_goesOf_66, y_idiv, b_X6_goesOf_70, f_6_2, x_iadd, b_X6_goesOf_79, b_X6_goesOf_81, q_isL_I, q_isL_R, q_isL_S, true_and, and_true, and_self, List.length_nil, List.length_cons, Nat.zero_add, x_K, x_Kn, Int.reduceToNat, Nat.reduceAdd, Nat.reduceMul, Nat.reduceLeDiff, Nat.reduceLT, Nat.zero_le, Int.reduceAdd, Int.reduceSub, Int.reduceMul, Int.reduceNeg, q_add_e, q_sub_e, q_mul_e, q_neg_e, q_upd_s, q_upd_n, zr_shr0, zr_shr1, zr_shr2, zr_shr3, zr_shr4, zr_and, zr_dyn8, zr_or, zr_shl, q_cpy_n, y_cpy26, Int.toNat_natCast, e1, e5, k]
      exact h9
    · simp (disch := omega) only [b_X6_goesOf_0, x_loadR_0, x_loadS_0, x_iconst, x_loadI_1, x_storeI_2, f_6_5, y_ic_ge_t, y_ic_ge_f, b_X6_goesOf_17, x_goto, b_X6_goesOf_21, x_loadI_2, b_X6_goesOf_22, x_storeI_3, f_6_1, y_iald_25, tw_12_1, tw_12_2, tw_12_3, tw_12_4, tw_12_5, tw_12_o, b_X6_goesOf_64, x_loadI_3, x_ret0, b_X6_goesOf_66, y_idiv, b_X6_goesOf_70, f_6_2, x_iadd, b_X6_goesOf_79, b_X6_goesOf_81, q_isL_I, q_isL_R, q_isL_S, true_and, and_true, and_self, List.length_nil, List.length_cons, Nat.zero_add, x_K, x_Kn, Int.reduceToNat, Nat.reduceAdd, Nat.reduceMul, Nat.reduceLeDiff, Nat.reduceLT, Nat.zero_le, Int.reduceAdd, Int.reduceSub, Int.reduceMul, Int.reduceNeg, q_add_e, q_sub_e, q_mul_e, q_neg_e, q_upd_s, q_upd_n, zr_shr0, zr_shr1, zr_shr2, zr_shr3, zr_shr4, zr_and, zr_dyn8, zr_or, zr_shl, q_cpy_n, y_cpy26, Int.toNat_natCast, e1, e5, k]
      exact h9
  · rw [k, if_neg (by omega), if_pos (by omega)] at h9
    by_cases c : M 100 5 < 10
    · rw [if_pos c] at h9
      simp (disch := omega) only [b_X6_goesOf_0, x_loadR_0, x_loadS_0, x_iconst, x_loadI_1, x_storeI_2, f_6_5, y_ic_ge_t, y_ic_ge_f, b_X6_goesOf_17, x_goto, b_X6_goesOf_21, x_loadI_2, b_X6_goesOf_22, x_storeI_3, f_6_1, y_iald_25, tw_12_1, tw_12_2, tw_12_3, tw_12_4, tw_12_5, tw_12_o, b_X6_goesOf_64, x_loadI_3, x_ret0, b_X6_goesOf_66, y_idiv, b_X6_goesOf_70, f_6_2, x_iadd, b_X6_goesOf_79, b_X6_goesOf_81, q_isL_I, q_isL_R, q_isL_S, true_and, and_true, and_self, List.length_nil, List.length_cons, Nat.zero_add, x_K, x_Kn, Int.reduceToNat, Nat.reduceAdd, Nat.reduceMul, Nat.reduceLeDiff, Nat.reduceLT, Nat.zero_le, Int.reduceAdd, Int.reduceSub, Int.reduceMul, Int.reduceNeg, q_add_e, q_sub_e, q_mul_e, q_neg_e, q_upd_s, q_upd_n, zr_shr0, zr_shr1, zr_shr2, zr_shr3, zr_shr4, zr_and, zr_dyn8, zr_or, zr_shl, q_cpy_n, y_cpy26, Int.toNat_natCast, e1, e5, k]
      exact h9
    · rw [if_neg c] at h9
      simp (disch := omega) only [b_X6_goesOf_0, x_loadR_0, x_loadS_0, x_iconst, x_loadI_1, x_storeI_2, f_6_5, y_ic_ge_t, y_ic_ge_f, b_X6_goesOf_17, x_goto, b_X6_goesOf_21, x_loadI_2, b_X6_goesOf_22, x_storeI_3, f_6_1, y_iald_25, tw_12_1, tw_12_2, tw_12_3, tw_12_4, tw_12_5, tw_12_o, b_X6_goesOf_64, x_loadI_3, x_ret0, b_X6_goesOf_66, y_idiv, b_X6_goesOf_70, f_6_2, x_iadd, b_X6_goesOf_79, b_X6_goesOf_81, q_isL_I, q_isL_R, q_isL_S, true_and, and_true, and_self, List.length_nil, List.length_cons, Nat.zero_add, x_K, x_Kn, Int.reduceToNat, Nat.reduceAdd, Nat.reduceMul, Nat.reduceLeDiff, Nat.reduceLT, Nat.zero_le, Int.reduceAdd, Int.reduceSub, Int.reduceMul, Int.reduceNeg, q_add_e, q_sub_e, q_mul_e, q_neg_e, q_upd_s, q_upd_n, zr_shr0, zr_shr1, zr_shr2, zr_shr3, zr_shr4, zr_and, zr_dyn8, zr_or, zr_shl, q_cpy_n, y_cpy26, Int.toNat_natCast, e1, e5, k]
      exact h9
  · rw [k, if_neg (by omega), if_neg (by omega), if_neg (by omega), if_pos (by omega)] at h9
    by_cases c : M 100 5 < 10
    · simp (disch := omega) only [b_X6_goesOf_0, x_loadR_0, x_loadS_0, x_iconst, x_loadI_1, x_storeI_2, f_6_5, y_ic_ge_t, y_ic_ge_f, b_X6_goesOf_17, x_goto, b_X6_goesOf_21, x_loadI_2, b_X6_goesOf_22, x_storeI_3, f_6_1, y_iald_25, tw_12_1, tw_12_2, tw_12_3, tw_12_4, tw_12_5, tw_12_o, b_X6_goesOf_64, x_loadI_3, x_ret0, b_X6_goesOf_66, y_idiv, b_X6_goesOf_70, f_6_2, x_iadd, b_X6_goesOf_79, b_X6_goesOf_81, q_isL_I, q_isL_R, q_isL_S, true_and, and_true, and_self, List.length_nil, List.length_cons, Nat.zero_add, x_K, x_Kn, Int.reduceToNat, Nat.reduceAdd, Nat.reduceMul, Nat.reduceLeDiff, Nat.reduceLT, Nat.zero_le, Int.reduceAdd, Int.reduceSub, Int.reduceMul, Int.reduceNeg, q_add_e, q_sub_e, q_mul_e, q_neg_e, q_upd_s, q_upd_n, zr_shr0, zr_shr1, zr_shr2, zr_shr3, zr_shr4, zr_and, zr_dyn8, zr_or, zr_shl, q_cpy_n, y_cpy26, Int.toNat_natCast, e1, e5, k, hh]
      exact h9
    · simp (disch := omega) only [b_X6_goesOf_0, x_loadR_0, x_loadS_0, x_iconst, x_loadI_1, x_storeI_2, f_6_5, y_ic_ge_t, y_ic_ge_f, b_X6_goesOf_17, x_goto, b_X6_goesOf_21, x_loadI_2, b_X6_goesOf_22, x_storeI_3, f_6_1, y_iald_25, tw_12_1, tw_12_2, tw_12_3, tw_12_4, tw_12_5, tw_12_o, b_X6_goesOf_64, x_loadI_3, x_ret0, b_X6_goesOf_66, y_idiv, b_X6_goesOf_70, f_6_2, x_iadd, b_X6_goesOf_79, b_X6_goesOf_81, q_isL_I, q_isL_R, q_isL_S, true_and, and_true, and_self, List.length_nil, List.length_cons, Nat.zero_add, x_K, x_Kn, Int.reduceToNat, Nat.reduceAdd, Nat.reduceMul, Nat.reduceLeDiff, Nat.reduceLT, Nat.zero_le, Int.reduceAdd, Int.reduceSub, Int.reduceMul, Int.reduceNeg, q_add_e, q_sub_e, q_mul_e, q_neg_e, q_upd_s, q_upd_n, zr_shr0, zr_shr1, zr_shr2, zr_shr3, zr_shr4, zr_and, zr_dyn8, zr_or, zr_shl, q_cpy_n, y_cpy26, Int.toNat_natCast, e1, e5, k, hh]
      exact h9
  · rw [k, if_neg (by omega), if_neg (by omega), if_pos (by omega)] at h9
    by_cases c : M 100 5 < 10
    · rw [if_pos c] at h9
      simp (disch := omega) only [b_X6_goesOf_0, x_loadR_0, x_loadS_0, x_iconst, x_loadI_1, x_storeI_2, f_6_5, y_ic_ge_t, y_ic_ge_f, b_X6_goesOf_17, x_goto, b_X6_goesOf_21, x_loadI_2, b_X6_goesOf_22, x_storeI_3, f_6_1, y_iald_25, tw_12_1, tw_12_2, tw_12_3, tw_12_4, tw_12_5, tw_12_o, b_X6_goesOf_64, x_loadI_3, x_ret0, b_X6_goesOf_66, y_idiv, b_X6_goesOf_70, f_6_2, x_iadd, b_X6_goesOf_79, b_X6_goesOf_81, q_isL_I, q_isL_R, q_isL_S, true_and, and_true, and_self, List.length_nil, List.length_cons, Nat.zero_add, x_K, x_Kn, Int.reduceToNat, Nat.reduceAdd, Nat.reduceMul, Nat.reduceLeDiff, Nat.reduceLT, Nat.zero_le, Int.reduceAdd, Int.reduceSub, Int.reduceMul, Int.reduceNeg, q_add_e, q_sub_e, q_mul_e, q_neg_e, q_upd_s, q_upd_n, zr_shr0, zr_shr1, zr_shr2, zr_shr3, zr_shr4, zr_and, zr_dyn8, zr_or, zr_shl, q_cpy_n, y_cpy26, Int.toNat_natCast, e1, e2, e5, k]
      exact h9
    · rw [if_neg c] at h9
      simp (disch := omega) only [b_X6_goesOf_0, x_loadR_0, x_loadS_0, x_iconst, x_loadI_1, x_storeI_2, f_6_5, y_ic_ge_t, y_ic_ge_f, b_X6_goesOf_17, x_goto, b_X6_goesOf_21, x_loadI_2, b_X6_goesOf_22, x_storeI_3, f_6_1, y_iald_25, tw_12_1, tw_12_2, tw_12_3, tw_12_4, tw_12_5, tw_12_o, b_X6_goesOf_64, x_loadI_3, x_ret0, b_X6_goesOf_66, y_idiv, b_X6_goesOf_70, f_6_2, x_iadd, b_X6_goesOf_79, b_X6_goesOf_81, q_isL_I, q_isL_R, q_isL_S, true_and, and_true, and_self, List.length_nil, List.length_cons, Nat.zero_add, x_K, x_Kn, Int.reduceToNat, Nat.reduceAdd, Nat.reduceMul, Nat.reduceLeDiff, Nat.reduceLT, Nat.zero_le, Int.reduceAdd, Int.reduceSub, Int.reduceMul, Int.reduceNeg, q_add_e, q_sub_e, q_mul_e, q_neg_e, q_upd_s, q_upd_n, zr_shr0, zr_shr1, zr_shr2, zr_shr3, zr_shr4, zr_and, zr_dyn8, zr_or, zr_shl, q_cpy_n, y_cpy26, Int.toNat_natCast, e1, e2, e5, k]
      exact h9
  · rw [k, if_neg (by omega), if_neg (by omega), if_neg (by omega), if_pos (by omega)] at h9
    by_cases c : M 100 5 < 10
    · simp (disch := omega) only [b_X6_goesOf_0, x_loadR_0, x_loadS_0, x_iconst, x_loadI_1, x_storeI_2, f_6_5, y_ic_ge_t, y_ic_ge_f, b_X6_goesOf_17, x_goto, b_X6_goesOf_21, x_loadI_2, b_X6_goesOf_22, x_storeI_3, f_6_1, y_iald_25, tw_12_1, tw_12_2, tw_12_3, tw_12_4, tw_12_5, tw_12_o, b_X6_goesOf_64, x_loadI_3, x_ret0, b_X6_goesOf_66, y_idiv, b_X6_goesOf_70, f_6_2, x_iadd, b_X6_goesOf_79, b_X6_goesOf_81, q_isL_I, q_isL_R, q_isL_S, true_and, and_true, and_self, List.length_nil, List.length_cons, Nat.zero_add, x_K, x_Kn, Int.reduceToNat, Nat.reduceAdd, Nat.reduceMul, Nat.reduceLeDiff, Nat.reduceLT, Nat.zero_le, Int.reduceAdd, Int.reduceSub, Int.reduceMul, Int.reduceNeg, q_add_e, q_sub_e, q_mul_e, q_neg_e, q_upd_s, q_upd_n, zr_shr0, zr_shr1, zr_shr2, zr_shr3, zr_shr4, zr_and, zr_dyn8, zr_or, zr_shl, q_cpy_n, y_cpy26, Int.toNat_natCast, e1, e5, k, hh]
      exact h9
    · simp (disch := omega) only [b_X6_goesOf_0, x_loadR_0, x_loadS_0, x_iconst, x_loadI_1, x_storeI_2, f_6_5, y_ic_ge_t, y_ic_ge_f, b_X6_goesOf_17, x_goto, b_X6_goesOf_21, x_loadI_2, b_X6_goesOf_22, x_storeI_3, f_6_1, y_iald_25, tw_12_1, tw_12_2, tw_12_3, tw_12_4, tw_12_5, tw_12_o, b_X6_goesOf_64, x_loadI_3, x_ret0, b_X6_goesOf_66, y_idiv, b_X6_goesOf_70, f_6_2, x_iadd, b_X6_goesOf_79, b_X6_goesOf_81, q_isL_I, q_isL_R, q_isL_S, true_and, and_true, and_self, List.length_nil, List.length_cons, Nat.zero_add, x_K, x_Kn, Int.reduceToNat, Nat.reduceAdd, Nat.reduceMul, Nat.reduceLeDiff, Nat.reduceLT, Nat.zero_le, Int.reduceAdd, Int.reduceSub, Int.reduceMul, Int.reduceNeg, q_add_e, q_sub_e, q_mul_e, q_neg_e, q_upd_s, q_upd_n, zr_shr0, zr_shr1, zr_shr2, zr_shr3, zr_shr4, zr_and, zr_dyn8, zr_or, zr_shl, q_cpy_n, y_cpy26, Int.toNat_natCast, e1, e5, k, hh]
      exact h9
  · rw [k, if_pos rfl] at h9
    by_cases c : M 100 5 < 10
    · simp (disch := omega) only [b_X6_goesOf_0, x_loadR_0, x_loadS_0, x_iconst, x_loadI_1, x_storeI_2, f_6_5, y_ic_ge_t, y_ic_ge_f, b_X6_goesOf_17, x_goto, b_X6_goesOf_21, x_loadI_2, b_X6_goesOf_22, x_storeI_3, f_6_1, y_iald_25, tw_12_1, tw_12_2, tw_12_3, tw_12_4, tw_12_5, tw_12_o, b_X6_goesOf_64, x_loadI_3, x_ret0, b_X6_goesOf_66, y_idiv, b_X6_goesOf_70, f_6_2, x_iadd, b_X6_goesOf_79, b_X6_goesOf_81, q_isL_I, q_isL_R, q_isL_S, true_and, and_true, and_self, List.length_nil, List.length_cons, Nat.zero_add, x_K, x_Kn, Int.reduceToNat, Nat.reduceAdd, Nat.reduceMul, Nat.reduceLeDiff, Nat.reduceLT, Nat.zero_le, Int.reduceAdd, Int.reduceSub, Int.reduceMul, Int.reduceNeg, q_add_e, q_sub_e, q_mul_e, q_neg_e, q_upd_s, q_upd_n, zr_shr0, zr_shr1, zr_shr2, zr_shr3, zr_shr4, zr_and, zr_dyn8, zr_or, zr_shl, q_cpy_n, y_cpy26, Int.toNat_natCast, e1, e5, k]
      exact h9
    · simp (disch := omega) only [b_X6_goesOf_0, x_loadR_0, x_loadS_0, x_iconst, x_loadI_1, x_storeI_2, f_6_5, y_ic_ge_t, y_ic_ge_f, b_X6_goesOf_17, x_goto, b_X6_goesOf_21, x_loadI_2, b_X6_goesOf_22, x_storeI_3, f_6_1, y_iald_25, tw_12_1, tw_12_2, tw_12_3, tw_12_4, tw_12_5, tw_12_o, b_X6_goesOf_64, x_loadI_3, x_ret0, b_X6_goesOf_66, y_idiv, b_X6_goesOf_70, f_6_2, x_iadd, b_X6_goesOf_79, b_X6_goesOf_81, q_isL_I, q_isL_R, q_isL_S, true_and, and_true, and_self, List.length_nil, List.length_cons, Nat.zero_add, x_K, x_Kn, Int.reduceToNat, Nat.reduceAdd, Nat.reduceMul, Nat.reduceLeDiff, Nat.reduceLT, Nat.zero_le, Int.reduceAdd, Int.reduceSub, Int.reduceMul, Int.reduceNeg, q_add_e, q_sub_e, q_mul_e, q_neg_e, q_upd_s, q_upd_n, zr_shr0, zr_shr1, zr_shr2, zr_shr3, zr_shr4, zr_and, zr_dyn8, zr_or, zr_shl, q_cpy_n, y_cpy26, Int.toNat_natCast, e1, e5, k]
      exact h9
def m_no (x : Nat) : Int := if x = 5 then -1 else x
set_option maxHeartbeats 4000000 in
theorem mp_wish {V : Nat → (Nat → Int) → Int} {d : Nat} {g : q_G} {M : q_M} {p : Nat} {Q : Option q_V → q_G → q_M → Prop} (hm : q_ml V M) (hp : p < (M 100 0).toNat) (hq : ∀ M2 : q_M, q_mf M M2 → Q (some (qI (m_no (F_wish V (mW M) p)))) g M2) : q_S 1 (d + 4) 144 [qR 6 100, qI p] g M Q := by
  rw [s_X6_wishOf]
  have loop : ∀ j k : Nat, k + j = 5 → ∀ (M1 : q_M) (l5 : q_V), q_isL l5 = false → q_mf M M1 → q_T 1 (d + 4) qP_X6_wishOf 7 [] [qR 6 100, qI p, qI (m_no (F_best (F_likes V (mW M) p) (fun _ => true) k).1), qI (F_best (F_likes V (mW M) p) (fun _ => true) k).2, qI k, l5] [] g M1 Q := by
    intro j
    induction j with
    | zero =>
      intro k hk M1 l5 hl5 hf
      have e : k = 5 := by omega
      subst e
      rw [b_X6_wishOf_7]
      simp (disch := omega) only [b_X6_wishOf_0, x_iconst, x_storeI_2, x_storeI_3, x_storeI_4, x_loadI_4, y_ic_ge_t, y_ic_ge_f, b_X6_wishOf_13, x_loadR_0, x_loadS_0, x_loadI_1, x_storeI_5, x_loadI_5, x_loadI_3, y_ic_le_t, y_ic_le_f, b_X6_wishOf_28, x_goto, b_X6_wishOf_33, x_loadI_2, b_X6_wishOf_34, b_X6_wishOf_41, b_X6_wishOf_46, b_X6_wishOf_47, x_iinc_4, b_X6_wishOf_54, x_ret0, q_isL_I, q_isL_R, q_isL_S, true_and, and_true, and_self, List.length_nil, List.length_cons, Nat.zero_add, x_K, x_Kn, Int.reduceToNat, Nat.reduceAdd, Nat.reduceMul, Nat.reduceLeDiff, Nat.reduceLT, Nat.zero_le, Int.reduceAdd, Int.reduceSub, Int.reduceMul, Int.reduceNeg, q_add_e, q_sub_e, q_mul_e, q_neg_e, q_upd_s, q_upd_n, zr_shr0, zr_shr1, zr_shr2, zr_shr3, zr_shr4, zr_and, zr_dyn8, zr_or, zr_shl, q_cpy_n, y_cpy26]
      exact hq M1 hf
    | succ j ih =>
      intro k hk M1 l5 hl5 hf
      have ih2 := ih (k + 1) (by omega)
      rw [F_best] at ih2
      have likes : ∀ (nx : Nat) (ops : List Instr) (ls st : List q_V), (∀ M2 : q_M, q_mf M M2 → q_T 1 (d + 4) qP_X6_wishOf nx ops ls (qI (F_likes V (mW M) p k) :: st) g M2 Q) → q_S 1 (d + 3) 141 [qR 6 100, qI p, qI k] g M1 (q_K 1 (d + 4) qP_X6_wishOf nx ops ls st Q) := fun nx ops ls st h => mp_likes (q_mf_ml hf hm) (by rw [hf 100 0 (by omega) (by omega)]; exact hp) (by omega) (fun M2 h2 => by rw [q_mf_mW hf]; exact h M2 (q_mf_tr hf h2))
      rw [b_X6_wishOf_7]
      simp (disch := omega) only [b_X6_wishOf_0, x_iconst, x_storeI_2, x_storeI_3, x_storeI_4, x_loadI_4, y_ic_ge_t, y_ic_ge_f, b_X6_wishOf_13, x_loadR_0, x_loadS_0, x_loadI_1, x_storeI_5, x_loadI_5, x_loadI_3, y_ic_le_t, y_ic_le_f, b_X6_wishOf_28, x_goto, b_X6_wishOf_33, x_loadI_2, b_X6_wishOf_34, b_X6_wishOf_41, b_X6_wishOf_46, b_X6_wishOf_47, x_iinc_4, b_X6_wishOf_54, x_ret0, q_isL_I, q_isL_R, q_isL_S, true_and, and_true, and_self, List.length_nil, List.length_cons, Nat.zero_add, x_K, x_Kn, Int.reduceToNat, Nat.reduceAdd, Nat.reduceMul, Nat.reduceLeDiff, Nat.reduceLT, Nat.zero_le, Int.reduceAdd, Int.reduceSub, Int.reduceMul, Int.reduceNeg, q_add_e, q_sub_e, q_mul_e, q_neg_e, q_upd_s, q_upd_n, zr_shr0, zr_shr1, zr_shr2, zr_shr3, zr_shr4, zr_and, zr_dyn8, zr_or, zr_shl, q_cpy_n, y_cpy26, c_X6_likesOf]
      refine likes _ _ _ _ (fun M2 h2 => ?_)
      by_cases c : (F_best (F_likes V (mW M) p) (fun _ => true) k).2 < F_likes V (mW M) p k
      · rw [if_pos ⟨rfl, c⟩] at ih2
        have e : m_no k = (k : Int) := if_neg (by omega)
        simp only [e] at ih2
        simp (disch := omega) only [b_X6_wishOf_0, x_iconst, x_storeI_2, x_storeI_3, x_storeI_4, x_loadI_4, y_ic_ge_t, y_ic_ge_f, b_X6_wishOf_13, x_loadR_0, x_loadS_0, x_loadI_1, x_storeI_5, x_loadI_5, x_loadI_3, y_ic_le_t, y_ic_le_f, b_X6_wishOf_28, x_goto, b_X6_wishOf_33, x_loadI_2, b_X6_wishOf_34, b_X6_wishOf_41, b_X6_wishOf_46, b_X6_wishOf_47, x_iinc_4, b_X6_wishOf_54, x_ret0, q_isL_I, q_isL_R, q_isL_S, true_and, and_true, and_self, List.length_nil, List.length_cons, Nat.zero_add, x_K, x_Kn, Int.reduceToNat, Nat.reduceAdd, Nat.reduceMul, Nat.reduceLeDiff, Nat.reduceLT, Nat.zero_le, Int.reduceAdd, Int.reduceSub, Int.reduceMul, Int.reduceNeg, q_add_e, q_sub_e, q_mul_e, q_neg_e, q_upd_s, q_upd_n, zr_shr0, zr_shr1, zr_shr2, zr_shr3, zr_shr4, zr_and, zr_dyn8, zr_or, zr_shl, q_cpy_n, y_cpy26, hl5]
        exact ih2 M2 _ rfl h2
      · rw [if_neg (fun z => c z.2)] at ih2
        simp (disch := omega) only [b_X6_wishOf_0, x_iconst, x_storeI_2, x_storeI_3, x_storeI_4, x_loadI_4, y_ic_ge_t, y_ic_ge_f, b_X6_wishOf_13, x_loadR_0, x_loadS_0, x_loadI_1, x_storeI_5, x_loadI_5, x_loadI_3, y_ic_le_t, y_ic_le_f, b_X6_wishOf_28, x_goto, b_X6_wishOf_33, x_loadI_2, b_X6_wishOf_34, b_X6_wishOf_41, b_X6_wishOf_46, b_X6_wishOf_47, x_iinc_4, b_X6_wishOf_54, x_ret0, q_isL_I, q_isL_R, q_isL_S, true_and, and_true, and_self, List.length_nil, List.length_cons, Nat.zero_add, x_K, x_Kn, Int.reduceToNat, Nat.reduceAdd, Nat.reduceMul, Nat.reduceLeDiff, Nat.reduceLT, Nat.zero_le, Int.reduceAdd, Int.reduceSub, Int.reduceMul, Int.reduceNeg, q_add_e, q_sub_e, q_mul_e, q_neg_e, q_upd_s, q_upd_n, zr_shr0, zr_shr1, zr_shr2, zr_shr3, zr_shr4, zr_and, zr_dyn8, zr_or, zr_shl, q_cpy_n, y_cpy26, hl5]
        exact ih2 M2 _ rfl h2
  simp (disch := omega) only [b_X6_wishOf_0, x_iconst, x_storeI_2, x_storeI_3, x_storeI_4, x_loadI_4, y_ic_ge_t, y_ic_ge_f, b_X6_wishOf_13, x_loadR_0, x_loadS_0, x_loadI_1, x_storeI_5, x_loadI_5, x_loadI_3, y_ic_le_t, y_ic_le_f, b_X6_wishOf_28, x_goto, b_X6_wishOf_33, x_loadI_2, b_X6_wishOf_34, b_X6_wishOf_41, b_X6_wishOf_46, b_X6_wishOf_47, x_iinc_4, b_X6_wishOf_54, x_ret0, q_isL_I, q_isL_R, q_isL_S, true_and, and_true, and_self, List.length_nil, List.length_cons, Nat.zero_add, x_K, x_Kn, Int.reduceToNat, Nat.reduceAdd, Nat.reduceMul, Nat.reduceLeDiff, Nat.reduceLT, Nat.zero_le, Int.reduceAdd, Int.reduceSub, Int.reduceMul, Int.reduceNeg, q_add_e, q_sub_e, q_mul_e, q_neg_e, q_upd_s, q_upd_n, zr_shr0, zr_shr1, zr_shr2, zr_shr3, zr_shr4, zr_and, zr_dyn8, zr_or, zr_shl, q_cpy_n, y_cpy26]
  exact loop 5 0 rfl M _ rfl q_mf_rf
theorem mp_outside {d : Nat} {g : q_G} {M : q_M} (h0 : 0 ≤ M 100 0) (h5 : M 100 0 ≤ 5) (hin : ∀ i, i < 5 → -1 ≤ M 104 (3 * i + 2) ∧ M 104 (3 * i + 2) ≤ 4) (Q : Option q_V → q_G → q_M → Prop) : q_S 1 d 114 [qR 6 100] g M Q = Q (some (qI (F_cnt (mIn M) 5 (M 100 0).toNat))) g M := by
  refine q_S_eq (fun Q hq => ?_) Q
  rw [s_X6_outside]
  have loop : ∀ j k : Nat, k + j = (M 100 0).toNat → q_T 1 d qP_X6_outside 4 [] [qR 6 100, qI (F_cnt (mIn M) 5 k), qI k] [] g M Q := by
    intro j
    induction j with
    | zero =>
      intro k hk
      have e : k = (M 100 0).toNat := by omega
      rw [← e] at hq
      rw [b_X6_outside_4]
      simp (disch := omega) only [b_X6_outside_0, x_iconst, x_storeI_1, x_storeI_2, x_loadI_2, x_loadR_0, x_loadS_0, f_6_0, y_ic_ge_t, y_ic_ge_f, b_X6_outside_12, x_loadI_1, f_6_4, x_imul, x_iadd, y_iald_35, y_ic_ne_t, y_ic_ne_f, b_X6_outside_27, x_goto, b_X6_outside_31, b_X6_outside_32, x_iinc_2, b_X6_outside_40, x_ret0, q_isL_I, q_isL_R, q_isL_S, true_and, and_true, and_self, List.length_nil, List.length_cons, Nat.zero_add, x_K, x_Kn, Int.reduceToNat, Nat.reduceAdd, Nat.reduceMul, Nat.reduceLeDiff, Nat.reduceLT, Nat.zero_le, Int.reduceAdd, Int.reduceSub, Int.reduceMul, Int.reduceNeg, q_add_e, q_sub_e, q_mul_e, q_neg_e, q_upd_s, q_upd_n, zr_shr0, zr_shr1, zr_shr2, zr_shr3, zr_shr4, zr_and, zr_dyn8, zr_or, zr_shl, q_cpy_n, y_cpy26]
      exact hq
    | succ j ih =>
      intro k hk
      have hi := hin k (by omega)
      have hc := F_cnt_le (mIn M) 5 k
      have ih2 := ih (k + 1) (by omega)
      rw [F_cnt] at ih2
      rw [b_X6_outside_4]
      by_cases c : M 104 (3 * k + 2) = -1
      · rw [if_pos (show mIn M k = 5 from if_pos c)] at ih2
        simp (disch := omega) only [b_X6_outside_0, x_iconst, x_storeI_1, x_storeI_2, x_loadI_2, x_loadR_0, x_loadS_0, f_6_0, y_ic_ge_t, y_ic_ge_f, b_X6_outside_12, x_loadI_1, f_6_4, x_imul, x_iadd, y_iald_35, y_ic_ne_t, y_ic_ne_f, b_X6_outside_27, x_goto, b_X6_outside_31, b_X6_outside_32, x_iinc_2, b_X6_outside_40, x_ret0, q_isL_I, q_isL_R, q_isL_S, true_and, and_true, and_self, List.length_nil, List.length_cons, Nat.zero_add, x_K, x_Kn, Int.reduceToNat, Nat.reduceAdd, Nat.reduceMul, Nat.reduceLeDiff, Nat.reduceLT, Nat.zero_le, Int.reduceAdd, Int.reduceSub, Int.reduceMul, Int.reduceNeg, q_add_e, q_sub_e, q_mul_e, q_neg_e, q_upd_s, q_upd_n, zr_shr0, zr_shr1, zr_shr2, zr_shr3, zr_shr4, zr_and, zr_dyn8, zr_or, zr_shl, q_cpy_n, y_cpy26, tn_32]
        exact ih2
      · rw [if_neg (show ¬mIn M k = 5 by unfold mIn; rw [if_neg c]; omega)] at ih2
        simp (disch := omega) only [b_X6_outside_0, x_iconst, x_storeI_1, x_storeI_2, x_loadI_2, x_loadR_0, x_loadS_0, f_6_0, y_ic_ge_t, y_ic_ge_f, b_X6_outside_12, x_loadI_1, f_6_4, x_imul, x_iadd, y_iald_35, y_ic_ne_t, y_ic_ne_f, b_X6_outside_27, x_goto, b_X6_outside_31, b_X6_outside_32, x_iinc_2, b_X6_outside_40, x_ret0, q_isL_I, q_isL_R, q_isL_S, true_and, and_true, and_self, List.length_nil, List.length_cons, Nat.zero_add, x_K, x_Kn, Int.reduceToNat, Nat.reduceAdd, Nat.reduceMul, Nat.reduceLeDiff, Nat.reduceLT, Nat.zero_le, Int.reduceAdd, Int.reduceSub, Int.reduceMul, Int.reduceNeg, q_add_e, q_sub_e, q_mul_e, q_neg_e, q_upd_s, q_upd_n, zr_shr0, zr_shr1, zr_shr2, zr_shr3, zr_shr4, zr_and, zr_dyn8, zr_or, zr_shl, q_cpy_n, y_cpy26, tn_32]
        exact ih2
  simp (disch := omega) only [b_X6_outside_0, x_iconst, x_storeI_1, x_storeI_2, x_loadI_2, x_loadR_0, x_loadS_0, f_6_0, y_ic_ge_t, y_ic_ge_f, b_X6_outside_12, x_loadI_1, f_6_4, x_imul, x_iadd, y_iald_35, y_ic_ne_t, y_ic_ne_f, b_X6_outside_27, x_goto, b_X6_outside_31, b_X6_outside_32, x_iinc_2, b_X6_outside_40, x_ret0, q_isL_I, q_isL_R, q_isL_S, true_and, and_true, and_self, List.length_nil, List.length_cons, Nat.zero_add, x_K, x_Kn, Int.reduceToNat, Nat.reduceAdd, Nat.reduceMul, Nat.reduceLeDiff, Nat.reduceLT, Nat.zero_le, Int.reduceAdd, Int.reduceSub, Int.reduceMul, Int.reduceNeg, q_add_e, q_sub_e, q_mul_e, q_neg_e, q_upd_s, q_upd_n, zr_shr0, zr_shr1, zr_shr2, zr_shr3, zr_shr4, zr_and, zr_dyn8, zr_or, zr_shl, q_cpy_n, y_cpy26]
  exact loop (M 100 0).toNat 0 (by omega)
theorem mp_whoIn {d : Nat} {g : q_G} {M : q_M} {b : Nat} (hb : b < 5) (h0 : 0 ≤ M 100 0) (h5 : M 100 0 ≤ 5) (Q : Option q_V → q_G → q_M → Prop) : q_S 1 d 115 [qR 6 100, qI b] g M Q = Q (some (qI (F_bits (mIn M) b (M 100 0).toNat))) g M := by
  refine q_S_eq (fun Q hq => ?_) Q
  rw [s_X6_whoIn]
  have loop : ∀ j k : Nat, k + j = (M 100 0).toNat → q_T 1 d qP_X6_whoIn 4 [] [qR 6 100, qI b, qI (F_bits (mIn M) b k), qI k] [] g M Q := by
    intro j
    induction j with
    | zero =>
      intro k hk
      have e : k = (M 100 0).toNat := by omega
      rw [← e] at hq
      rw [b_X6_whoIn_4]
      simp (disch := omega) only [b_X6_whoIn_0, x_iconst, x_storeI_2, x_storeI_3, x_loadI_3, x_loadR_0, x_loadS_0, f_6_0, y_ic_ge_t, y_ic_ge_f, b_X6_whoIn_12, x_loadI_2, f_6_4, x_imul, x_iadd, y_iald_35, x_loadI_1, y_ic_ne_t, y_ic_ne_f, b_X6_whoIn_27, x_ishl, x_goto, b_X6_whoIn_33, b_X6_whoIn_34, x_ior, x_iinc_3, b_X6_whoIn_42, x_ret0, q_isL_I, q_isL_R, q_isL_S, true_and, and_true, and_self, List.length_nil, List.length_cons, Nat.zero_add, x_K, x_Kn, Int.reduceToNat, Nat.reduceAdd, Nat.reduceMul, Nat.reduceLeDiff, Nat.reduceLT, Nat.zero_le, Int.reduceAdd, Int.reduceSub, Int.reduceMul, Int.reduceNeg, q_add_e, q_sub_e, q_mul_e, q_neg_e, q_upd_s, q_upd_n, zr_shr0, zr_shr1, zr_shr2, zr_shr3, zr_shr4, zr_and, zr_dyn8, zr_or, zr_shl, q_cpy_n, y_cpy26]
      exact hq
    | succ j ih =>
      intro k hk
      have ih2 := ih (k + 1) (by omega)
      rw [F_bits] at ih2
      rw [b_X6_whoIn_4]
      by_cases c : M 104 (3 * k + 2) = b
      · rw [if_pos (show mIn M k = b by unfold mIn; rw [if_neg (by omega)]; exact c)] at ih2
        simp (disch := omega) only [b_X6_whoIn_0, x_iconst, x_storeI_2, x_storeI_3, x_loadI_3, x_loadR_0, x_loadS_0, f_6_0, y_ic_ge_t, y_ic_ge_f, b_X6_whoIn_12, x_loadI_2, f_6_4, x_imul, x_iadd, y_iald_35, x_loadI_1, y_ic_ne_t, y_ic_ne_f, b_X6_whoIn_27, x_ishl, x_goto, b_X6_whoIn_33, b_X6_whoIn_34, x_ior, x_iinc_3, b_X6_whoIn_42, x_ret0, q_isL_I, q_isL_R, q_isL_S, true_and, and_true, and_self, List.length_nil, List.length_cons, Nat.zero_add, x_K, x_Kn, Int.reduceToNat, Nat.reduceAdd, Nat.reduceMul, Nat.reduceLeDiff, Nat.reduceLT, Nat.zero_le, Int.reduceAdd, Int.reduceSub, Int.reduceMul, Int.reduceNeg, q_add_e, q_sub_e, q_mul_e, q_neg_e, q_upd_s, q_upd_n, zr_shr0, zr_shr1, zr_shr2, zr_shr3, zr_shr4, zr_and, zr_dyn8, zr_or, zr_shl, q_cpy_n, y_cpy26, tn_32]
        exact ih2
      · rw [if_neg (show ¬mIn M k = b by unfold mIn; split <;> omega)] at ih2
        simp (disch := omega) only [b_X6_whoIn_0, x_iconst, x_storeI_2, x_storeI_3, x_loadI_3, x_loadR_0, x_loadS_0, f_6_0, y_ic_ge_t, y_ic_ge_f, b_X6_whoIn_12, x_loadI_2, f_6_4, x_imul, x_iadd, y_iald_35, x_loadI_1, y_ic_ne_t, y_ic_ne_f, b_X6_whoIn_27, x_ishl, x_goto, b_X6_whoIn_33, b_X6_whoIn_34, x_ior, x_iinc_3, b_X6_whoIn_42, x_ret0, q_isL_I, q_isL_R, q_isL_S, true_and, and_true, and_self, List.length_nil, List.length_cons, Nat.zero_add, x_K, x_Kn, Int.reduceToNat, Nat.reduceAdd, Nat.reduceMul, Nat.reduceLeDiff, Nat.reduceLT, Nat.zero_le, Int.reduceAdd, Int.reduceSub, Int.reduceMul, Int.reduceNeg, q_add_e, q_sub_e, q_mul_e, q_neg_e, q_upd_s, q_upd_n, zr_shr0, zr_shr1, zr_shr2, zr_shr3, zr_shr4, zr_and, zr_dyn8, zr_or, zr_shl, q_cpy_n, y_cpy26, tn_32]
        exact ih2
  simp (disch := omega) only [b_X6_whoIn_0, x_iconst, x_storeI_2, x_storeI_3, x_loadI_3, x_loadR_0, x_loadS_0, f_6_0, y_ic_ge_t, y_ic_ge_f, b_X6_whoIn_12, x_loadI_2, f_6_4, x_imul, x_iadd, y_iald_35, x_loadI_1, y_ic_ne_t, y_ic_ne_f, b_X6_whoIn_27, x_ishl, x_goto, b_X6_whoIn_33, b_X6_whoIn_34, x_ior, x_iinc_3, b_X6_whoIn_42, x_ret0, q_isL_I, q_isL_R, q_isL_S, true_and, and_true, and_self, List.length_nil, List.length_cons, Nat.zero_add, x_K, x_Kn, Int.reduceToNat, Nat.reduceAdd, Nat.reduceMul, Nat.reduceLeDiff, Nat.reduceLT, Nat.zero_le, Int.reduceAdd, Int.reduceSub, Int.reduceMul, Int.reduceNeg, q_add_e, q_sub_e, q_mul_e, q_neg_e, q_upd_s, q_upd_n, zr_shr0, zr_shr1, zr_shr2, zr_shr3, zr_shr4, zr_and, zr_dyn8, zr_or, zr_shl, q_cpy_n, y_cpy26]
  exact loop (M 100 0).toNat 0 (by omega)
def F_ones (s : Int) : Int := q_add (q_add (q_add (q_add (q_add 0 (q_and (q_shr s 0) 1)) (q_and (q_shr s 1) 1)) (q_and (q_shr s 2) 1)) (q_and (q_shr s 3) 1)) (q_and (q_shr s 4) 1)
theorem mp_onesOf {d : Nat} {g : q_G} {M : q_M} {s : Int} (Q : Option q_V → q_G → q_M → Prop) : q_S 1 d 116 [qI s] g M Q = Q (some (qI (F_ones s))) g M := by
  rw [s_X6_onesOf]
  simp (disch := omega) only [b_X6_onesOf_0, x_iconst, x_storeI_1, x_storeI_2, b_X6_onesOf_4, x_loadI_2, y_ic_ge_t, y_ic_ge_f, b_X6_onesOf_9, x_loadI_1, x_loadI_0, x_ishr, x_iand, x_iadd, x_iinc_2, x_goto, b_X6_onesOf_23, x_ret0, q_isL_I, q_isL_R, q_isL_S, true_and, and_true, and_self, List.length_nil, List.length_cons, Nat.zero_add, x_K, x_Kn, Int.reduceToNat, Nat.reduceAdd, Nat.reduceMul, Nat.reduceLeDiff, Nat.reduceLT, Nat.zero_le, Int.reduceAdd, Int.reduceSub, Int.reduceMul, Int.reduceNeg, q_add_e, q_sub_e, q_mul_e, q_neg_e, q_upd_s, q_upd_n, zr_dyn8, zr_or, zr_shl, q_cpy_n, y_cpy26]
  rfl
end
section
/-! THE MODEL: who is last, whom a building takes; its world with one cell set -/
theorem F_ones_bits {f : Nat → Int} {b : Int} : ∀ n : Nat, n ≤ 5 → F_ones (F_bits f b n) = F_cnt f b n
  | 0, _ => by simp only [F_bits, F_cnt]; decide
  | 1, _ => by simp only [F_bits, F_cnt]; (repeat' split) <;> decide
  | 2, _ => by simp only [F_bits, F_cnt]; (repeat' split) <;> decide
  | 3, _ => by simp only [F_bits, F_cnt]; (repeat' split) <;> decide
  | 4, _ => by simp only [F_bits, F_cnt]; (repeat' split) <;> decide
  | 5, _ => by simp only [F_bits, F_cnt]; (repeat' split) <;> decide
  | n + 6, h => absurd h (by omega)
theorem mp_full {d : Nat} {g : q_G} {M : q_M} {b : Nat} (hb : b < 5) (h0 : 0 ≤ M 100 0) (h5 : M 100 0 ≤ 5) (Q : Option q_V → q_G → q_M → Prop) : q_S 1 (d + 1) 148 [qR 6 100, qI b] g M Q = Q (some (qI (if M 103 (4 * b + 1) ≤ F_cnt (mIn M) b (M 100 0).toNat then 1 else 0))) g M := by
  refine q_S_eq (fun Q hq => ?_) Q
  have e := F_ones_bits (f := mIn M) (b := b) (M 100 0).toNat (by omega)
  rw [s_X6_isFullSite]
  by_cases c : M 103 (4 * b + 1) ≤ F_cnt (mIn M) b (M 100 0).toNat
  · rw [if_pos c] at hq
    simp (disch := omega) only [b_X6_isFullSite_0, x_loadR_0, x_loadS_0, x_loadI_1, f_6_3, x_iconst, x_imul, x_iadd, y_iald_40, y_ic_lt_t, y_ic_lt_f, b_X6_isFullSite_21, x_goto, b_X6_isFullSite_25, b_X6_isFullSite_26, x_ret1_0, x_ret1_1, q_isL_I, q_isL_R, q_isL_S, true_and, and_true, and_self, List.length_nil, List.length_cons, Nat.zero_add, x_K, x_Kn, Int.reduceToNat, Nat.reduceAdd, Nat.reduceMul, Nat.reduceLeDiff, Nat.reduceLT, Nat.zero_le, Int.reduceAdd, Int.reduceSub, Int.reduceMul, Int.reduceNeg, q_add_e, q_sub_e, q_mul_e, q_neg_e, q_upd_s, q_upd_n, zr_shr0, zr_shr1, zr_shr2, zr_shr3, zr_shr4, zr_and, zr_dyn8, zr_or, zr_shl, q_cpy_n, y_cpy26, c_X6_whoIn, mp_whoIn, c_X6_onesOf, mp_onesOf, e, tn_41]
    exact hq
  · rw [if_neg c] at hq
    simp (disch := omega) only [b_X6_isFullSite_0, x_loadR_0, x_loadS_0, x_loadI_1, f_6_3, x_iconst, x_imul, x_iadd, y_iald_40, y_ic_lt_t, y_ic_lt_f, b_X6_isFullSite_21, x_goto, b_X6_isFullSite_25, b_X6_isFullSite_26, x_ret1_0, x_ret1_1, q_isL_I, q_isL_R, q_isL_S, true_and, and_true, and_self, List.length_nil, List.length_cons, Nat.zero_add, x_K, x_Kn, Int.reduceToNat, Nat.reduceAdd, Nat.reduceMul, Nat.reduceLeDiff, Nat.reduceLT, Nat.zero_le, Int.reduceAdd, Int.reduceSub, Int.reduceMul, Int.reduceNeg, q_add_e, q_sub_e, q_mul_e, q_neg_e, q_upd_s, q_upd_n, zr_shr0, zr_shr1, zr_shr2, zr_shr3, zr_shr4, zr_and, zr_dyn8, zr_or, zr_shl, q_cpy_n, y_cpy26, c_X6_whoIn, mp_whoIn, c_X6_onesOf, mp_onesOf, e, tn_41]
    exact hq
set_option maxHeartbeats 4000000 in
theorem mp_last {V : Nat → (Nat → Int) → Int} {d : Nat} {g : q_G} {M : q_M} {b : Nat} {Q : Option q_V → q_G → q_M → Prop} (hm : q_ml V M) (hb : b < 5) (hq : ∀ M2 : q_M, q_mf M M2 → Q (some (qI (m_no (F_last (mIn M) (fun q => F_wants V (mW M) q b) b (M 100 0).toNat)))) g M2) : q_S 1 (d + 4) 147 [qR 6 100, qI b] g M Q := by
  have r0 := hm.1.1
  rw [s_X6_lastIn]
  have loop : ∀ j k : Nat, k + j = (M 100 0).toNat → ∀ (M1 : q_M) (l5 l6 : q_V), q_isL l5 = false → q_isL l6 = false → q_mf M M1 → q_T 1 (d + 4) qP_X6_lastIn 7 [] [qR 6 100, qI b, qI (m_no (F_last (mIn M) (fun q => F_wants V (mW M) q b) b k)), qI (if F_last (mIn M) (fun q => F_wants V (mW M) q b) b k = 5 then 0 else F_wants V (mW M) (F_last (mIn M) (fun q => F_wants V (mW M) q b) b k) b), qI k, l5, l6] [] g M1 Q := by
    intro j
    induction j with
    | zero =>
      intro k hk M1 l5 l6 hl5 hl6 hf
      have e : k = (M 100 0).toNat := by omega
      have e0 : M1 100 0 = M 100 0 := hf _ _ (by omega) (by omega)
      rw [← e] at hq
      rw [b_X6_lastIn_7]
      simp (disch := omega) only [b_X6_lastIn_0, x_iconst, x_storeI_2, x_storeI_3, x_storeI_4, x_loadI_4, x_loadR_0, x_loadS_0, f_6_0, y_ic_ge_t, y_ic_ge_f, b_X6_lastIn_16, f_6_4, x_imul, x_iadd, y_iald_35, x_loadI_1, y_ic_ne_t, y_ic_ne_f, b_X6_lastIn_31, x_storeI_5, x_loadI_2, y_ic_eq_t, y_ic_eq_f, b_X6_lastIn_45, x_loadI_5, x_loadI_3, y_ic_gt_t, y_ic_gt_f, b_X6_lastIn_51, x_goto, b_X6_lastIn_55, b_X6_lastIn_56, x_storeI_6, x_loadI_6, y_if_eq_t, y_if_eq_f, b_X6_lastIn_63, b_X6_lastIn_68, b_X6_lastIn_69, b_X6_lastIn_75, b_X6_lastIn_80, b_X6_lastIn_81, b_X6_lastIn_82, x_iinc_4, b_X6_lastIn_88, x_ret0, q_isL_I, q_isL_R, q_isL_S, true_and, and_true, and_self, List.length_nil, List.length_cons, Nat.zero_add, x_K, x_Kn, Int.reduceToNat, Nat.reduceAdd, Nat.reduceMul, Nat.reduceLeDiff, Nat.reduceLT, Nat.zero_le, Int.reduceAdd, Int.reduceSub, Int.reduceMul, Int.reduceNeg, q_add_e, q_sub_e, q_mul_e, q_neg_e, q_upd_s, q_upd_n, zr_shr0, zr_shr1, zr_shr2, zr_shr3, zr_shr4, zr_and, zr_dyn8, zr_or, zr_shl, q_cpy_n, y_cpy26]
      exact hq M1 hf
    | succ j ih =>
      intro k hk M1 l5 l6 hl5 hl6 hf
      have e0 : M1 100 0 = M 100 0 := hf _ _ (by omega) (by omega)
      have e1 : M1 104 (3 * k + 2) = M 104 (3 * k + 2) := hf _ _ (by omega) (by omega)
      have h1 := F_last_1 (mIn M) (fun q => F_wants V (mW M) q b) b k
      have ih2 := ih (k + 1) (by omega)
      rw [F_last] at ih2
      have wants : ∀ (nx : Nat) (ops : List Instr) (ls st : List q_V), (∀ M2 : q_M, q_mf M M2 → q_T 1 (d + 4) qP_X6_lastIn nx ops ls (qI (F_wants V (mW M) k b) :: st) g M2 Q) → q_S 1 (d + 3) 142 [qR 6 100, qI k, qI b] g M1 (q_K 1 (d + 4) qP_X6_lastIn nx ops ls st Q) := fun nx ops ls st h => mp_wants (q_mf_ml hf hm) (by rw [e0]; omega) hb (fun M2 h2 => by rw [q_mf_mW hf]; exact h M2 (q_mf_tr hf h2))
      rw [b_X6_lastIn_7]
      generalize hF : F_last (mIn M) (fun q => F_wants V (mW M) q b) b k = F at h1 ih2 ⊢
      have ek : m_no k = (k : Int) := if_neg (by omega)
      by_cases c : M 104 (3 * k + 2) = b
      · have ci : mIn M k = b := by unfold mIn; rw [if_neg (by omega)]; exact c
        simp (disch := omega) only [b_X6_lastIn_0, x_iconst, x_storeI_2, x_storeI_3, x_storeI_4, x_loadI_4, x_loadR_0, x_loadS_0, f_6_0, y_ic_ge_t, y_ic_ge_f, b_X6_lastIn_16, f_6_4, x_imul, x_iadd, y_iald_35, x_loadI_1, y_ic_ne_t, y_ic_ne_f, b_X6_lastIn_31, x_storeI_5, x_loadI_2, y_ic_eq_t, y_ic_eq_f, b_X6_lastIn_45, x_loadI_5, x_loadI_3, y_ic_gt_t, y_ic_gt_f, b_X6_lastIn_51, x_goto, b_X6_lastIn_55, b_X6_lastIn_56, x_storeI_6, x_loadI_6, y_if_eq_t, y_if_eq_f, b_X6_lastIn_63, b_X6_lastIn_68, b_X6_lastIn_69, b_X6_lastIn_75, b_X6_lastIn_80, b_X6_lastIn_81, b_X6_lastIn_82, x_iinc_4, b_X6_lastIn_88, x_ret0, q_isL_I, q_isL_R, q_isL_S, true_and, and_true, and_self, List.length_nil, List.length_cons, Nat.zero_add, x_K, x_Kn, Int.reduceToNat, Nat.reduceAdd, Nat.reduceMul, Nat.reduceLeDiff, Nat.reduceLT, Nat.zero_le, Int.reduceAdd, Int.reduceSub, Int.reduceMul, Int.reduceNeg, q_add_e, q_sub_e, q_mul_e, q_neg_e, q_upd_s, q_upd_n, zr_shr0, zr_shr1, zr_shr2, zr_shr3, zr_shr4, zr_and, zr_dyn8, zr_or, zr_shl, q_cpy_n, y_cpy26, tn_32, hl5, hl6, c_X6_wantedOf]
        refine wants _ _ _ _ (fun M2 h2 => ?_)
        by_cases c5 : F = 5
        · subst c5
          rw [if_pos ⟨ci, Or.inl rfl⟩, if_neg (show ¬k = 5 by omega)] at ih2
          simp only [ek] at ih2
          simp (disch := omega) only [b_X6_lastIn_0, x_iconst, x_storeI_2, x_storeI_3, x_storeI_4, x_loadI_4, x_loadR_0, x_loadS_0, f_6_0, y_ic_ge_t, y_ic_ge_f, b_X6_lastIn_16, f_6_4, x_imul, x_iadd, y_iald_35, x_loadI_1, y_ic_ne_t, y_ic_ne_f, b_X6_lastIn_31, x_storeI_5, x_loadI_2, y_ic_eq_t, y_ic_eq_f, b_X6_lastIn_45, x_loadI_5, x_loadI_3, y_ic_gt_t, y_ic_gt_f, b_X6_lastIn_51, x_goto, b_X6_lastIn_55, b_X6_lastIn_56, x_storeI_6, x_loadI_6, y_if_eq_t, y_if_eq_f, b_X6_lastIn_63, b_X6_lastIn_68, b_X6_lastIn_69, b_X6_lastIn_75, b_X6_lastIn_80, b_X6_lastIn_81, b_X6_lastIn_82, x_iinc_4, b_X6_lastIn_88, x_ret0, q_isL_I, q_isL_R, q_isL_S, true_and, and_true, and_self, List.length_nil, List.length_cons, Nat.zero_add, x_K, x_Kn, Int.reduceToNat, Nat.reduceAdd, Nat.reduceMul, Nat.reduceLeDiff, Nat.reduceLT, Nat.zero_le, Int.reduceAdd, Int.reduceSub, Int.reduceMul, Int.reduceNeg, q_add_e, q_sub_e, q_mul_e, q_neg_e, q_upd_s, q_upd_n, zr_shr0, zr_shr1, zr_shr2, zr_shr3, zr_shr4, zr_and, zr_dyn8, zr_or, zr_shl, q_cpy_n, y_cpy26, hl5, hl6, m_no, if_true]
          exact ih2 M2 _ _ rfl rfl h2
        · have em : m_no F = (F : Int) := if_neg c5
          by_cases cw : F_wants V (mW M) k b ≤ F_wants V (mW M) F b
          · rw [if_pos ⟨ci, Or.inr cw⟩, if_neg (show ¬k = 5 by omega)] at ih2
            simp only [ek] at ih2
            simp (disch := omega) only [b_X6_lastIn_0, x_iconst, x_storeI_2, x_storeI_3, x_storeI_4, x_loadI_4, x_loadR_0, x_loadS_0, f_6_0, y_ic_ge_t, y_ic_ge_f, b_X6_lastIn_16, f_6_4, x_imul, x_iadd, y_iald_35, x_loadI_1, y_ic_ne_t, y_ic_ne_f, b_X6_lastIn_31, x_storeI_5, x_loadI_2, y_ic_eq_t, y_ic_eq_f, b_X6_lastIn_45, x_loadI_5, x_loadI_3, y_ic_gt_t, y_ic_gt_f, b_X6_lastIn_51, x_goto, b_X6_lastIn_55, b_X6_lastIn_56, x_storeI_6, x_loadI_6, y_if_eq_t, y_if_eq_f, b_X6_lastIn_63, b_X6_lastIn_68, b_X6_lastIn_69, b_X6_lastIn_75, b_X6_lastIn_80, b_X6_lastIn_81, b_X6_lastIn_82, x_iinc_4, b_X6_lastIn_88, x_ret0, q_isL_I, q_isL_R, q_isL_S, true_and, and_true, and_self, List.length_nil, List.length_cons, Nat.zero_add, x_K, x_Kn, Int.reduceToNat, Nat.reduceAdd, Nat.reduceMul, Nat.reduceLeDiff, Nat.reduceLT, Nat.zero_le, Int.reduceAdd, Int.reduceSub, Int.reduceMul, Int.reduceNeg, q_add_e, q_sub_e, q_mul_e, q_neg_e, q_upd_s, q_upd_n, zr_shr0, zr_shr1, zr_shr2, zr_shr3, zr_shr4, zr_and, zr_dyn8, zr_or, zr_shl, q_cpy_n, y_cpy26, hl5, hl6, em, c5, if_false]
            exact ih2 M2 _ _ rfl rfl h2
          · rw [if_neg (fun z => z.2.elim c5 cw), if_neg c5] at ih2
            simp (disch := omega) only [b_X6_lastIn_0, x_iconst, x_storeI_2, x_storeI_3, x_storeI_4, x_loadI_4, x_loadR_0, x_loadS_0, f_6_0, y_ic_ge_t, y_ic_ge_f, b_X6_lastIn_16, f_6_4, x_imul, x_iadd, y_iald_35, x_loadI_1, y_ic_ne_t, y_ic_ne_f, b_X6_lastIn_31, x_storeI_5, x_loadI_2, y_ic_eq_t, y_ic_eq_f, b_X6_lastIn_45, x_loadI_5, x_loadI_3, y_ic_gt_t, y_ic_gt_f, b_X6_lastIn_51, x_goto, b_X6_lastIn_55, b_X6_lastIn_56, x_storeI_6, x_loadI_6, y_if_eq_t, y_if_eq_f, b_X6_lastIn_63, b_X6_lastIn_68, b_X6_lastIn_69, b_X6_lastIn_75, b_X6_lastIn_80, b_X6_lastIn_81, b_X6_lastIn_82, x_iinc_4, b_X6_lastIn_88, x_ret0, q_isL_I, q_isL_R, q_isL_S, true_and, and_true, and_self, List.length_nil, List.length_cons, Nat.zero_add, x_K, x_Kn, Int.reduceToNat, Nat.reduceAdd, Nat.reduceMul, Nat.reduceLeDiff, Nat.reduceLT, Nat.zero_le, Int.reduceAdd, Int.reduceSub, Int.reduceMul, Int.reduceNeg, q_add_e, q_sub_e, q_mul_e, q_neg_e, q_upd_s, q_upd_n, zr_shr0, zr_shr1, zr_shr2, zr_shr3, zr_shr4, zr_and, zr_dyn8, zr_or, zr_shl, q_cpy_n, y_cpy26, hl5, hl6, em, c5, if_false]
            rw [em] at ih2
            exact ih2 M2 _ _ rfl rfl h2
      · have ci : ¬mIn M k = b := by unfold mIn; split <;> omega
        rw [if_neg (fun z => ci z.1)] at ih2
        simp (disch := omega) only [b_X6_lastIn_0, x_iconst, x_storeI_2, x_storeI_3, x_storeI_4, x_loadI_4, x_loadR_0, x_loadS_0, f_6_0, y_ic_ge_t, y_ic_ge_f, b_X6_lastIn_16, f_6_4, x_imul, x_iadd, y_iald_35, x_loadI_1, y_ic_ne_t, y_ic_ne_f, b_X6_lastIn_31, x_storeI_5, x_loadI_2, y_ic_eq_t, y_ic_eq_f, b_X6_lastIn_45, x_loadI_5, x_loadI_3, y_ic_gt_t, y_ic_gt_f, b_X6_lastIn_51, x_goto, b_X6_lastIn_55, b_X6_lastIn_56, x_storeI_6, x_loadI_6, y_if_eq_t, y_if_eq_f, b_X6_lastIn_63, b_X6_lastIn_68, b_X6_lastIn_69, b_X6_lastIn_75, b_X6_lastIn_80, b_X6_lastIn_81, b_X6_lastIn_82, x_iinc_4, b_X6_lastIn_88, x_ret0, q_isL_I, q_isL_R, q_isL_S, true_and, and_true, and_self, List.length_nil, List.length_cons, Nat.zero_add, x_K, x_Kn, Int.reduceToNat, Nat.reduceAdd, Nat.reduceMul, Nat.reduceLeDiff, Nat.reduceLT, Nat.zero_le, Int.reduceAdd, Int.reduceSub, Int.reduceMul, Int.reduceNeg, q_add_e, q_sub_e, q_mul_e, q_neg_e, q_upd_s, q_upd_n, zr_shr0, zr_shr1, zr_shr2, zr_shr3, zr_shr4, zr_and, zr_dyn8, zr_or, zr_shl, q_cpy_n, y_cpy26, tn_32, hl5, hl6]
        exact ih2 M1 _ _ hl5 hl6 hf
  simp (disch := omega) only [b_X6_lastIn_0, x_iconst, x_storeI_2, x_storeI_3, x_storeI_4, x_loadI_4, x_loadR_0, x_loadS_0, f_6_0, y_ic_ge_t, y_ic_ge_f, b_X6_lastIn_16, f_6_4, x_imul, x_iadd, y_iald_35, x_loadI_1, y_ic_ne_t, y_ic_ne_f, b_X6_lastIn_31, x_storeI_5, x_loadI_2, y_ic_eq_t, y_ic_eq_f, b_X6_lastIn_45, x_loadI_5, x_loadI_3, y_ic_gt_t, y_ic_gt_f, b_X6_lastIn_51, x_goto, b_X6_lastIn_55, b_X6_lastIn_56, x_storeI_6, x_loadI_6, y_if_eq_t, y_if_eq_f, b_X6_lastIn_63, b_X6_lastIn_68, b_X6_lastIn_69, b_X6_lastIn_75, b_X6_lastIn_80, b_X6_lastIn_81, b_X6_lastIn_82, x_iinc_4, b_X6_lastIn_88, x_ret0, q_isL_I, q_isL_R, q_isL_S, true_and, and_true, and_self, List.length_nil, List.length_cons, Nat.zero_add, x_K, x_Kn, Int.reduceToNat, Nat.reduceAdd, Nat.reduceMul, Nat.reduceLeDiff, Nat.reduceLT, Nat.zero_le, Int.reduceAdd, Int.reduceSub, Int.reduceMul, Int.reduceNeg, q_add_e, q_sub_e, q_mul_e, q_neg_e, q_upd_s, q_upd_n, zr_shr0, zr_shr1, zr_shr2, zr_shr3, zr_shr4, zr_and, zr_dyn8, zr_or, zr_shl, q_cpy_n, y_cpy26]
  exact loop (M 100 0).toNat 0 (by omega) M _ _ rfl rfl q_mf_rf
set_option maxHeartbeats 4000000 in
theorem mp_takes {V : Nat → (Nat → Int) → Int} {d : Nat} {g : q_G} {M : q_M} {p b : Nat} {Q : Option q_V → q_G → q_M → Prop} (hm : q_ml V M) (hp : p < (M 100 0).toNat) (hb : b < 5) (hq : ∀ M2 : q_M, q_mf M M2 → Q (some (qI (if F_takes (mIn M) (fun q => F_wants V (mW M) q b) (M 103 (4 * b + 1)) b (M 100 0).toNat p = true then 1 else 0))) g M2) : q_S 1 (d + 5) 149 [qR 6 100, qI b, qI p] g M Q := by
  have r0 := hm.1.1
  have h1 := F_last_1 (mIn M) (fun q => F_wants V (mW M) q b) b (M 100 0).toNat
  rw [s_X6_doesTake]
  unfold F_takes at hq
  by_cases c1 : F_cnt (mIn M) b (M 100 0).toNat < M 103 (4 * b + 1)
  · rw [if_pos c1, if_pos rfl] at hq
    have c2 : ¬M 103 (4 * b + 1) ≤ F_cnt (mIn M) b (M 100 0).toNat := by omega
    simp (disch := omega) only [b_X6_doesTake_0, x_loadR_0, x_loadS_0, x_loadI_1, y_if_ne_t, y_if_ne_f, b_X6_doesTake_8, x_iconst, x_ret1_0, x_ret1_1, b_X6_doesTake_10, x_storeI_3, x_loadI_3, y_ic_ne_t, y_ic_ne_f, b_X6_doesTake_21, b_X6_doesTake_23, x_loadI_2, x_storeI_4, x_storeI_5, x_loadI_4, x_loadI_5, y_ic_gt_t, y_ic_gt_f, b_X6_doesTake_46, b_X6_doesTake_53, y_ic_ge_t, y_ic_ge_f, b_X6_doesTake_58, x_goto, b_X6_doesTake_62, b_X6_doesTake_63, q_isL_I, q_isL_R, q_isL_S, true_and, and_true, and_self, List.length_nil, List.length_cons, Nat.zero_add, x_K, x_Kn, Int.reduceToNat, Nat.reduceAdd, Nat.reduceMul, Nat.reduceLeDiff, Nat.reduceLT, Nat.zero_le, Int.reduceAdd, Int.reduceSub, Int.reduceMul, Int.reduceNeg, q_add_e, q_sub_e, q_mul_e, q_neg_e, q_upd_s, q_upd_n, zr_shr0, zr_shr1, zr_shr2, zr_shr3, zr_shr4, zr_and, zr_dyn8, zr_or, zr_shl, q_cpy_n, y_cpy26, c_X6_isFullSite, mp_full, c2, if_false]
    exact hq M q_mf_rf
  · rw [if_neg c1] at hq
    have c2 : M 103 (4 * b + 1) ≤ F_cnt (mIn M) b (M 100 0).toNat := by omega
    have last : ∀ (nx : Nat) (ops : List Instr) (ls st : List q_V), (∀ M2 : q_M, q_mf M M2 → q_T 1 (d + 5) qP_X6_doesTake nx ops ls (qI (m_no (F_last (mIn M) (fun q => F_wants V (mW M) q b) b (M 100 0).toNat)) :: st) g M2 Q) → q_S 1 (d + 4) 147 [qR 6 100, qI b] g M (q_K 1 (d + 5) qP_X6_doesTake nx ops ls st Q) := fun nx ops ls st h => mp_last hm hb h
    have wants : ∀ (M1 : q_M) (k : Nat) (nx : Nat) (ops : List Instr) (ls st : List q_V), q_mf M M1 → k < (M 100 0).toNat → (∀ M2 : q_M, q_mf M M2 → q_T 1 (d + 5) qP_X6_doesTake nx ops ls (qI (F_wants V (mW M) k b) :: st) g M2 Q) → q_S 1 (d + 4) 142 [qR 6 100, qI k, qI b] g M1 (q_K 1 (d + 5) qP_X6_doesTake nx ops ls st Q) := fun M1 k nx ops ls st hf hk h => mp_wants (q_mf_ml hf hm) (by rw [hf 100 0 (by omega) (by omega)]; exact hk) hb (fun M2 h2 => by rw [q_mf_mW hf]; exact h M2 (q_mf_tr hf h2))
    simp (disch := omega) only [b_X6_doesTake_0, x_loadR_0, x_loadS_0, x_loadI_1, y_if_ne_t, y_if_ne_f, b_X6_doesTake_8, x_iconst, x_ret1_0, x_ret1_1, b_X6_doesTake_10, x_storeI_3, x_loadI_3, y_ic_ne_t, y_ic_ne_f, b_X6_doesTake_21, b_X6_doesTake_23, x_loadI_2, x_storeI_4, x_storeI_5, x_loadI_4, x_loadI_5, y_ic_gt_t, y_ic_gt_f, b_X6_doesTake_46, b_X6_doesTake_53, y_ic_ge_t, y_ic_ge_f, b_X6_doesTake_58, x_goto, b_X6_doesTake_62, b_X6_doesTake_63, q_isL_I, q_isL_R, q_isL_S, true_and, and_true, and_self, List.length_nil, List.length_cons, Nat.zero_add, x_K, x_Kn, Int.reduceToNat, Nat.reduceAdd, Nat.reduceMul, Nat.reduceLeDiff, Nat.reduceLT, Nat.zero_le, Int.reduceAdd, Int.reduceSub, Int.reduceMul, Int.reduceNeg, q_add_e, q_sub_e, q_mul_e, q_neg_e, q_upd_s, q_upd_n, zr_shr0, zr_shr1, zr_shr2, zr_shr3, zr_shr4, zr_and, zr_dyn8, zr_or, zr_shl, q_cpy_n, y_cpy26, c_X6_isFullSite, mp_full, c2, if_true, c_X6_lastIn]
    refine last _ _ _ _ (fun M2 h2 => ?_)
    generalize F_last (mIn M) (fun q => F_wants V (mW M) q b) b (M 100 0).toNat = F at h1 hq ⊢
    by_cases c5 : F = 5
    · subst c5
      rw [if_pos rfl, if_neg (by decide)] at hq
      simp (disch := omega) only [b_X6_doesTake_0, x_loadR_0, x_loadS_0, x_loadI_1, y_if_ne_t, y_if_ne_f, b_X6_doesTake_8, x_iconst, x_ret1_0, x_ret1_1, b_X6_doesTake_10, x_storeI_3, x_loadI_3, y_ic_ne_t, y_ic_ne_f, b_X6_doesTake_21, b_X6_doesTake_23, x_loadI_2, x_storeI_4, x_storeI_5, x_loadI_4, x_loadI_5, y_ic_gt_t, y_ic_gt_f, b_X6_doesTake_46, b_X6_doesTake_53, y_ic_ge_t, y_ic_ge_f, b_X6_doesTake_58, x_goto, b_X6_doesTake_62, b_X6_doesTake_63, q_isL_I, q_isL_R, q_isL_S, true_and, and_true, and_self, List.length_nil, List.length_cons, Nat.zero_add, x_K, x_Kn, Int.reduceToNat, Nat.reduceAdd, Nat.reduceMul, Nat.reduceLeDiff, Nat.reduceLT, Nat.zero_le, Int.reduceAdd, Int.reduceSub, Int.reduceMul, Int.reduceNeg, q_add_e, q_sub_e, q_mul_e, q_neg_e, q_upd_s, q_upd_n, zr_shr0, zr_shr1, zr_shr2, zr_shr3, zr_shr4, zr_and, zr_dyn8, zr_or, zr_shl, q_cpy_n, y_cpy26, m_no, if_true]
      exact hq M2 h2
    · have em : m_no F = (F : Int) := if_neg c5
      rw [if_neg c5] at hq
      simp (disch := omega) only [b_X6_doesTake_0, x_loadR_0, x_loadS_0, x_loadI_1, y_if_ne_t, y_if_ne_f, b_X6_doesTake_8, x_iconst, x_ret1_0, x_ret1_1, b_X6_doesTake_10, x_storeI_3, x_loadI_3, y_ic_ne_t, y_ic_ne_f, b_X6_doesTake_21, b_X6_doesTake_23, x_loadI_2, x_storeI_4, x_storeI_5, x_loadI_4, x_loadI_5, y_ic_gt_t, y_ic_gt_f, b_X6_doesTake_46, b_X6_doesTake_53, y_ic_ge_t, y_ic_ge_f, b_X6_doesTake_58, x_goto, b_X6_doesTake_62, b_X6_doesTake_63, q_isL_I, q_isL_R, q_isL_S, true_and, and_true, and_self, List.length_nil, List.length_cons, Nat.zero_add, x_K, x_Kn, Int.reduceToNat, Nat.reduceAdd, Nat.reduceMul, Nat.reduceLeDiff, Nat.reduceLT, Nat.zero_le, Int.reduceAdd, Int.reduceSub, Int.reduceMul, Int.reduceNeg, q_add_e, q_sub_e, q_mul_e, q_neg_e, q_upd_s, q_upd_n, zr_shr0, zr_shr1, zr_shr2, zr_shr3, zr_shr4, zr_and, zr_dyn8, zr_or, zr_shl, q_cpy_n, y_cpy26, em, c_X6_wantedOf]
      refine wants _ _ _ _ _ _ h2 hp (fun M3 h3 => ?_)
      simp (disch := omega) only [b_X6_doesTake_0, x_loadR_0, x_loadS_0, x_loadI_1, y_if_ne_t, y_if_ne_f, b_X6_doesTake_8, x_iconst, x_ret1_0, x_ret1_1, b_X6_doesTake_10, x_storeI_3, x_loadI_3, y_ic_ne_t, y_ic_ne_f, b_X6_doesTake_21, b_X6_doesTake_23, x_loadI_2, x_storeI_4, x_storeI_5, x_loadI_4, x_loadI_5, y_ic_gt_t, y_ic_gt_f, b_X6_doesTake_46, b_X6_doesTake_53, y_ic_ge_t, y_ic_ge_f, b_X6_doesTake_58, x_goto, b_X6_doesTake_62, b_X6_doesTake_63, q_isL_I, q_isL_R, q_isL_S, true_and, and_true, and_self, List.length_nil, List.length_cons, Nat.zero_add, x_K, x_Kn, Int.reduceToNat, Nat.reduceAdd, Nat.reduceMul, Nat.reduceLeDiff, Nat.reduceLT, Nat.zero_le, Int.reduceAdd, Int.reduceSub, Int.reduceMul, Int.reduceNeg, q_add_e, q_sub_e, q_mul_e, q_neg_e, q_upd_s, q_upd_n, zr_shr0, zr_shr1, zr_shr2, zr_shr3, zr_shr4, zr_and, zr_dyn8, zr_or, zr_shl, q_cpy_n, y_cpy26, c_X6_wantedOf]
      refine wants _ _ _ _ _ _ h3 (by omega) (fun M4 h4 => ?_)
      by_cases c6 : F_wants V (mW M) F b < F_wants V (mW M) p b ∨ (F_wants V (mW M) p b = F_wants V (mW M) F b ∧ p < F)
      · rw [if_pos (decide_eq_true c6)] at hq
        rcases c6 with c7 | ⟨c7, c8⟩
        · simp (disch := omega) only [b_X6_doesTake_0, x_loadR_0, x_loadS_0, x_loadI_1, y_if_ne_t, y_if_ne_f, b_X6_doesTake_8, x_iconst, x_ret1_0, x_ret1_1, b_X6_doesTake_10, x_storeI_3, x_loadI_3, y_ic_ne_t, y_ic_ne_f, b_X6_doesTake_21, b_X6_doesTake_23, x_loadI_2, x_storeI_4, x_storeI_5, x_loadI_4, x_loadI_5, y_ic_gt_t, y_ic_gt_f, b_X6_doesTake_46, b_X6_doesTake_53, y_ic_ge_t, y_ic_ge_f, b_X6_doesTake_58, x_goto, b_X6_doesTake_62, b_X6_doesTake_63, q_isL_I, q_isL_R, q_isL_S, true_and, and_true, and_self, List.length_nil, List.length_cons, Nat.zero_add, x_K, x_Kn, Int.reduceToNat, Nat.reduceAdd, Nat.reduceMul, Nat.reduceLeDiff, Nat.reduceLT, Nat.zero_le, Int.reduceAdd, Int.reduceSub, Int.reduceMul, Int.reduceNeg, q_add_e, q_sub_e, q_mul_e, q_neg_e, q_upd_s, q_upd_n, zr_shr0, zr_shr1, zr_shr2, zr_shr3, zr_shr4, zr_and, zr_dyn8, zr_or, zr_shl, q_cpy_n, y_cpy26]
          exact hq M4 h4
        · simp (disch := omega) only [b_X6_doesTake_0, x_loadR_0, x_loadS_0, x_loadI_1, y_if_ne_t, y_if_ne_f, b_X6_doesTake_8, x_iconst, x_ret1_0, x_ret1_1, b_X6_doesTake_10, x_storeI_3, x_loadI_3, y_ic_ne_t, y_ic_ne_f, b_X6_doesTake_21, b_X6_doesTake_23, x_loadI_2, x_storeI_4, x_storeI_5, x_loadI_4, x_loadI_5, y_ic_gt_t, y_ic_gt_f, b_X6_doesTake_46, b_X6_doesTake_53, y_ic_ge_t, y_ic_ge_f, b_X6_doesTake_58, x_goto, b_X6_doesTake_62, b_X6_doesTake_63, q_isL_I, q_isL_R, q_isL_S, true_and, and_true, and_self, List.length_nil, List.length_cons, Nat.zero_add, x_K, x_Kn, Int.reduceToNat, Nat.reduceAdd, Nat.reduceMul, Nat.reduceLeDiff, Nat.reduceLT, Nat.zero_le, Int.reduceAdd, Int.reduceSub, Int.reduceMul, Int.reduceNeg, q_add_e, q_sub_e, q_mul_e, q_neg_e, q_upd_s, q_upd_n, zr_shr0, zr_shr1, zr_shr2, zr_shr3, zr_shr4, zr_and, zr_dyn8, zr_or, zr_shl, q_cpy_n, y_cpy26]
          exact hq M4 h4
      · rw [if_neg (fun z => c6 (of_decide_eq_true z))] at hq
        by_cases c7 : F_wants V (mW M) p b = F_wants V (mW M) F b
        · simp (disch := omega) only [b_X6_doesTake_0, x_loadR_0, x_loadS_0, x_loadI_1, y_if_ne_t, y_if_ne_f, b_X6_doesTake_8, x_iconst, x_ret1_0, x_ret1_1, b_X6_doesTake_10, x_storeI_3, x_loadI_3, y_ic_ne_t, y_ic_ne_f, b_X6_doesTake_21, b_X6_doesTake_23, x_loadI_2, x_storeI_4, x_storeI_5, x_loadI_4, x_loadI_5, y_ic_gt_t, y_ic_gt_f, b_X6_doesTake_46, b_X6_doesTake_53, y_ic_ge_t, y_ic_ge_f, b_X6_doesTake_58, x_goto, b_X6_doesTake_62, b_X6_doesTake_63, q_isL_I, q_isL_R, q_isL_S, true_and, and_true, and_self, List.length_nil, List.length_cons, Nat.zero_add, x_K, x_Kn, Int.reduceToNat, Nat.reduceAdd, Nat.reduceMul, Nat.reduceLeDiff, Nat.reduceLT, Nat.zero_le, Int.reduceAdd, Int.reduceSub, Int.reduceMul, Int.reduceNeg, q_add_e, q_sub_e, q_mul_e, q_neg_e, q_upd_s, q_upd_n, zr_shr0, zr_shr1, zr_shr2, zr_shr3, zr_shr4, zr_and, zr_dyn8, zr_or, zr_shl, q_cpy_n, y_cpy26]
          exact hq M4 h4
        · simp (disch := omega) only [b_X6_doesTake_0, x_loadR_0, x_loadS_0, x_loadI_1, y_if_ne_t, y_if_ne_f, b_X6_doesTake_8, x_iconst, x_ret1_0, x_ret1_1, b_X6_doesTake_10, x_storeI_3, x_loadI_3, y_ic_ne_t, y_ic_ne_f, b_X6_doesTake_21, b_X6_doesTake_23, x_loadI_2, x_storeI_4, x_storeI_5, x_loadI_4, x_loadI_5, y_ic_gt_t, y_ic_gt_f, b_X6_doesTake_46, b_X6_doesTake_53, y_ic_ge_t, y_ic_ge_f, b_X6_doesTake_58, x_goto, b_X6_doesTake_62, b_X6_doesTake_63, q_isL_I, q_isL_R, q_isL_S, true_and, and_true, and_self, List.length_nil, List.length_cons, Nat.zero_add, x_K, x_Kn, Int.reduceToNat, Nat.reduceAdd, Nat.reduceMul, Nat.reduceLeDiff, Nat.reduceLT, Nat.zero_le, Int.reduceAdd, Int.reduceSub, Int.reduceMul, Int.reduceNeg, q_add_e, q_sub_e, q_mul_e, q_neg_e, q_upd_s, q_upd_n, zr_shr0, zr_shr1, zr_shr2, zr_shr3, zr_shr4, zr_and, zr_dyn8, zr_or, zr_shl, q_cpy_n, y_cpy26]
          exact hq M4 h4
theorem mW_up2 {M : q_M} {p : Nat} {v : Int} (hp : p < (M 100 0).toNat) : mW (q_upd M 104 (3 * p) v) = q_upd (mW M) 2 p v := by
  funext f i
  by_cases hf : f = 2 ∧ i = p
  · obtain ⟨rfl, rfl⟩ := hf
    rw [q_upd_s, mW_2 (by rw [q_upd_n (by omega)]; exact hp), q_upd_s]
  · rw [q_upd_n (by omega)]
    unfold mW mIn
    split <;> simp (disch := omega) only [q_upd_n]
theorem mW_up3 {M : q_M} {p : Nat} {v : Int} (hp : p < (M 100 0).toNat) : mW (q_upd M 104 (3 * p + 1) v) = q_upd (mW M) 3 p v := by
  funext f i
  by_cases hf : f = 3 ∧ i = p
  · obtain ⟨rfl, rfl⟩ := hf
    rw [q_upd_s, mW_3 (by rw [q_upd_n (by omega)]; exact hp), q_upd_s]
  · rw [q_upd_n (by omega)]
    unfold mW mIn
    split <;> simp (disch := omega) only [q_upd_n]
theorem mW_up4 {M : q_M} {p : Nat} {v : Int} (hp : p < (M 100 0).toNat) : mW (q_upd M 104 (3 * p + 2) v) = q_upd (mW M) 4 p (if v = -1 then 5 else v) := by
  funext f i
  by_cases hf : f = 4 ∧ i = p
  · obtain ⟨rfl, rfl⟩ := hf
    rw [q_upd_s, mW_4 (by rw [q_upd_n (by omega)]; exact hp)]
    unfold mIn
    rw [q_upd_s]
  · rw [q_upd_n (by omega)]
    unfold mW mIn
    split <;> simp (disch := omega) only [q_upd_n]
theorem mW_up6 {M : q_M} {b : Nat} {v : Int} (hb : b < 5) : mW (q_upd M 103 (4 * b + 1) v) = q_upd (mW M) 6 b v := by
  funext f i
  by_cases hf : f = 6 ∧ i = b
  · obtain ⟨rfl, rfl⟩ := hf
    rw [q_upd_s, mW_6 hb, q_upd_s]
  · rw [q_upd_n (by omega)]
    unfold mW mIn
    split <;> simp (disch := omega) only [q_upd_n]
theorem mW_up7 {M : q_M} {b : Nat} {v : Int} (hb : b < 5) : mW (q_upd M 103 (4 * b + 2) v) = q_upd (mW M) 7 b v := by
  funext f i
  by_cases hf : f = 7 ∧ i = b
  · obtain ⟨rfl, rfl⟩ := hf
    rw [q_upd_s, mW_7 hb, q_upd_s]
  · rw [q_upd_n (by omega)]
    unfold mW mIn
    split <;> simp (disch := omega) only [q_upd_n]
theorem mW_up8 {M : q_M} {b : Nat} {v : Int} (hb : b < 5) : mW (q_upd M 103 (4 * b + 3) v) = q_upd (mW M) 8 b v := by
  funext f i
  by_cases hf : f = 8 ∧ i = b
  · obtain ⟨rfl, rfl⟩ := hf
    rw [q_upd_s, mW_8 hb, q_upd_s]
  · rw [q_upd_n (by omega)]
    unfold mW mIn
    split <;> simp (disch := omega) only [q_upd_n]
theorem mW_up9 {M : q_M} {v : Int} : mW (q_upd M 100 5 v) = q_upd (mW M) 9 1 v := by
  funext f i
  by_cases hf : f = 9 ∧ i = 1
  · obtain ⟨rfl, rfl⟩ := hf
    rw [q_upd_s, mW_91, q_upd_s]
  · rw [q_upd_n (by omega)]
    unfold mW mIn
    split <;> simp (disch := omega) only [q_upd_n]
theorem mW_up0 {M : q_M} {p : Nat} {v : Int} (hp : p < (M 100 0).toNat) : mW (q_upd M 101 p v) = q_upd (mW M) 0 p v := by
  funext f i
  by_cases hf : f = 0 ∧ i = p
  · obtain ⟨rfl, rfl⟩ := hf
    rw [q_upd_s, mW_0 (by rw [q_upd_n (by omega)]; exact hp), q_upd_s]
  · rw [q_upd_n (by omega)]
    unfold mW mIn
    split <;> simp (disch := omega) only [q_upd_n]
theorem mW_up1 {M : q_M} {p : Nat} {v : Int} (hp : p < (M 100 0).toNat) : mW (q_upd M 102 p v) = q_upd (mW M) 1 p v := by
  funext f i
  by_cases hf : f = 1 ∧ i = p
  · obtain ⟨rfl, rfl⟩ := hf
    rw [q_upd_s, mW_1 (by rw [q_upd_n (by omega)]; exact hp), q_upd_s]
  · rw [q_upd_n (by omega)]
    unfold mW mIn
    split <;> simp (disch := omega) only [q_upd_n]
/-- a number that may stand at a cell of the model's world -/
def q_okv (a i : Nat) (v : Int) : Prop := (a = 104 → i % 3 < 2 → 0 ≤ v ∧ v ≤ 99) ∧ (a = 104 → i % 3 = 2 → -1 ≤ v ∧ v ≤ 4) ∧ (a = 103 → i % 4 ≠ 1 → 0 ≤ v ∧ v ≤ 99) ∧ (a = 103 → i % 4 = 1 → 0 ≤ v ∧ v ≤ 6) ∧ (a = 100 → i = 5 → 0 ≤ v ∧ v ≤ 2000) ∧ (a = 101 → 0 ≤ v ∧ v ≤ 5) ∧ (a = 102 → 0 ≤ v ∧ v ≤ 9) ∧ (a = 100 → i ≠ 0)
theorem q_okE {p : Prop} {a b : Nat} (h : a ≠ b) : a = b → p := fun e => absurd e h
theorem q_ok2 {p : Nat} {v : Int} (h : 0 ≤ v ∧ v ≤ 99) : q_okv 104 (3 * p) v := ⟨fun _ _ => h, fun _ z => absurd z (by omega), q_okE (by decide), q_okE (by decide), q_okE (by decide), q_okE (by decide), q_okE (by decide), q_okE (by decide)⟩
theorem q_ok3 {p : Nat} {v : Int} (h : 0 ≤ v ∧ v ≤ 99) : q_okv 104 (3 * p + 1) v := ⟨fun _ _ => h, fun _ z => absurd z (by omega), q_okE (by decide), q_okE (by decide), q_okE (by decide), q_okE (by decide), q_okE (by decide), q_okE (by decide)⟩
theorem q_ok4 {p : Nat} {v : Int} (h : -1 ≤ v ∧ v ≤ 4) : q_okv 104 (3 * p + 2) v := ⟨fun _ z => absurd z (by omega), fun _ _ => h, q_okE (by decide), q_okE (by decide), q_okE (by decide), q_okE (by decide), q_okE (by decide), q_okE (by decide)⟩
theorem q_ok5 {i : Nat} {v : Int} (hi : i % 4 ≠ 1) (h : 0 ≤ v ∧ v ≤ 99) : q_okv 103 i v := ⟨q_okE (by decide), q_okE (by decide), fun _ _ => h, fun _ z => absurd z hi, q_okE (by decide), q_okE (by decide), q_okE (by decide), q_okE (by decide)⟩
theorem q_ok6 {b : Nat} {v : Int} (h : 0 ≤ v ∧ v ≤ 6) : q_okv 103 (4 * b + 1) v := ⟨q_okE (by decide), q_okE (by decide), fun _ z => absurd (show (4 * b + 1) % 4 = 1 by omega) z, fun _ _ => h, q_okE (by decide), q_okE (by decide), q_okE (by decide), q_okE (by decide)⟩
theorem q_ok9 {v : Int} (h : 0 ≤ v ∧ v ≤ 2000) : q_okv 100 5 v := ⟨q_okE (by decide), q_okE (by decide), q_okE (by decide), q_okE (by decide), fun _ _ => h, q_okE (by decide), q_okE (by decide), fun _ => by decide⟩
theorem q_ok0 {i : Nat} {v : Int} (h : 0 ≤ v ∧ v ≤ 5) : q_okv 101 i v := ⟨q_okE (by decide), q_okE (by decide), q_okE (by decide), q_okE (by decide), q_okE (by decide), fun _ => h, q_okE (by decide), q_okE (by decide)⟩
theorem q_ok1 {i : Nat} {v : Int} (h : 0 ≤ v ∧ v ≤ 9) : q_okv 102 i v := ⟨q_okE (by decide), q_okE (by decide), q_okE (by decide), q_okE (by decide), q_okE (by decide), q_okE (by decide), fun _ => h, q_okE (by decide)⟩
theorem q_upd_key {M : q_M} {a i : Nat} {v : Int} (x j : Nat) : q_upd M a i v x j = M x j ∨ (x = a ∧ j = i ∧ q_upd M a i v x j = v) := by
  by_cases e : x = a ∧ j = i
  · obtain ⟨rfl, rfl⟩ := e
    exact Or.inr ⟨rfl, rfl, q_upd_s⟩
  · exact Or.inl (q_upd_n (by omega))
theorem q_mb_up {M : q_M} {a i : Nat} {v : Int} (hb : q_mb M) (h : q_okv a i v) : q_mb (q_upd M a i v) := by
  obtain ⟨r0, r1, r2, r3, r4, r5, r6, r7, r8, r9, ra⟩ := hb
  obtain ⟨h1, h2, h3, h4, h5, h6, h7, h8⟩ := h
  refine ⟨?_, ?_, fun j hj => ?_, fun j hj => ?_, fun j hj => ?_, fun j hj => ?_, fun j hj => ?_, fun j hj => ?_, fun j hj => ?_, fun j hj => ?_, fun j hj => ?_⟩
  · rcases q_upd_key (M := M) (a := a) (i := i) (v := v) 100 0 with e | ⟨e1, e2, e3⟩
    · rw [e]; exact r0
    · exact absurd e2.symm (h8 e1.symm)
  · rcases q_upd_key (M := M) (a := a) (i := i) (v := v) 100 5 with e | ⟨e1, e2, e3⟩
    · rw [e]; exact r1
    · rw [e3]; exact h5 e1.symm e2.symm
  · rcases q_upd_key (M := M) (a := a) (i := i) (v := v) 101 j with e | ⟨e1, e2, e3⟩
    · rw [e]; exact r2 j hj
    · rw [e3]; exact h6 e1.symm
  · rcases q_upd_key (M := M) (a := a) (i := i) (v := v) 102 j with e | ⟨e1, e2, e3⟩
    · rw [e]; exact r3 j hj
    · rw [e3]; exact h7 e1.symm
  · rcases q_upd_key (M := M) (a := a) (i := i) (v := v) 104 (3 * j) with e | ⟨e1, e2, e3⟩
    · rw [e]; exact r4 j hj
    · rw [e3]; exact h1 e1.symm (by omega)
  · rcases q_upd_key (M := M) (a := a) (i := i) (v := v) 104 (3 * j + 1) with e | ⟨e1, e2, e3⟩
    · rw [e]; exact r5 j hj
    · rw [e3]; exact h1 e1.symm (by omega)
  · rcases q_upd_key (M := M) (a := a) (i := i) (v := v) 104 (3 * j + 2) with e | ⟨e1, e2, e3⟩
    · rw [e]; exact r6 j hj
    · rw [e3]; exact h2 e1.symm (by omega)
  · rcases q_upd_key (M := M) (a := a) (i := i) (v := v) 103 (4 * j) with e | ⟨e1, e2, e3⟩
    · rw [e]; exact r7 j hj
    · rw [e3]; exact h3 e1.symm (by omega)
  · rcases q_upd_key (M := M) (a := a) (i := i) (v := v) 103 (4 * j + 1) with e | ⟨e1, e2, e3⟩
    · rw [e]; exact r8 j hj
    · rw [e3]; exact h4 e1.symm (by omega)
  · rcases q_upd_key (M := M) (a := a) (i := i) (v := v) 103 (4 * j + 2) with e | ⟨e1, e2, e3⟩
    · rw [e]; exact r9 j hj
    · rw [e3]; exact h3 e1.symm (by omega)
  · rcases q_upd_key (M := M) (a := a) (i := i) (v := v) 103 (4 * j + 3) with e | ⟨e1, e2, e3⟩
    · rw [e]; exact ra j hj
    · rw [e3]; exact h3 e1.symm (by omega)
theorem q_ml_up {V : Nat → (Nat → Int) → Int} {M : q_M} {a i : Nat} {v : Int} (hm : q_ml V M) (h : q_okv a i v) (h1 : a ≠ 106) (h2 : a ≠ 107) (h3 : a ≠ 100 ∨ i ≠ 11) : q_ml V (q_upd M a i v) :=
  ⟨q_mb_up hm.1 h, hm.2.1, fun M' g1 g2 => hm.2.2 M' (fun x j hx => (g1 x j hx).trans (q_upd_n (by omega))) (g2.trans (q_upd_n (by omega)))⟩
end
section
/-! THE MODEL: a turn, a year -/
theorem F_takes_cong {f f' w w' : Nat → Int} {room b : Int} {n p : Nat} (h1 : ∀ k, k < n → f k = f' k) (h2 : ∀ k, k < n → w k = w' k) (hp : p < n) : F_takes f w room b n p = F_takes f' w' room b n p := by
  have e := F_last_cong (b := b) n h1 (fun k hk _ => h2 k hk)
  unfold F_takes
  rw [F_cnt_cong n h1, ← e]
  rcases F_last_in (f := f) (w := w) (b := b) n with h | h
  · simp only [h, if_true]
  · rw [← h2 _ h.1, ← h2 _ hp]
theorem mIn_cong {M : q_M} : ∀ k, k < (M 100 0).toNat → mIn M k = mW M 4 k := fun _ hk => (mW_4 hk).symm
def G_tak (V : Nat → (Nat → Int) → Int) (S : q_M) (p b : Nat) : Bool := F_takes (S 4) (fun q => F_wants V S q b) (S 6 b) b (F_n S) p
def G_S2 (V : Nat → (Nat → Int) → Int) (S : q_M) (p b : Nat) : q_M :=
  q_upd (if F_out V S b = 5 then q_upd S 4 p b else q_upd (q_upd S 4 (F_out V S b) 5) 4 p b) 8 b (if S 8 b + 1 < 99 then S 8 b + 1 else 99)
def G_goto (V : Nat → (Nat → Int) → Int) (S : q_M) (p b : Nat) : Bool × q_M :=
  if F_mv V S p b = S 5 b then (if G_tak V (F_S1 V S p b) p b = true then (true, G_S2 V (F_S1 V S p b) p b) else (false, F_S1 V S p b)) else (false, F_S1 V S p b)
def G_turn (V : Nat → (Nat → Int) → Int) (S : q_M) (p : Nat) : Bool × q_M := if F_wish V S p = 5 then (false, S) else G_goto V S p (F_wish V S p)
def G_yr (V : Nat → (Nat → Int) → Int) (S : q_M) : Nat → Int × q_M
  | 0 => (0, S)
  | p + 1 => if (G_yr V S p).2 4 p = 5 then (q_or (G_yr V S p).1 (if (G_turn V (G_yr V S p).2 p).1 = true then q_shl 1 p else 0), (G_turn V (G_yr V S p).2 p).2) else G_yr V S p
def G_year (V : Nat → (Nat → Int) → Int) (S : q_M) : Int × q_M := ((G_yr V S (F_n S)).1, q_upd (G_yr V S (F_n S)).2 9 1 (S 9 1 + 1))
/-- what goings change in the model -/
def q_my (M M2 : q_M) : Prop := ∀ a i, a ≠ 116 → a ≠ 117 → (a = 104 → 15 ≤ i) → (a = 103 → 20 ≤ i) → M2 a i = M a i
theorem q_my_rf {M : q_M} : q_my M M := fun _ _ _ _ _ _ => rfl
theorem q_my_tr {M M2 M3 : q_M} (h : q_my M M2) (h2 : q_my M2 M3) : q_my M M3 := fun a i h3 h4 h5 h6 => (h2 a i h3 h4 h5 h6).trans (h a i h3 h4 h5 h6)
theorem q_my_mf {M M2 : q_M} (h : q_mf M M2) : q_my M M2 := fun a i h1 h2 _ _ => h a i h1 h2
theorem q_my_up {M M2 : q_M} {a i : Nat} {v : Int} (h : q_my M M2) (ha : (a = 104 ∧ i < 15) ∨ (a = 103 ∧ i < 20)) : q_my M (q_upd M2 a i v) := by
  intro x j h1 h2 h3 h4
  rw [q_upd_n (by omega)]
  exact h x j h1 h2 h3 h4
set_option maxHeartbeats 8000000 in
theorem mp_turn {V : Nat → (Nat → Int) → Int} {d : Nat} {g : q_G} {M : q_M} {p : Nat} {Q : Option q_V → q_G → q_M → Prop} (hm : q_ml V M) (hp : p < (M 100 0).toNat) (hin : M 104 (3 * p + 2) = -1) (hq : ∀ M2 : q_M, q_ml V M2 → mW M2 = (G_turn V (mW M) p).2 → q_my M M2 → Q (some (qI (if (G_turn V (mW M) p).1 = true then 1 else 0))) g M2) : q_S 1 (d + 6) 150 [qR 6 100, qI p] g M Q := by
  have n0 := hm.1.1
  have hp5 : p < 5 := by omega
  rw [s_X6_turnOf]
  have wish : ∀ (nx : Nat) (ops : List Instr) (ls st : List q_V), (∀ M2 : q_M, q_mf M M2 → q_T 1 (d + 6) qP_X6_turnOf nx ops ls (qI (m_no (F_wish V (mW M) p)) :: st) g M2 Q) → q_S 1 (d + 5) 144 [qR 6 100, qI p] g M (q_K 1 (d + 6) qP_X6_turnOf nx ops ls st Q) := fun nx ops ls st h => mp_wish hm hp h
  simp (disch := omega) only [b_X6_turnOf_0, x_loadR_0, x_loadS_0, x_loadI_1, x_storeI_2, x_loadI_2, x_iconst, y_ic_ne_t, y_ic_ne_f, b_X6_turnOf_11, x_ret1_0, x_ret1_1, b_X6_turnOf_13, x_storeI_3, f_6_3, x_imul, y_iald_35, y_iald_40, f_6_4, x_isub, x_storeI_4, x_dup2, x_loadI_4, x_loadI_3, y_ic_le_t, y_ic_le_f, b_X6_turnOf_53, x_goto, b_X6_turnOf_57, x_ineg, y_ic_ge_t, y_ic_ge_f, b_X6_turnOf_64, b_X6_turnOf_69, b_X6_turnOf_71, x_iadd, y_iast_35, y_iast_40, b_X6_turnOf_92, y_if_ne_t, y_if_ne_f, b_X6_turnOf_101, b_X6_turnOf_103, y_if_eq_t, y_if_eq_f, b_X6_turnOf_111, x_storeI_5, x_loadI_5, b_X6_turnOf_135, q_isL_I, q_isL_R, q_isL_S, true_and, and_true, and_self, List.length_nil, List.length_cons, Nat.zero_add, x_K, x_Kn, Int.reduceToNat, Nat.reduceAdd, Nat.reduceMul, Nat.reduceLeDiff, Nat.reduceLT, Nat.zero_le, Int.reduceAdd, Int.reduceSub, Int.reduceMul, Int.reduceNeg, q_add_e, q_sub_e, q_mul_e, q_neg_e, q_upd_s, q_upd_n, zr_shr0, zr_shr1, zr_shr2, zr_shr3, zr_shr4, zr_and, zr_dyn8, zr_or, zr_shl, q_cpy_n, y_cpy26, c_X6_wishOf]
  refine wish _ _ _ _ (fun M1 h1 => ?_)
  have hwl := F_wish_le (V := V) (S := mW M) (p := p)
  unfold G_turn at hq
  generalize F_wish V (mW M) p = W at hq hwl ⊢
  rcases hwl with hW | hW
  · rw [if_neg (show ¬W = 5 by omega)] at hq
    have eW : m_no W = (W : Int) := if_neg (by omega)
    have goes : ∀ (nx : Nat) (ops : List Instr) (ls st : List q_V), (∀ M2 : q_M, q_mf M M2 → q_T 1 (d + 6) qP_X6_turnOf nx ops ls (qI (F_goes V (mW M) p) :: st) g M2 Q) → q_S 1 (d + 5) 143 [qR 6 100, qI p] g M1 (q_K 1 (d + 6) qP_X6_turnOf nx ops ls st Q) := fun nx ops ls st h => mp_goes (q_mf_ml h1 hm) (by rw [h1 100 0 (by omega) (by omega)]; exact hp) (fun M2 h2 => by rw [q_mf_mW h1]; exact h M2 (q_mf_tr h1 h2))
    simp (disch := omega) only [b_X6_turnOf_0, x_loadR_0, x_loadS_0, x_loadI_1, x_storeI_2, x_loadI_2, x_iconst, y_ic_ne_t, y_ic_ne_f, b_X6_turnOf_11, x_ret1_0, x_ret1_1, b_X6_turnOf_13, x_storeI_3, f_6_3, x_imul, y_iald_35, y_iald_40, f_6_4, x_isub, x_storeI_4, x_dup2, x_loadI_4, x_loadI_3, y_ic_le_t, y_ic_le_f, b_X6_turnOf_53, x_goto, b_X6_turnOf_57, x_ineg, y_ic_ge_t, y_ic_ge_f, b_X6_turnOf_64, b_X6_turnOf_69, b_X6_turnOf_71, x_iadd, y_iast_35, y_iast_40, b_X6_turnOf_92, y_if_ne_t, y_if_ne_f, b_X6_turnOf_101, b_X6_turnOf_103, y_if_eq_t, y_if_eq_f, b_X6_turnOf_111, x_storeI_5, x_loadI_5, b_X6_turnOf_135, q_isL_I, q_isL_R, q_isL_S, true_and, and_true, and_self, List.length_nil, List.length_cons, Nat.zero_add, x_K, x_Kn, Int.reduceToNat, Nat.reduceAdd, Nat.reduceMul, Nat.reduceLeDiff, Nat.reduceLT, Nat.zero_le, Int.reduceAdd, Int.reduceSub, Int.reduceMul, Int.reduceNeg, q_add_e, q_sub_e, q_mul_e, q_neg_e, q_upd_s, q_upd_n, zr_shr0, zr_shr1, zr_shr2, zr_shr3, zr_shr4, zr_and, zr_dyn8, zr_or, zr_shl, q_cpy_n, y_cpy26, eW, c_X6_goesOf]
    refine goes _ _ _ _ (fun M2 h2 => ?_)
    have m2 := q_mf_ml h2 hm
    have w2 := q_mf_mW h2
    have gl := F_goes_le (V := V) (S := mW M) (p := p) (by rw [mW_1 hp]; exact hm.1.2.2.2.1 p hp5)
    have ra := m2.1.2.2.2.2.1 p hp5
    have rb := m2.1.2.2.2.2.2.2.2.1 W hW
    have ea : mW M 2 p = M2 104 (3 * p) := by rw [← w2]; exact mW_2 (by rw [h2 100 0 (by omega) (by omega)]; exact hp)
    have eb : mW M 5 W = M2 103 (4 * W) := by rw [← w2]; exact mW_5 hW
    have emv : F_mv V (mW M) p W = if M2 103 (4 * W) - M2 104 (3 * p) < -F_goes V (mW M) p then M2 104 (3 * p) - F_goes V (mW M) p else if F_goes V (mW M) p < M2 103 (4 * W) - M2 104 (3 * p) then M2 104 (3 * p) + F_goes V (mW M) p else M2 103 (4 * W) := by
      unfold F_mv
      rw [ea, eb]
    have key : ∀ (de : Int) (l5 : q_V), q_isL l5 = false → M2 104 (3 * p) + de = F_mv V (mW M) p W → q_T 1 (d + 6) qP_X6_turnOf 71 [] [qR 6 100, qI p, qI W, qI (F_goes V (mW M) p), qI (M2 103 (4 * W) - M2 104 (3 * p)), l5] [qI de, qI (M2 104 (3 * p)), qI (3 * p), qR 35 104] g M2 Q := by
      intro de l5 hl5 hde
      have mvb : 0 ≤ F_mv V (mW M) p W ∧ F_mv V (mW M) p W ≤ 99 := by
        rw [emv]
        split
        · omega
        · split <;> omega
      unfold G_goto at hq
      have w3 : mW (q_upd M2 104 (3 * p) (F_mv V (mW M) p W)) = F_S1 V (mW M) p W := by
        rw [mW_up2 (by rw [h2 100 0 (by omega) (by omega)]; exact hp), w2]
        rfl
      have m3 : q_ml V (q_upd M2 104 (3 * p) (F_mv V (mW M) p W)) := q_ml_up m2 (q_ok2 mvb) (by omega) (by omega) (by omega)
      have y3 : q_my M (q_upd M2 104 (3 * p) (F_mv V (mW M) p W)) := q_my_up (q_my_mf h2) (by omega)
      have s3 : q_upd M2 104 (3 * p) (F_mv V (mW M) p W) 104 (3 * p) = F_mv V (mW M) p W := q_upd_s
      have b3 : q_upd M2 104 (3 * p) (F_mv V (mW M) p W) 103 (4 * W) = M2 103 (4 * W) := q_upd_n (by omega)
      generalize F_mv V (mW M) p W = mv at hq w3 m3 y3 s3 b3 mvb hde ⊢
      generalize hM3 : q_upd M2 104 (3 * p) mv = M3 at w3 m3 y3 s3 b3 ⊢
      rw [b_X6_turnOf_71]
      have n3 : M3 100 0 = M 100 0 := y3 100 0 (by omega) (by omega) (by omega) (by omega)
      by_cases c1 : mv = M2 103 (4 * W)
      · rw [if_pos (show mv = mW M 5 W by rw [eb]; exact c1)] at hq
        have takes : ∀ (nx : Nat) (ops : List Instr) (ls st : List q_V), (∀ M4 : q_M, q_mf M3 M4 → q_T 1 (d + 6) qP_X6_turnOf nx ops ls (qI (if G_tak V (mW M3) p W = true then 1 else 0) :: st) g M4 Q) → q_S 1 (d + 5) 149 [qR 6 100, qI W, qI p] g M3 (q_K 1 (d + 6) qP_X6_turnOf nx ops ls st Q) := fun nx ops ls st h => mp_takes m3 (by rw [n3]; exact hp) hW (fun M4 h4 => by
          have e : F_takes (mIn M3) (fun q => F_wants V (mW M3) q W) (M3 103 (4 * W + 1)) W (M3 100 0).toNat p = G_tak V (mW M3) p W := by
            unfold G_tak
            rw [show F_n (mW M3) = (M3 100 0).toNat from rfl, mW_6 hW]
            exact F_takes_cong mIn_cong (fun k _ => rfl) (by rw [n3]; exact hp)
          rw [e]
          exact h M4 h4)
        simp (disch := omega) only [b_X6_turnOf_0, x_loadR_0, x_loadS_0, x_loadI_1, x_storeI_2, x_loadI_2, x_iconst, y_ic_ne_t, y_ic_ne_f, b_X6_turnOf_11, x_ret1_0, x_ret1_1, b_X6_turnOf_13, x_storeI_3, f_6_3, x_imul, y_iald_35, y_iald_40, f_6_4, x_isub, x_storeI_4, x_dup2, x_loadI_4, x_loadI_3, y_ic_le_t, y_ic_le_f, b_X6_turnOf_53, x_goto, b_X6_turnOf_57, x_ineg, y_ic_ge_t, y_ic_ge_f, b_X6_turnOf_64, b_X6_turnOf_69, b_X6_turnOf_71, x_iadd, y_iast_35, y_iast_40, b_X6_turnOf_92, y_if_ne_t, y_if_ne_f, b_X6_turnOf_101, b_X6_turnOf_103, y_if_eq_t, y_if_eq_f, b_X6_turnOf_111, x_storeI_5, x_loadI_5, b_X6_turnOf_135, q_isL_I, q_isL_R, q_isL_S, true_and, and_true, and_self, List.length_nil, List.length_cons, Nat.zero_add, x_K, x_Kn, Int.reduceToNat, Nat.reduceAdd, Nat.reduceMul, Nat.reduceLeDiff, Nat.reduceLT, Nat.zero_le, Int.reduceAdd, Int.reduceSub, Int.reduceMul, Int.reduceNeg, q_add_e, q_sub_e, q_mul_e, q_neg_e, q_upd_s, q_upd_n, zr_shr0, zr_shr1, zr_shr2, zr_shr3, zr_shr4, zr_and, zr_dyn8, zr_or, zr_shl, q_cpy_n, y_cpy26, Int.toNat_natCast, tn_30, tn_40, hde, hM3, s3, b3, c_X6_doesTake]
        refine takes _ _ _ _ (fun M4 h4 => ?_)
        rw [w3]
        by_cases c2 : G_tak V (F_S1 V (mW M) p W) p W = true
        · rw [if_pos c2] at hq
          have m4 := q_mf_ml h4 m3
          have w4 : mW M4 = F_S1 V (mW M) p W := (q_mf_mW h4).trans w3
          have n4 : M4 100 0 = M 100 0 := (h4 100 0 (by omega) (by omega)).trans n3
          have y4 : q_my M M4 := q_my_tr y3 (q_my_mf h4)
          have eo : F_out V (F_S1 V (mW M) p W) W = if F_cnt (mIn M4) W (M4 100 0).toNat < M4 103 (4 * W + 1) then 5 else F_last (mIn M4) (fun q => F_wants V (mW M4) q W) W (M4 100 0).toNat := by
            rw [← w4]
            unfold F_out F_cast
            rw [show F_n (mW M4) = (M4 100 0).toNat from rfl, mW_6 hW, ← F_cnt_cong _ mIn_cong, ← F_last_cong _ mIn_cong (fun k _ _ => rfl)]
          have c3 : F_takes (mIn M4) (fun q => F_wants V (mW M4) q W) (M4 103 (4 * W + 1)) W (M4 100 0).toNat p = true := by
            rw [← c2, ← w4]
            unfold G_tak
            rw [show F_n (mW M4) = (M4 100 0).toNat from rfl, mW_6 hW]
            exact F_takes_cong mIn_cong (fun k _ => rfl) (by rw [n4]; exact hp)
          have fin : ∀ (M6 : q_M) (l5 : q_V), q_isL l5 = false → q_ml V M6 → mW M6 = (if F_out V (F_S1 V (mW M) p W) W = 5 then F_S1 V (mW M) p W else q_upd (F_S1 V (mW M) p W) 4 (F_out V (F_S1 V (mW M) p W) W) 5) → q_my M M6 → q_T 1 (d + 6) qP_X6_turnOf 135 [] [qR 6 100, qI p, qI W, qI (F_goes V (mW M) p), qI (M2 103 (4 * W) - M2 104 (3 * p)), l5] [] g M6 Q := by
            intro M6 l5 hl5 m6 w6 y6
            have rd := m6.1.2.2.2.2.2.2.2.2.2.2 W hW
            have n6 : M6 100 0 = M 100 0 := y6 100 0 (by omega) (by omega) (by omega) (by omega)
            have s8 : F_S1 V (mW M) p W 8 W = M6 103 (4 * W + 3) := by
              have h8 : mW M6 8 W = M6 103 (4 * W + 3) := mW_8 hW
              rw [← h8, w6]
              split
              · rfl
              · exact (q_upd_n (by omega)).symm
            have ev : (if M6 103 (4 * W + 3) + 1 < 0 then 0 else if 99 < M6 103 (4 * W + 3) + 1 then 99 else M6 103 (4 * W + 3) + 1) = if M6 103 (4 * W + 3) + 1 < 99 then M6 103 (4 * W + 3) + 1 else 99 := by (repeat' split) <;> omega
            have e8 : q_upd M6 104 (3 * p + 2) (W : Nat) 103 (4 * W + 3) = M6 103 (4 * W + 3) := q_upd_n (by omega)
            rw [b_X6_turnOf_135]
            simp (disch := omega) only [b_X6_turnOf_0, x_loadR_0, x_loadS_0, x_loadI_1, x_storeI_2, x_loadI_2, x_iconst, y_ic_ne_t, y_ic_ne_f, b_X6_turnOf_11, x_ret1_0, x_ret1_1, b_X6_turnOf_13, x_storeI_3, f_6_3, x_imul, y_iald_35, y_iald_40, f_6_4, x_isub, x_storeI_4, x_dup2, x_loadI_4, x_loadI_3, y_ic_le_t, y_ic_le_f, b_X6_turnOf_53, x_goto, b_X6_turnOf_57, x_ineg, y_ic_ge_t, y_ic_ge_f, b_X6_turnOf_64, b_X6_turnOf_69, b_X6_turnOf_71, x_iadd, y_iast_35, y_iast_40, b_X6_turnOf_92, y_if_ne_t, y_if_ne_f, b_X6_turnOf_101, b_X6_turnOf_103, y_if_eq_t, y_if_eq_f, b_X6_turnOf_111, x_storeI_5, x_loadI_5, q_isL_I, q_isL_R, q_isL_S, true_and, and_true, and_self, List.length_nil, List.length_cons, Nat.zero_add, x_K, x_Kn, Int.reduceToNat, Nat.reduceAdd, Nat.reduceMul, Nat.reduceLeDiff, Nat.reduceLT, Nat.zero_le, Int.reduceAdd, Int.reduceSub, Int.reduceMul, Int.reduceNeg, q_add_e, q_sub_e, q_mul_e, q_neg_e, q_upd_s, q_upd_n, zr_shr0, zr_shr1, zr_shr2, zr_shr3, zr_shr4, zr_and, zr_dyn8, zr_or, zr_shl, q_cpy_n, y_cpy26, Int.toNat_natCast, tn_32, tn_43, e8, c_X6_within, mp_within]
            rw [ev]
            refine hq _ (q_ml_up (q_ml_up m6 (q_ok4 (by omega)) (by omega) (by omega) (by omega)) (q_ok5 (by omega) (by split <;> omega)) (by omega) (by omega) (by omega)) ?_ (q_my_up (q_my_up y6 (by omega)) (by omega))
            rw [mW_up8 hW, mW_up4 (by rw [n6]; exact hp), if_neg (by omega), w6]
            unfold G_S2
            rw [s8]
            split
            · rfl
            · rfl
          by_cases c4 : F_cnt (mIn M4) W (M4 100 0).toNat < M4 103 (4 * W + 1)
          · rw [if_pos c4] at eo
            rw [eo, if_pos rfl] at fin
            have c5 : ¬M4 103 (4 * W + 1) ≤ F_cnt (mIn M4) W (M4 100 0).toNat := by omega
            simp (disch := omega) only [b_X6_turnOf_0, x_loadR_0, x_loadS_0, x_loadI_1, x_storeI_2, x_loadI_2, x_iconst, y_ic_ne_t, y_ic_ne_f, b_X6_turnOf_11, x_ret1_0, x_ret1_1, b_X6_turnOf_13, x_storeI_3, f_6_3, x_imul, y_iald_35, y_iald_40, f_6_4, x_isub, x_storeI_4, x_dup2, x_loadI_4, x_loadI_3, y_ic_le_t, y_ic_le_f, b_X6_turnOf_53, x_goto, b_X6_turnOf_57, x_ineg, y_ic_ge_t, y_ic_ge_f, b_X6_turnOf_64, b_X6_turnOf_69, b_X6_turnOf_71, x_iadd, y_iast_35, y_iast_40, b_X6_turnOf_92, y_if_ne_t, y_if_ne_f, b_X6_turnOf_101, b_X6_turnOf_103, y_if_eq_t, y_if_eq_f, b_X6_turnOf_111, x_storeI_5, x_loadI_5, q_isL_I, q_isL_R, q_isL_S, true_and, and_true, and_self, List.length_nil, List.length_cons, Nat.zero_add, x_K, x_Kn, Int.reduceToNat, Nat.reduceAdd, Nat.reduceMul, Nat.reduceLeDiff, Nat.reduceLT, Nat.zero_le, Int.reduceAdd, Int.reduceSub, Int.reduceMul, Int.reduceNeg, q_add_e, q_sub_e, q_mul_e, q_neg_e, q_upd_s, q_upd_n, zr_shr0, zr_shr1, zr_shr2, zr_shr3, zr_shr4, zr_and, zr_dyn8, zr_or, zr_shl, q_cpy_n, y_cpy26, c2, if_true, c_X6_isFullSite, mp_full, c5, if_false]
            exact fin M4 _ hl5 m4 w4 y4
          · rw [if_neg c4] at eo
            have c5 : M4 103 (4 * W + 1) ≤ F_cnt (mIn M4) W (M4 100 0).toNat := by omega
            have h7 := F_last_1 (mIn M4) (fun q => F_wants V (mW M4) q W) W (M4 100 0).toNat
            unfold F_takes at c3
            rw [if_neg c4] at c3
            have last : ∀ (nx : Nat) (ops : List Instr) (ls st : List q_V), (∀ M5 : q_M, q_mf M4 M5 → q_T 1 (d + 6) qP_X6_turnOf nx ops ls (qI (m_no (F_last (mIn M4) (fun q => F_wants V (mW M4) q W) W (M4 100 0).toNat)) :: st) g M5 Q) → q_S 1 (d + 5) 147 [qR 6 100, qI W] g M4 (q_K 1 (d + 6) qP_X6_turnOf nx ops ls st Q) := fun nx ops ls st h => mp_last m4 hW h
            simp (disch := omega) only [b_X6_turnOf_0, x_loadR_0, x_loadS_0, x_loadI_1, x_storeI_2, x_loadI_2, x_iconst, y_ic_ne_t, y_ic_ne_f, b_X6_turnOf_11, x_ret1_0, x_ret1_1, b_X6_turnOf_13, x_storeI_3, f_6_3, x_imul, y_iald_35, y_iald_40, f_6_4, x_isub, x_storeI_4, x_dup2, x_loadI_4, x_loadI_3, y_ic_le_t, y_ic_le_f, b_X6_turnOf_53, x_goto, b_X6_turnOf_57, x_ineg, y_ic_ge_t, y_ic_ge_f, b_X6_turnOf_64, b_X6_turnOf_69, b_X6_turnOf_71, x_iadd, y_iast_35, y_iast_40, b_X6_turnOf_92, y_if_ne_t, y_if_ne_f, b_X6_turnOf_101, b_X6_turnOf_103, y_if_eq_t, y_if_eq_f, b_X6_turnOf_111, x_storeI_5, x_loadI_5, q_isL_I, q_isL_R, q_isL_S, true_and, and_true, and_self, List.length_nil, List.length_cons, Nat.zero_add, x_K, x_Kn, Int.reduceToNat, Nat.reduceAdd, Nat.reduceMul, Nat.reduceLeDiff, Nat.reduceLT, Nat.zero_le, Int.reduceAdd, Int.reduceSub, Int.reduceMul, Int.reduceNeg, q_add_e, q_sub_e, q_mul_e, q_neg_e, q_upd_s, q_upd_n, zr_shr0, zr_shr1, zr_shr2, zr_shr3, zr_shr4, zr_and, zr_dyn8, zr_or, zr_shl, q_cpy_n, y_cpy26, c2, if_true, c_X6_isFullSite, mp_full, c5, c_X6_lastIn]
            refine last _ _ _ _ (fun M5 h5 => ?_)
            generalize F_last (mIn M4) (fun q => F_wants V (mW M4) q W) W (M4 100 0).toNat = F at c3 eo h7 ⊢
            by_cases c6 : F = 5
            · rw [if_pos c6] at c3
              exact absurd c3 (by decide)
            · have eF : m_no F = (F : Int) := if_neg c6
              have hF : F < 5 := by omega
              rw [eo, if_neg c6] at fin
              have iw : (if (F : Int) < 0 then (0 : Int) else if (4 : Int) < F then 4 else F) = F := by rw [if_neg (by omega), if_neg (by omega)]
              simp (disch := omega) only [b_X6_turnOf_0, x_loadR_0, x_loadS_0, x_loadI_1, x_storeI_2, x_loadI_2, x_iconst, y_ic_ne_t, y_ic_ne_f, b_X6_turnOf_11, x_ret1_0, x_ret1_1, b_X6_turnOf_13, x_storeI_3, f_6_3, x_imul, y_iald_35, y_iald_40, f_6_4, x_isub, x_storeI_4, x_dup2, x_loadI_4, x_loadI_3, y_ic_le_t, y_ic_le_f, b_X6_turnOf_53, x_goto, b_X6_turnOf_57, x_ineg, y_ic_ge_t, y_ic_ge_f, b_X6_turnOf_64, b_X6_turnOf_69, b_X6_turnOf_71, x_iadd, y_iast_35, y_iast_40, b_X6_turnOf_92, y_if_ne_t, y_if_ne_f, b_X6_turnOf_101, b_X6_turnOf_103, y_if_eq_t, y_if_eq_f, b_X6_turnOf_111, x_storeI_5, x_loadI_5, q_isL_I, q_isL_R, q_isL_S, true_and, and_true, and_self, List.length_nil, List.length_cons, Nat.zero_add, x_K, x_Kn, Int.reduceToNat, Nat.reduceAdd, Nat.reduceMul, Nat.reduceLeDiff, Nat.reduceLT, Nat.zero_le, Int.reduceAdd, Int.reduceSub, Int.reduceMul, Int.reduceNeg, q_add_e, q_sub_e, q_mul_e, q_neg_e, q_upd_s, q_upd_n, zr_shr0, zr_shr1, zr_shr2, zr_shr3, zr_shr4, zr_and, zr_dyn8, zr_or, zr_shl, q_cpy_n, y_cpy26, eF, c_X6_within, mp_within, iw, hl5, tn_32]
              have y5 : q_my M M5 := q_my_tr y4 (q_my_mf h5)
              have n5 : M5 100 0 = M 100 0 := y5 100 0 (by omega) (by omega) (by omega) (by omega)
              refine fin _ _ rfl (q_ml_up (q_mf_ml h5 m4) (q_ok4 (by omega)) (by omega) (by omega) (by omega)) ?_ (q_my_up y5 (by omega))
              rw [mW_up4 (by rw [n5, ← n4]; omega), if_pos rfl, q_mf_mW h5, w4]
        · rw [if_neg c2] at hq
          simp (disch := omega) only [b_X6_turnOf_0, x_loadR_0, x_loadS_0, x_loadI_1, x_storeI_2, x_loadI_2, x_iconst, y_ic_ne_t, y_ic_ne_f, b_X6_turnOf_11, x_ret1_0, x_ret1_1, b_X6_turnOf_13, x_storeI_3, f_6_3, x_imul, y_iald_35, y_iald_40, f_6_4, x_isub, x_storeI_4, x_dup2, x_loadI_4, x_loadI_3, y_ic_le_t, y_ic_le_f, b_X6_turnOf_53, x_goto, b_X6_turnOf_57, x_ineg, y_ic_ge_t, y_ic_ge_f, b_X6_turnOf_64, b_X6_turnOf_69, b_X6_turnOf_71, x_iadd, y_iast_35, y_iast_40, b_X6_turnOf_92, y_if_ne_t, y_if_ne_f, b_X6_turnOf_101, b_X6_turnOf_103, y_if_eq_t, y_if_eq_f, b_X6_turnOf_111, x_storeI_5, x_loadI_5, b_X6_turnOf_135, q_isL_I, q_isL_R, q_isL_S, true_and, and_true, and_self, List.length_nil, List.length_cons, Nat.zero_add, x_K, x_Kn, Int.reduceToNat, Nat.reduceAdd, Nat.reduceMul, Nat.reduceLeDiff, Nat.reduceLT, Nat.zero_le, Int.reduceAdd, Int.reduceSub, Int.reduceMul, Int.reduceNeg, q_add_e, q_sub_e, q_mul_e, q_neg_e, q_upd_s, q_upd_n, zr_shr0, zr_shr1, zr_shr2, zr_shr3, zr_shr4, zr_and, zr_dyn8, zr_or, zr_shl, q_cpy_n, y_cpy26, c2, Bool.false_eq_true, if_false]
          exact hq M4 (q_mf_ml h4 m3) ((q_mf_mW h4).trans w3) (q_my_tr y3 (q_my_mf h4))
      · rw [if_neg (show ¬mv = mW M 5 W by rw [eb]; exact c1)] at hq
        simp (disch := omega) only [b_X6_turnOf_0, x_loadR_0, x_loadS_0, x_loadI_1, x_storeI_2, x_loadI_2, x_iconst, y_ic_ne_t, y_ic_ne_f, b_X6_turnOf_11, x_ret1_0, x_ret1_1, b_X6_turnOf_13, x_storeI_3, f_6_3, x_imul, y_iald_35, y_iald_40, f_6_4, x_isub, x_storeI_4, x_dup2, x_loadI_4, x_loadI_3, y_ic_le_t, y_ic_le_f, b_X6_turnOf_53, x_goto, b_X6_turnOf_57, x_ineg, y_ic_ge_t, y_ic_ge_f, b_X6_turnOf_64, b_X6_turnOf_69, b_X6_turnOf_71, x_iadd, y_iast_35, y_iast_40, b_X6_turnOf_92, y_if_ne_t, y_if_ne_f, b_X6_turnOf_101, b_X6_turnOf_103, y_if_eq_t, y_if_eq_f, b_X6_turnOf_111, x_storeI_5, x_loadI_5, b_X6_turnOf_135, q_isL_I, q_isL_R, q_isL_S, true_and, and_true, and_self, List.length_nil, List.length_cons, Nat.zero_add, x_K, x_Kn, Int.reduceToNat, Nat.reduceAdd, Nat.reduceMul, Nat.reduceLeDiff, Nat.reduceLT, Nat.zero_le, Int.reduceAdd, Int.reduceSub, Int.reduceMul, Int.reduceNeg, q_add_e, q_sub_e, q_mul_e, q_neg_e, q_upd_s, q_upd_n, zr_shr0, zr_shr1, zr_shr2, zr_shr3, zr_shr4, zr_and, zr_dyn8, zr_or, zr_shl, q_cpy_n, y_cpy26, Int.toNat_natCast, tn_30, tn_40, hde, hM3, s3, b3]
        exact hq M3 m3 w3 y3
    rw [emv] at key
    by_cases c1 : F_goes V (mW M) p < M2 103 (4 * W) - M2 104 (3 * p)
    · rw [if_neg (by omega), if_pos c1] at key
      simp (disch := omega) only [b_X6_turnOf_0, x_loadR_0, x_loadS_0, x_loadI_1, x_storeI_2, x_loadI_2, x_iconst, y_ic_ne_t, y_ic_ne_f, b_X6_turnOf_11, x_ret1_0, x_ret1_1, b_X6_turnOf_13, x_storeI_3, f_6_3, x_imul, y_iald_35, y_iald_40, f_6_4, x_isub, x_storeI_4, x_dup2, x_loadI_4, x_loadI_3, y_ic_le_t, y_ic_le_f, b_X6_turnOf_53, x_goto, b_X6_turnOf_57, x_ineg, y_ic_ge_t, y_ic_ge_f, b_X6_turnOf_64, b_X6_turnOf_69, x_iadd, y_iast_35, y_iast_40, b_X6_turnOf_92, y_if_ne_t, y_if_ne_f, b_X6_turnOf_101, b_X6_turnOf_103, y_if_eq_t, y_if_eq_f, b_X6_turnOf_111, x_storeI_5, x_loadI_5, b_X6_turnOf_135, q_isL_I, q_isL_R, q_isL_S, true_and, and_true, and_self, List.length_nil, List.length_cons, Nat.zero_add, x_K, x_Kn, Int.reduceToNat, Nat.reduceAdd, Nat.reduceMul, Nat.reduceLeDiff, Nat.reduceLT, Nat.zero_le, Int.reduceAdd, Int.reduceSub, Int.reduceMul, Int.reduceNeg, q_add_e, q_sub_e, q_mul_e, q_neg_e, q_upd_s, q_upd_n, zr_shr0, zr_shr1, zr_shr2, zr_shr3, zr_shr4, zr_and, zr_dyn8, zr_or, zr_shl, q_cpy_n, y_cpy26, Int.toNat_natCast, tn_30, tn_40]
      exact key _ _ rfl rfl
    · by_cases c2 : M2 103 (4 * W) - M2 104 (3 * p) < -F_goes V (mW M) p
      · rw [if_pos c2] at key
        simp (disch := omega) only [b_X6_turnOf_0, x_loadR_0, x_loadS_0, x_loadI_1, x_storeI_2, x_loadI_2, x_iconst, y_ic_ne_t, y_ic_ne_f, b_X6_turnOf_11, x_ret1_0, x_ret1_1, b_X6_turnOf_13, x_storeI_3, f_6_3, x_imul, y_iald_35, y_iald_40, f_6_4, x_isub, x_storeI_4, x_dup2, x_loadI_4, x_loadI_3, y_ic_le_t, y_ic_le_f, b_X6_turnOf_53, x_goto, b_X6_turnOf_57, x_ineg, y_ic_ge_t, y_ic_ge_f, b_X6_turnOf_64, b_X6_turnOf_69, x_iadd, y_iast_35, y_iast_40, b_X6_turnOf_92, y_if_ne_t, y_if_ne_f, b_X6_turnOf_101, b_X6_turnOf_103, y_if_eq_t, y_if_eq_f, b_X6_turnOf_111, x_storeI_5, x_loadI_5, b_X6_turnOf_135, q_isL_I, q_isL_R, q_isL_S, true_and, and_true, and_self, List.length_nil, List.length_cons, Nat.zero_add, x_K, x_Kn, Int.reduceToNat, Nat.reduceAdd, Nat.reduceMul, Nat.reduceLeDiff, Nat.reduceLT, Nat.zero_le, Int.reduceAdd, Int.reduceSub, Int.reduceMul, Int.reduceNeg, q_add_e, q_sub_e, q_mul_e, q_neg_e, q_upd_s, q_upd_n, zr_shr0, zr_shr1, zr_shr2, zr_shr3, zr_shr4, zr_and, zr_dyn8, zr_or, zr_shl, q_cpy_n, y_cpy26, Int.toNat_natCast, tn_30, tn_40]
        exact key _ _ rfl (by omega)
      · rw [if_neg c2, if_neg c1] at key
        simp (disch := omega) only [b_X6_turnOf_0, x_loadR_0, x_loadS_0, x_loadI_1, x_storeI_2, x_loadI_2, x_iconst, y_ic_ne_t, y_ic_ne_f, b_X6_turnOf_11, x_ret1_0, x_ret1_1, b_X6_turnOf_13, x_storeI_3, f_6_3, x_imul, y_iald_35, y_iald_40, f_6_4, x_isub, x_storeI_4, x_dup2, x_loadI_4, x_loadI_3, y_ic_le_t, y_ic_le_f, b_X6_turnOf_53, x_goto, b_X6_turnOf_57, x_ineg, y_ic_ge_t, y_ic_ge_f, b_X6_turnOf_64, b_X6_turnOf_69, x_iadd, y_iast_35, y_iast_40, b_X6_turnOf_92, y_if_ne_t, y_if_ne_f, b_X6_turnOf_101, b_X6_turnOf_103, y_if_eq_t, y_if_eq_f, b_X6_turnOf_111, x_storeI_5, x_loadI_5, b_X6_turnOf_135, q_isL_I, q_isL_R, q_isL_S, true_and, and_true, and_self, List.length_nil, List.length_cons, Nat.zero_add, x_K, x_Kn, Int.reduceToNat, Nat.reduceAdd, Nat.reduceMul, Nat.reduceLeDiff, Nat.reduceLT, Nat.zero_le, Int.reduceAdd, Int.reduceSub, Int.reduceMul, Int.reduceNeg, q_add_e, q_sub_e, q_mul_e, q_neg_e, q_upd_s, q_upd_n, zr_shr0, zr_shr1, zr_shr2, zr_shr3, zr_shr4, zr_and, zr_dyn8, zr_or, zr_shl, q_cpy_n, y_cpy26, Int.toNat_natCast, tn_30, tn_40]
        exact key _ _ rfl (by omega)
  · subst hW
    rw [if_pos rfl] at hq
    simp (disch := omega) only [b_X6_turnOf_0, x_loadR_0, x_loadS_0, x_loadI_1, x_storeI_2, x_loadI_2, x_iconst, y_ic_ne_t, y_ic_ne_f, b_X6_turnOf_11, x_ret1_0, x_ret1_1, b_X6_turnOf_13, x_storeI_3, f_6_3, x_imul, y_iald_35, y_iald_40, f_6_4, x_isub, x_storeI_4, x_dup2, x_loadI_4, x_loadI_3, y_ic_le_t, y_ic_le_f, b_X6_turnOf_53, x_goto, b_X6_turnOf_57, x_ineg, y_ic_ge_t, y_ic_ge_f, b_X6_turnOf_64, b_X6_turnOf_69, b_X6_turnOf_71, x_iadd, y_iast_35, y_iast_40, b_X6_turnOf_92, y_if_ne_t, y_if_ne_f, b_X6_turnOf_101, b_X6_turnOf_103, y_if_eq_t, y_if_eq_f, b_X6_turnOf_111, x_storeI_5, x_loadI_5, b_X6_turnOf_135, q_isL_I, q_isL_R, q_isL_S, true_and, and_true, and_self, List.length_nil, List.length_cons, Nat.zero_add, x_K, x_Kn, Int.reduceToNat, Nat.reduceAdd, Nat.reduceMul, Nat.reduceLeDiff, Nat.reduceLT, Nat.zero_le, Int.reduceAdd, Int.reduceSub, Int.reduceMul, Int.reduceNeg, q_add_e, q_sub_e, q_mul_e, q_neg_e, q_upd_s, q_upd_n, zr_shr0, zr_shr1, zr_shr2, zr_shr3, zr_shr4, zr_and, zr_dyn8, zr_or, zr_shl, q_cpy_n, y_cpy26, m_no, if_true]
    exact hq M1 (q_mf_ml h1 hm) (q_mf_mW h1) (q_my_mf h1)
end
section
/-! THE MODEL: a year; what is thought is laid back -/
def q_mz (M M2 : q_M) : Prop := ∀ a i, a ≠ 116 → a ≠ 117 → (a = 104 → 15 ≤ i) → (a = 103 → 20 ≤ i) → (a = 100 → i ≠ 5) → M2 a i = M a i
set_option maxHeartbeats 4000000 in
theorem mp_year {V : Nat → (Nat → Int) → Int} {d : Nat} {g : q_G} {M : q_M} {Q : Option q_V → q_G → q_M → Prop} (hm : q_ml V M) (hy : M 100 5 < 2000) (hq : ∀ M2 : q_M, q_ml V M2 → mW M2 = (G_year V (mW M)).2 → q_mz M M2 → Q (some (qI (G_year V (mW M)).1)) g M2) : q_S 1 (d + 7) 151 [qR 6 100] g M Q := by
  have n0 := hm.1.1
  have y0 := hm.1.2.1
  have hFn : F_n (mW M) = (M 100 0).toNat := rfl
  rw [s_X6_yearOf]
  have loop : ∀ j p : Nat, p + j = (M 100 0).toNat → ∀ M1 : q_M, q_ml V M1 → mW M1 = (G_yr V (mW M) p).2 → q_my M M1 → q_T 1 (d + 7) qP_X6_yearOf 4 [] [qR 6 100, qI (G_yr V (mW M) p).1, qI p] [] g M1 Q := by
    intro j
    induction j with
    | zero =>
      intro p hp M1 m1 w1 f1
      have e : p = (M 100 0).toNat := by omega
      have e0 : M1 100 0 = M 100 0 := f1 _ _ (by omega) (by omega) (by omega) (by omega)
      have e5 : M1 100 5 = M 100 5 := f1 _ _ (by omega) (by omega) (by omega) (by omega)
      have hq2 := hq (q_upd M1 100 5 (M 100 5 + 1)) (q_ml_up m1 (q_ok9 (by omega)) (by omega) (by omega) (by omega))
      unfold G_year at hq2
      rw [hFn, ← e, mW_91] at hq2
      rw [b_X6_yearOf_4]
      simp (disch := omega) only [b_X6_yearOf_0, x_iconst, x_storeI_1, x_storeI_2, x_loadI_2, x_loadR_0, x_loadS_0, f_6_0, y_ic_ge_t, y_ic_ge_f, b_X6_yearOf_12, f_6_4, x_imul, x_iadd, y_iald_35, y_ic_ne_t, y_ic_ne_f, b_X6_yearOf_26, x_loadI_1, y_if_eq_t, y_if_eq_f, b_X6_yearOf_35, x_ishl, x_goto, b_X6_yearOf_41, b_X6_yearOf_42, x_ior, b_X6_yearOf_44, x_iinc_2, b_X6_yearOf_50, x_dupI, x_dupR, f_6_5, p_6_5, x_ret0, q_isL_I, q_isL_R, q_isL_S, true_and, and_true, and_self, List.length_nil, List.length_cons, Nat.zero_add, x_K, x_Kn, Int.reduceToNat, Nat.reduceAdd, Nat.reduceMul, Nat.reduceLeDiff, Nat.reduceLT, Nat.zero_le, Int.reduceAdd, Int.reduceSub, Int.reduceMul, Int.reduceNeg, q_add_e, q_sub_e, q_mul_e, q_neg_e, q_upd_s, q_upd_n, zr_shr0, zr_shr1, zr_shr2, zr_shr3, zr_shr4, zr_and, zr_dyn8, zr_or, zr_shl, q_cpy_n, y_cpy26, e5]
      refine hq2 (by rw [mW_up9, w1]) (fun a i h1 h2 h3 h4 h5 => ?_)
      rw [q_upd_n (by omega)]
      exact f1 a i h1 h2 h3 h4
    | succ j ih =>
      intro p hp M1 m1 w1 f1
      have e0 : M1 100 0 = M 100 0 := f1 _ _ (by omega) (by omega) (by omega) (by omega)
      have hp1 : p < (M1 100 0).toNat := by rw [e0]; omega
      have ih2 := ih (p + 1) (by omega)
      rw [G_yr] at ih2
      have hin : mW M1 4 p = mIn M1 p := mW_4 hp1
      have rin := m1.1.2.2.2.2.2.2.1 p (by omega)
      generalize G_yr V (mW M) p = R at w1 ih2 ⊢
      rw [← w1, hin] at ih2
      rw [b_X6_yearOf_4]
      by_cases c : M1 104 (3 * p + 2) = -1
      · rw [if_pos (show mIn M1 p = 5 from if_pos c)] at ih2
        have turn : ∀ (nx : Nat) (ops : List Instr) (ls st : List q_V), (∀ M2 : q_M, q_ml V M2 → mW M2 = (G_turn V (mW M1) p).2 → q_my M1 M2 → q_T 1 (d + 7) qP_X6_yearOf nx ops ls (qI (if (G_turn V (mW M1) p).1 = true then 1 else 0) :: st) g M2 Q) → q_S 1 (d + 6) 150 [qR 6 100, qI p] g M1 (q_K 1 (d + 7) qP_X6_yearOf nx ops ls st Q) := fun nx ops ls st h => mp_turn m1 hp1 c h
        simp (disch := omega) only [b_X6_yearOf_0, x_iconst, x_storeI_1, x_storeI_2, x_loadI_2, x_loadR_0, x_loadS_0, f_6_0, y_ic_ge_t, y_ic_ge_f, b_X6_yearOf_12, f_6_4, x_imul, x_iadd, y_iald_35, y_ic_ne_t, y_ic_ne_f, b_X6_yearOf_26, x_loadI_1, y_if_eq_t, y_if_eq_f, b_X6_yearOf_35, x_ishl, x_goto, b_X6_yearOf_41, b_X6_yearOf_42, x_ior, b_X6_yearOf_44, x_iinc_2, b_X6_yearOf_50, x_dupI, x_dupR, f_6_5, p_6_5, x_ret0, q_isL_I, q_isL_R, q_isL_S, true_and, and_true, and_self, List.length_nil, List.length_cons, Nat.zero_add, x_K, x_Kn, Int.reduceToNat, Nat.reduceAdd, Nat.reduceMul, Nat.reduceLeDiff, Nat.reduceLT, Nat.zero_le, Int.reduceAdd, Int.reduceSub, Int.reduceMul, Int.reduceNeg, q_add_e, q_sub_e, q_mul_e, q_neg_e, q_upd_s, q_upd_n, zr_shr0, zr_shr1, zr_shr2, zr_shr3, zr_shr4, zr_and, zr_dyn8, zr_or, zr_shl, q_cpy_n, y_cpy26, Int.toNat_natCast, tn_32, c_X6_turnOf]
        refine turn _ _ _ _ (fun M2 m2 w2 f2 => ?_)
        by_cases c2 : (G_turn V (mW M1) p).1 = true
        · rw [if_pos c2] at ih2
          simp (disch := omega) only [b_X6_yearOf_0, x_iconst, x_storeI_1, x_storeI_2, x_loadI_2, x_loadR_0, x_loadS_0, f_6_0, y_ic_ge_t, y_ic_ge_f, b_X6_yearOf_12, f_6_4, x_imul, x_iadd, y_iald_35, y_ic_ne_t, y_ic_ne_f, b_X6_yearOf_26, x_loadI_1, y_if_eq_t, y_if_eq_f, b_X6_yearOf_35, x_ishl, x_goto, b_X6_yearOf_41, b_X6_yearOf_42, x_ior, b_X6_yearOf_44, x_iinc_2, b_X6_yearOf_50, x_dupI, x_dupR, f_6_5, p_6_5, x_ret0, q_isL_I, q_isL_R, q_isL_S, true_and, and_true, and_self, List.length_nil, List.length_cons, Nat.zero_add, x_K, x_Kn, Int.reduceToNat, Nat.reduceAdd, Nat.reduceMul, Nat.reduceLeDiff, Nat.reduceLT, Nat.zero_le, Int.reduceAdd, Int.reduceSub, Int.reduceMul, Int.reduceNeg, q_add_e, q_sub_e, q_mul_e, q_neg_e, q_upd_s, q_upd_n, zr_shr0, zr_shr1, zr_shr2, zr_shr3, zr_shr4, zr_and, zr_dyn8, zr_or, zr_shl, q_cpy_n, y_cpy26, c2, if_true]
          exact ih2 M2 m2 w2 (q_my_tr f1 f2)
        · rw [if_neg c2] at ih2
          simp (disch := omega) only [b_X6_yearOf_0, x_iconst, x_storeI_1, x_storeI_2, x_loadI_2, x_loadR_0, x_loadS_0, f_6_0, y_ic_ge_t, y_ic_ge_f, b_X6_yearOf_12, f_6_4, x_imul, x_iadd, y_iald_35, y_ic_ne_t, y_ic_ne_f, b_X6_yearOf_26, x_loadI_1, y_if_eq_t, y_if_eq_f, b_X6_yearOf_35, x_ishl, x_goto, b_X6_yearOf_41, b_X6_yearOf_42, x_ior, b_X6_yearOf_44, x_iinc_2, b_X6_yearOf_50, x_dupI, x_dupR, f_6_5, p_6_5, x_ret0, q_isL_I, q_isL_R, q_isL_S, true_and, and_true, and_self, List.length_nil, List.length_cons, Nat.zero_add, x_K, x_Kn, Int.reduceToNat, Nat.reduceAdd, Nat.reduceMul, Nat.reduceLeDiff, Nat.reduceLT, Nat.zero_le, Int.reduceAdd, Int.reduceSub, Int.reduceMul, Int.reduceNeg, q_add_e, q_sub_e, q_mul_e, q_neg_e, q_upd_s, q_upd_n, zr_shr0, zr_shr1, zr_shr2, zr_shr3, zr_shr4, zr_and, zr_dyn8, zr_or, zr_shl, q_cpy_n, y_cpy26, c2, Bool.false_eq_true, if_false]
          exact ih2 M2 m2 w2 (q_my_tr f1 f2)
      · rw [if_neg (show ¬mIn M1 p = 5 by unfold mIn; rw [if_neg c]; omega)] at ih2
        simp (disch := omega) only [b_X6_yearOf_0, x_iconst, x_storeI_1, x_storeI_2, x_loadI_2, x_loadR_0, x_loadS_0, f_6_0, y_ic_ge_t, y_ic_ge_f, b_X6_yearOf_12, f_6_4, x_imul, x_iadd, y_iald_35, y_ic_ne_t, y_ic_ne_f, b_X6_yearOf_26, x_loadI_1, y_if_eq_t, y_if_eq_f, b_X6_yearOf_35, x_ishl, x_goto, b_X6_yearOf_41, b_X6_yearOf_42, x_ior, b_X6_yearOf_44, x_iinc_2, b_X6_yearOf_50, x_dupI, x_dupR, f_6_5, p_6_5, x_ret0, q_isL_I, q_isL_R, q_isL_S, true_and, and_true, and_self, List.length_nil, List.length_cons, Nat.zero_add, x_K, x_Kn, Int.reduceToNat, Nat.reduceAdd, Nat.reduceMul, Nat.reduceLeDiff, Nat.reduceLT, Nat.zero_le, Int.reduceAdd, Int.reduceSub, Int.reduceMul, Int.reduceNeg, q_add_e, q_sub_e, q_mul_e, q_neg_e, q_upd_s, q_upd_n, zr_shr0, zr_shr1, zr_shr2, zr_shr3, zr_shr4, zr_and, zr_dyn8, zr_or, zr_shl, q_cpy_n, y_cpy26, Int.toNat_natCast, tn_32]
        exact ih2 M1 m1 w1 f1
  simp (disch := omega) only [b_X6_yearOf_0, x_iconst, x_storeI_1, x_storeI_2, x_loadI_2, x_loadR_0, x_loadS_0, f_6_0, y_ic_ge_t, y_ic_ge_f, b_X6_yearOf_12, f_6_4, x_imul, x_iadd, y_iald_35, y_ic_ne_t, y_ic_ne_f, b_X6_yearOf_26, x_loadI_1, y_if_eq_t, y_if_eq_f, b_X6_yearOf_35, x_ishl, x_goto, b_X6_yearOf_41, b_X6_yearOf_42, x_ior, b_X6_yearOf_44, x_iinc_2, b_X6_yearOf_50, x_dupI, x_dupR, f_6_5, p_6_5, x_ret0, q_isL_I, q_isL_R, q_isL_S, true_and, and_true, and_self, List.length_nil, List.length_cons, Nat.zero_add, x_K, x_Kn, Int.reduceToNat, Nat.reduceAdd, Nat.reduceMul, Nat.reduceLeDiff, Nat.reduceLT, Nat.zero_le, Int.reduceAdd, Int.reduceSub, Int.reduceMul, Int.reduceNeg, q_add_e, q_sub_e, q_mul_e, q_neg_e, q_upd_s, q_upd_n, zr_shr0, zr_shr1, zr_shr2, zr_shr3, zr_shr4, zr_and, zr_dyn8, zr_or, zr_shl, q_cpy_n, y_cpy26]
  exact loop (M 100 0).toNat 0 (by omega) M hm rfl q_my_rf
/-- the cells that hold what is laid back -/
def q_kp (M M2 : q_M) : Prop := (∀ i, i < 15 → M2 118 i = M 104 i) ∧ (∀ i, i < 20 → M2 118 (15 + i) = M 103 i) ∧ M2 118 35 = M 100 5
/-- a thought on M, all but its own cells as before -/
def q_mt (M M2 : q_M) : Prop := q_kp M M2 ∧ ∀ a i, (a < 116 ∨ 124 ≤ a) → (a = 104 → 15 ≤ i) → (a = 103 → 20 ≤ i) → (a = 100 → i ≠ 5 ∧ i ≠ 36) → M2 a i = M a i
theorem q_mt_mz {M M2 M3 : q_M} (h : q_mt M M2) (h2 : q_mz M2 M3) : q_mt M M3 := by
  obtain ⟨⟨k1, k2, k3⟩, h3⟩ := h
  refine ⟨⟨fun i hi => (h2 118 i (by omega) (by omega) (by omega) (by omega) (by omega)).trans (k1 i hi), fun i hi => (h2 118 _ (by omega) (by omega) (by omega) (by omega) (by omega)).trans (k2 i hi), (h2 118 35 (by omega) (by omega) (by omega) (by omega) (by omega)).trans k3⟩, fun a i q1 q2 q3 q4 => (h2 a i (by omega) (by omega) q2 q3 (fun e => (q4 e).1)).trans (h3 a i q1 q2 q3 q4)⟩
/-- what a question leaves in the model -/
def q_mq (M M2 : q_M) : Prop := ∀ a i, (a < 116 ∨ 124 ≤ a) → (a = 100 → i ≠ 36) → M2 a i = M a i
theorem q_mq_rf {M : q_M} : q_mq M M := fun _ _ _ _ => rfl
theorem q_mq_tr {M M2 M3 : q_M} (h : q_mq M M2) (h2 : q_mq M2 M3) : q_mq M M3 := fun a i h3 h4 => (h2 a i h3 h4).trans (h a i h3 h4)
theorem q_mq_mf {M M2 : q_M} (h : q_mf M M2) : q_mq M M2 := fun a i h1 _ => h a i (by omega) (by omega)
theorem q_mq_ml {V : Nat → (Nat → Int) → Int} {M M2 : q_M} (h : q_mq M M2) (hm : q_ml V M) : q_ml V M2 := q_ml_same (fun a i ha => h a i (by omega) (by omega)) hm
theorem q_mq_mW {M M2 : q_M} (h : q_mq M M2) : mW M2 = mW M := mW_same (fun a i ha => h a i (by omega) (by omega))
set_option maxHeartbeats 4000000 in
theorem mp_keeps {d : Nat} {g : q_G} {M M0 : q_M} {Q : Option q_V → q_G → q_M → Prop} (h0 : q_mq M0 M) (hq : ∀ M2 : q_M, q_mt M0 M2 → q_mq M M2 → Q none g M2) : q_S 1 d 154 [qR 6 100] g M Q := by
  rw [s_X6_keeps]
  have l2 : ∀ j k : Nat, k + j = 20 → ∀ M1 : q_M, (∀ a i, a ≠ 118 → M1 a i = M a i) → (∀ i, i < 15 → M1 118 i = M 104 i) → (∀ i, i < k → M1 118 (15 + i) = M 103 i) → q_T 1 d qP_X6_keeps 28 [] [qR 6 100, qI k] [] g M1 Q := by
    intro j
    induction j with
    | zero =>
      intro k hk M1 f1 a1 a2
      have e : k = 20 := by omega
      subst e
      rw [b_X6_keeps_28]
      simp (disch := omega) only [b_X6_keeps_0, x_iconst, x_storeI_1, x_loadI_1, y_ic_ge_t, y_ic_ge_f, b_X6_keeps_8, x_loadR_0, x_loadS_0, f_6_30, f_6_4, y_iald_35, y_iald_40, y_iald_56, y_iast_35, y_iast_40, y_iast_56, x_iinc_1, x_goto, b_X6_keeps_26, b_X6_keeps_34, x_iadd, f_6_3, b_X6_keeps_55, f_6_5, x_vret, q_isL_I, q_isL_R, q_isL_S, true_and, and_true, and_self, List.length_nil, List.length_cons, Nat.zero_add, x_K, x_Kn, Int.reduceToNat, Nat.reduceAdd, Nat.reduceMul, Nat.reduceLeDiff, Nat.reduceLT, Nat.zero_le, Int.reduceAdd, Int.reduceSub, Int.reduceMul, Int.reduceNeg, q_add_e, q_sub_e, q_mul_e, q_neg_e, q_upd_s, q_upd_n, zr_shr0, zr_shr1, zr_shr2, zr_shr3, zr_shr4, zr_and, zr_dyn8, zr_or, zr_shl, q_cpy_n, y_cpy26]
      have f2 : ∀ a i, a ≠ 118 → q_upd M1 118 35 (M1 100 5) a i = M a i := fun a i ha => (q_upd_n (by omega)).trans (f1 a i ha)
      refine hq _ ⟨⟨fun i hi => ?_, fun i hi => ?_, ?_⟩, fun a i q1 q2 q3 q4 => (f2 a i (by omega)).trans (h0 a i q1 (fun e => (q4 e).2))⟩ (fun a i q1 q2 => f2 a i (by omega))
      · rw [q_upd_n (by omega), a1 i hi]
        exact h0 104 i (by omega) (by omega)
      · rw [q_upd_n (by omega), a2 i hi]
        exact h0 103 i (by omega) (by omega)
      · rw [q_upd_s, f1 100 5 (by omega)]
        exact h0 100 5 (by omega) (by omega)
    | succ j ih =>
      intro k hk M1 f1 a1 a2
      have t1 : ((15 : Int) + k).toNat = 15 + k := by omega
      rw [b_X6_keeps_28]
      simp (disch := omega) only [b_X6_keeps_0, x_iconst, x_storeI_1, x_loadI_1, y_ic_ge_t, y_ic_ge_f, b_X6_keeps_8, x_loadR_0, x_loadS_0, f_6_30, f_6_4, y_iald_35, y_iald_40, y_iald_56, y_iast_35, y_iast_40, y_iast_56, x_iinc_1, x_goto, b_X6_keeps_26, b_X6_keeps_34, x_iadd, f_6_3, b_X6_keeps_55, f_6_5, x_vret, q_isL_I, q_isL_R, q_isL_S, true_and, and_true, and_self, List.length_nil, List.length_cons, Nat.zero_add, x_K, x_Kn, Int.reduceToNat, Nat.reduceAdd, Nat.reduceMul, Nat.reduceLeDiff, Nat.reduceLT, Nat.zero_le, Int.reduceAdd, Int.reduceSub, Int.reduceMul, Int.reduceNeg, q_add_e, q_sub_e, q_mul_e, q_neg_e, q_upd_s, q_upd_n, zr_shr0, zr_shr1, zr_shr2, zr_shr3, zr_shr4, zr_and, zr_dyn8, zr_or, zr_shl, q_cpy_n, y_cpy26, Int.toNat_natCast, t1]
      refine ih (k + 1) (by omega) _ (fun a i ha => (q_upd_n (by omega)).trans (f1 a i ha)) (fun i hi => (q_upd_n (by omega)).trans (a1 i hi)) (fun i hi => ?_)
      by_cases e : i = k
      · subst e
        rw [q_upd_s]
        exact f1 103 i (by omega)
      · rw [q_upd_n (by omega)]
        exact a2 i (by omega)
  have l1 : ∀ j k : Nat, k + j = 15 → ∀ M1 : q_M, (∀ a i, a ≠ 118 → M1 a i = M a i) → (∀ i, i < k → M1 118 i = M 104 i) → q_T 1 d qP_X6_keeps 2 [] [qR 6 100, qI k] [] g M1 Q := by
    intro j
    induction j with
    | zero =>
      intro k hk M1 f1 a1
      have e : k = 15 := by omega
      subst e
      rw [b_X6_keeps_2]
      simp (disch := omega) only [b_X6_keeps_0, x_iconst, x_storeI_1, x_loadI_1, y_ic_ge_t, y_ic_ge_f, b_X6_keeps_8, x_loadR_0, x_loadS_0, f_6_30, f_6_4, y_iald_35, y_iald_40, y_iald_56, y_iast_35, y_iast_40, y_iast_56, x_iinc_1, x_goto, b_X6_keeps_26, b_X6_keeps_34, x_iadd, f_6_3, b_X6_keeps_55, f_6_5, x_vret, q_isL_I, q_isL_R, q_isL_S, true_and, and_true, and_self, List.length_nil, List.length_cons, Nat.zero_add, x_K, x_Kn, Int.reduceToNat, Nat.reduceAdd, Nat.reduceMul, Nat.reduceLeDiff, Nat.reduceLT, Nat.zero_le, Int.reduceAdd, Int.reduceSub, Int.reduceMul, Int.reduceNeg, q_add_e, q_sub_e, q_mul_e, q_neg_e, q_upd_s, q_upd_n, zr_shr0, zr_shr1, zr_shr2, zr_shr3, zr_shr4, zr_and, zr_dyn8, zr_or, zr_shl, q_cpy_n, y_cpy26]
      exact l2 20 0 rfl M1 f1 a1 (fun i hi => absurd hi (Nat.not_lt_zero i))
    | succ j ih =>
      intro k hk M1 f1 a1
      rw [b_X6_keeps_2]
      simp (disch := omega) only [b_X6_keeps_0, x_iconst, x_storeI_1, x_loadI_1, y_ic_ge_t, y_ic_ge_f, b_X6_keeps_8, x_loadR_0, x_loadS_0, f_6_30, f_6_4, y_iald_35, y_iald_40, y_iald_56, y_iast_35, y_iast_40, y_iast_56, x_iinc_1, x_goto, b_X6_keeps_26, b_X6_keeps_34, x_iadd, f_6_3, b_X6_keeps_55, f_6_5, x_vret, q_isL_I, q_isL_R, q_isL_S, true_and, and_true, and_self, List.length_nil, List.length_cons, Nat.zero_add, x_K, x_Kn, Int.reduceToNat, Nat.reduceAdd, Nat.reduceMul, Nat.reduceLeDiff, Nat.reduceLT, Nat.zero_le, Int.reduceAdd, Int.reduceSub, Int.reduceMul, Int.reduceNeg, q_add_e, q_sub_e, q_mul_e, q_neg_e, q_upd_s, q_upd_n, zr_shr0, zr_shr1, zr_shr2, zr_shr3, zr_shr4, zr_and, zr_dyn8, zr_or, zr_shl, q_cpy_n, y_cpy26, Int.toNat_natCast]
      refine ih (k + 1) (by omega) _ (fun a i ha => (q_upd_n (by omega)).trans (f1 a i ha)) (fun i hi => ?_)
      by_cases e : i = k
      · subst e
        rw [q_upd_s]
        exact f1 104 i (by omega)
      · rw [q_upd_n (by omega)]
        exact a1 i (by omega)
  simp (disch := omega) only [b_X6_keeps_0, x_iconst, x_storeI_1, x_loadI_1, y_ic_ge_t, y_ic_ge_f, b_X6_keeps_8, x_loadR_0, x_loadS_0, f_6_30, f_6_4, y_iald_35, y_iald_40, y_iald_56, y_iast_35, y_iast_40, y_iast_56, x_iinc_1, x_goto, b_X6_keeps_26, b_X6_keeps_34, x_iadd, f_6_3, b_X6_keeps_55, f_6_5, x_vret, q_isL_I, q_isL_R, q_isL_S, true_and, and_true, and_self, List.length_nil, List.length_cons, Nat.zero_add, x_K, x_Kn, Int.reduceToNat, Nat.reduceAdd, Nat.reduceMul, Nat.reduceLeDiff, Nat.reduceLT, Nat.zero_le, Int.reduceAdd, Int.reduceSub, Int.reduceMul, Int.reduceNeg, q_add_e, q_sub_e, q_mul_e, q_neg_e, q_upd_s, q_upd_n, zr_shr0, zr_shr1, zr_shr2, zr_shr3, zr_shr4, zr_and, zr_dyn8, zr_or, zr_shl, q_cpy_n, y_cpy26]
  exact l1 15 0 rfl M (fun _ _ _ => rfl) (fun i hi => absurd hi (Nat.not_lt_zero i))
set_option maxHeartbeats 4000000 in
theorem mp_lays {d : Nat} {g : q_G} {M M0 : q_M} {Q : Option q_V → q_G → q_M → Prop} (ht : q_mt M0 M) (hq : ∀ M2 : q_M, q_mq M0 M2 → (M2 100 36 = M 100 36) → (∀ i, M2 118 i = M 118 i) → Q none g M2) : q_S 1 d 155 [qR 6 100] g M Q := by
  obtain ⟨⟨k1, k2, k3⟩, h3⟩ := ht
  rw [s_X6_lays]
  have l2 : ∀ j k : Nat, k + j = 20 → ∀ M1 : q_M, (∀ a i, (a = 104 → 15 ≤ i) → (a = 103 → 20 ≤ i) → M1 a i = M a i) → (∀ i, i < 15 → M1 104 i = M0 104 i) → (∀ i, i < k → M1 103 i = M0 103 i) → q_T 1 d qP_X6_lays 28 [] [qR 6 100, qI k] [] g M1 Q := by
    intro j
    induction j with
    | zero =>
      intro k hk M1 f1 a1 a2
      have e : k = 20 := by omega
      subst e
      have e35 : M1 118 35 = M0 100 5 := (f1 118 35 (by omega) (by omega)).trans k3
      rw [b_X6_lays_28]
      simp (disch := omega) only [b_X6_lays_0, x_iconst, x_storeI_1, x_loadI_1, y_ic_ge_t, y_ic_ge_f, b_X6_lays_8, x_loadR_0, x_loadS_0, f_6_4, f_6_30, y_iald_35, y_iald_40, y_iald_56, y_iast_35, y_iast_40, y_iast_56, x_iinc_1, x_goto, b_X6_lays_26, b_X6_lays_34, f_6_3, x_iadd, b_X6_lays_55, p_6_5, x_vret, q_isL_I, q_isL_R, q_isL_S, true_and, and_true, and_self, List.length_nil, List.length_cons, Nat.zero_add, x_K, x_Kn, Int.reduceToNat, Nat.reduceAdd, Nat.reduceMul, Nat.reduceLeDiff, Nat.reduceLT, Nat.zero_le, Int.reduceAdd, Int.reduceSub, Int.reduceMul, Int.reduceNeg, q_add_e, q_sub_e, q_mul_e, q_neg_e, q_upd_s, q_upd_n, zr_shr0, zr_shr1, zr_shr2, zr_shr3, zr_shr4, zr_and, zr_dyn8, zr_or, zr_shl, q_cpy_n, y_cpy26, e35]
      refine hq _ (fun a i q1 q2 => ?_) ?_ (fun i => (q_upd_n (by omega)).trans (f1 118 i (by omega) (by omega)))
      · by_cases c : a = 100 ∧ i = 5
        · obtain ⟨rfl, rfl⟩ := c
          exact q_upd_s
        · rw [q_upd_n (by omega)]
          by_cases c1 : a = 104 ∧ i < 15
          · rw [c1.1]
            exact a1 i c1.2
          · by_cases c2 : a = 103 ∧ i < 20
            · rw [c2.1]
              exact a2 i c2.2
            · exact (f1 a i (by omega) (by omega)).trans (h3 a i q1 (by omega) (by omega) (by omega))
      · rw [q_upd_n (by omega)]
        exact f1 100 36 (by omega) (by omega)
    | succ j ih =>
      intro k hk M1 f1 a1 a2
      have t1 : ((15 : Int) + k).toNat = 15 + k := by omega
      have e1 : M1 118 (15 + k) = M0 103 k := (f1 118 _ (by omega) (by omega)).trans (k2 k (by omega))
      rw [b_X6_lays_28]
      simp (disch := omega) only [b_X6_lays_0, x_iconst, x_storeI_1, x_loadI_1, y_ic_ge_t, y_ic_ge_f, b_X6_lays_8, x_loadR_0, x_loadS_0, f_6_4, f_6_30, y_iald_35, y_iald_40, y_iald_56, y_iast_35, y_iast_40, y_iast_56, x_iinc_1, x_goto, b_X6_lays_26, b_X6_lays_34, f_6_3, x_iadd, b_X6_lays_55, p_6_5, x_vret, q_isL_I, q_isL_R, q_isL_S, true_and, and_true, and_self, List.length_nil, List.length_cons, Nat.zero_add, x_K, x_Kn, Int.reduceToNat, Nat.reduceAdd, Nat.reduceMul, Nat.reduceLeDiff, Nat.reduceLT, Nat.zero_le, Int.reduceAdd, Int.reduceSub, Int.reduceMul, Int.reduceNeg, q_add_e, q_sub_e, q_mul_e, q_neg_e, q_upd_s, q_upd_n, zr_shr0, zr_shr1, zr_shr2, zr_shr3, zr_shr4, zr_and, zr_dyn8, zr_or, zr_shl, q_cpy_n, y_cpy26, Int.toNat_natCast, t1, e1]
      refine ih (k + 1) (by omega) _ (fun a i q1 q2 => (q_upd_n (by omega)).trans (f1 a i q1 q2)) (fun i hi => (q_upd_n (by omega)).trans (a1 i hi)) (fun i hi => ?_)
      by_cases e : i = k
      · subst e
        exact q_upd_s
      · rw [q_upd_n (by omega)]
        exact a2 i (by omega)
  have l1 : ∀ j k : Nat, k + j = 15 → ∀ M1 : q_M, (∀ a i, (a = 104 → 15 ≤ i) → M1 a i = M a i) → (∀ i, i < k → M1 104 i = M0 104 i) → q_T 1 d qP_X6_lays 2 [] [qR 6 100, qI k] [] g M1 Q := by
    intro j
    induction j with
    | zero =>
      intro k hk M1 f1 a1
      have e : k = 15 := by omega
      subst e
      rw [b_X6_lays_2]
      simp (disch := omega) only [b_X6_lays_0, x_iconst, x_storeI_1, x_loadI_1, y_ic_ge_t, y_ic_ge_f, b_X6_lays_8, x_loadR_0, x_loadS_0, f_6_4, f_6_30, y_iald_35, y_iald_40, y_iald_56, y_iast_35, y_iast_40, y_iast_56, x_iinc_1, x_goto, b_X6_lays_26, b_X6_lays_34, f_6_3, x_iadd, b_X6_lays_55, p_6_5, x_vret, q_isL_I, q_isL_R, q_isL_S, true_and, and_true, and_self, List.length_nil, List.length_cons, Nat.zero_add, x_K, x_Kn, Int.reduceToNat, Nat.reduceAdd, Nat.reduceMul, Nat.reduceLeDiff, Nat.reduceLT, Nat.zero_le, Int.reduceAdd, Int.reduceSub, Int.reduceMul, Int.reduceNeg, q_add_e, q_sub_e, q_mul_e, q_neg_e, q_upd_s, q_upd_n, zr_shr0, zr_shr1, zr_shr2, zr_shr3, zr_shr4, zr_and, zr_dyn8, zr_or, zr_shl, q_cpy_n, y_cpy26]
      exact l2 20 0 rfl M1 (fun a i q1 q2 => f1 a i q1) a1 (fun i hi => absurd hi (Nat.not_lt_zero i))
    | succ j ih =>
      intro k hk M1 f1 a1
      have e1 : M1 118 k = M0 104 k := (f1 118 _ (by omega)).trans (k1 k (by omega))
      rw [b_X6_lays_2]
      simp (disch := omega) only [b_X6_lays_0, x_iconst, x_storeI_1, x_loadI_1, y_ic_ge_t, y_ic_ge_f, b_X6_lays_8, x_loadR_0, x_loadS_0, f_6_4, f_6_30, y_iald_35, y_iald_40, y_iald_56, y_iast_35, y_iast_40, y_iast_56, x_iinc_1, x_goto, b_X6_lays_26, b_X6_lays_34, f_6_3, x_iadd, b_X6_lays_55, p_6_5, x_vret, q_isL_I, q_isL_R, q_isL_S, true_and, and_true, and_self, List.length_nil, List.length_cons, Nat.zero_add, x_K, x_Kn, Int.reduceToNat, Nat.reduceAdd, Nat.reduceMul, Nat.reduceLeDiff, Nat.reduceLT, Nat.zero_le, Int.reduceAdd, Int.reduceSub, Int.reduceMul, Int.reduceNeg, q_add_e, q_sub_e, q_mul_e, q_neg_e, q_upd_s, q_upd_n, zr_shr0, zr_shr1, zr_shr2, zr_shr3, zr_shr4, zr_and, zr_dyn8, zr_or, zr_shl, q_cpy_n, y_cpy26, Int.toNat_natCast, e1]
      refine ih (k + 1) (by omega) _ (fun a i q1 => (q_upd_n (by omega)).trans (f1 a i q1)) (fun i hi => ?_)
      by_cases e : i = k
      · subst e
        exact q_upd_s
      · rw [q_upd_n (by omega)]
        exact a1 i (by omega)
  simp (disch := omega) only [b_X6_lays_0, x_iconst, x_storeI_1, x_loadI_1, y_ic_ge_t, y_ic_ge_f, b_X6_lays_8, x_loadR_0, x_loadS_0, f_6_4, f_6_30, y_iald_35, y_iald_40, y_iald_56, y_iast_35, y_iast_40, y_iast_56, x_iinc_1, x_goto, b_X6_lays_26, b_X6_lays_34, f_6_3, x_iadd, b_X6_lays_55, p_6_5, x_vret, q_isL_I, q_isL_R, q_isL_S, true_and, and_true, and_self, List.length_nil, List.length_cons, Nat.zero_add, x_K, x_Kn, Int.reduceToNat, Nat.reduceAdd, Nat.reduceMul, Nat.reduceLeDiff, Nat.reduceLT, Nat.zero_le, Int.reduceAdd, Int.reduceSub, Int.reduceMul, Int.reduceNeg, q_add_e, q_sub_e, q_mul_e, q_neg_e, q_upd_s, q_upd_n, zr_shr0, zr_shr1, zr_shr2, zr_shr3, zr_shr4, zr_and, zr_dyn8, zr_or, zr_shl, q_cpy_n, y_cpy26]
  exact l1 15 0 rfl M (fun _ _ _ => rfl) (fun i hi => absurd hi (Nat.not_lt_zero i))
end
