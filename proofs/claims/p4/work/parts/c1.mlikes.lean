/-! THE MODEL: what the law says; likes, wants, goes -/
set_option maxHeartbeats 4000000 in
theorem mp_asks {V : Nat → (Nat → Int) → Int} {d : Nat} {g : q_G} {M : q_M} {part p : Nat} {b : Int} {Q : Option q_V → q_G → q_M → Prop} (hm : q_ml V M) (hpt : part < 3) (hp : p < (M 100 0).toNat) (hb : b = -1 ∨ (0 ≤ b ∧ b < 5)) (hq : ∀ M2 : q_M, q_mf M M2 → Q (some (qI (F_says V (mW M) part p (if b = -1 then 5 else b.toNat)))) g M2) : q_S 1 (d + 2) 137 [qR 6 100, qI part, qI p, qI b] g M Q := by
  obtain ⟨⟨r0, r1, r2, r3, r4, r5, r6, r7, r8, r9, ra⟩, hV, hl⟩ := hm
  have hp5 : p < 5 := by omega
  have hat := r4 p hp5
  rw [s_X6_asksOf]
  have fin : ∀ (M' : q_M) (l4 : q_V), q_isL l4 = false → (∀ a i, a ≠ 117 → M' a i = M a i) → (∀ i, i < 3 → M' 117 i = F_nm (mW M) p (if b = -1 then 5 else b.toNat) i) → q_T 1 (d + 2) qP_X6_asksOf 96 [] [qR 6 100, qI part, qI p, qI b, l4] [] g M' Q := by
    intro M' l4 hl4 h1 h2
    have e3 : M' 104 (3 * p + 1) = M 104 (3 * p + 1) := h1 _ _ (by omega)
    have e4 : M' 100 5 = M 100 5 := h1 _ _ (by omega)
    have e5 : M' 102 p = M 102 p := h1 _ _ (by omega)
    have law : ∀ (M3 : q_M) (nx : Nat) (ops : List Instr) (ls st : List q_V), (∀ a i, a ≠ 117 → M3 a i = M a i) → (∀ i, i < 6 → M3 117 i = F_nm (mW M) p (if b = -1 then 5 else b.toNat) i) → (∀ M2 : q_M, q_mf M M2 → q_T 1 (d + 2) qP_X6_asksOf nx ops ls (qI (V part (F_nm (mW M) p (if b = -1 then 5 else b.toNat))) :: st) g M2 Q) → q_S 1 (d + 1) 135 [qR 6 100, qI part] g M3 (q_K 1 (d + 2) qP_X6_asksOf nx ops ls st Q) := by
      intro M3 nx ops ls st g1 g2 h
      refine hl M3 (fun a i ha => g1 a i (by omega)) (g1 100 11 (by omega)) _ _ _ part hpt (fun M2 hM2 => ?_)
      rw [hV part _ _ g2]
      exact h M2 (fun a i q1 q2 => (hM2 a i q1).trans (g1 a i q2))
    rw [b_X6_asksOf_96]
    simp (disch := omega) only [b_X6_asksOf_0, x_loadR_0, x_loadS_0, f_6_29, x_iconst, y_iast_25, y_iast_26, y_iast_35, y_iast_40, x_loadI_3, y_ic_eq_t, y_ic_eq_f, b_X6_asksOf_26, f_6_4, x_loadI_2, x_imul, y_iald_25, y_iald_26, y_iald_35, y_iald_40, f_6_3, x_isub, x_storeI_4, x_loadI_4, y_if_ge_t, y_if_ge_f, b_X6_asksOf_55, x_ineg, x_goto, b_X6_asksOf_61, b_X6_asksOf_63, x_iadd, f_6_5, f_6_2, x_loadI_1, y_ic_ne_t, y_ic_ne_f, b_X6_asksOf_144, b_X6_asksOf_148, b_X6_asksOf_150, x_ret0, q_isL_I, q_isL_R, q_isL_S, true_and, and_true, and_self, List.length_nil, List.length_cons, Nat.zero_add, x_K, x_Kn, Int.reduceToNat, Nat.reduceAdd, Nat.reduceMul, Nat.reduceLeDiff, Nat.reduceLT, Nat.zero_le, Int.reduceAdd, Int.reduceSub, Int.reduceMul, Int.reduceNeg, q_add_e, q_sub_e, q_mul_e, q_neg_e, q_upd_s, q_upd_n, zr_shr0, zr_shr1, zr_shr2, zr_shr3, zr_shr4, zr_and, zr_dyn8, zr_or, zr_shl, q_cpy_n, y_cpy26, Int.toNat_natCast, tn_31, c_X6_says]
    refine law _ _ _ _ _ (fun a i ha => by simp (disch := omega) only [q_upd_n]; exact h1 a i ha) ?_ (fun M2 hf => ?_)
    · intro i hi
      rcases (show i < 3 ∨ i = 3 ∨ i = 4 ∨ i = 5 by omega) with h | rfl | rfl | rfl
      · simp (disch := omega) only [q_upd_n]
        exact h2 i h
      · simp (disch := omega) only [q_upd_n, q_upd_s, e3]
        exact (mW_3 hp).symm
      · simp (disch := omega) only [q_upd_n, q_upd_s, e4]
        exact mW_91.symm
      · simp (disch := omega) only [q_upd_n, q_upd_s, e5]
        exact (mW_1 hp).symm
    · have h9 := hq M2 hf
      unfold F_says F_cl at h9
      by_cases c : part = 2
      · rw [if_pos c] at h9
        simp (disch := omega) only [b_X6_asksOf_0, x_loadR_0, x_loadS_0, f_6_29, x_iconst, y_iast_25, y_iast_26, y_iast_35, y_iast_40, x_loadI_3, y_ic_eq_t, y_ic_eq_f, b_X6_asksOf_26, f_6_4, x_loadI_2, x_imul, y_iald_25, y_iald_26, y_iald_35, y_iald_40, f_6_3, x_isub, x_storeI_4, x_loadI_4, y_if_ge_t, y_if_ge_f, b_X6_asksOf_55, x_ineg, x_goto, b_X6_asksOf_61, b_X6_asksOf_63, x_iadd, f_6_5, f_6_2, x_loadI_1, y_ic_ne_t, y_ic_ne_f, b_X6_asksOf_144, b_X6_asksOf_148, b_X6_asksOf_150, x_ret0, q_isL_I, q_isL_R, q_isL_S, true_and, and_true, and_self, List.length_nil, List.length_cons, Nat.zero_add, x_K, x_Kn, Int.reduceToNat, Nat.reduceAdd, Nat.reduceMul, Nat.reduceLeDiff, Nat.reduceLT, Nat.zero_le, Int.reduceAdd, Int.reduceSub, Int.reduceMul, Int.reduceNeg, q_add_e, q_sub_e, q_mul_e, q_neg_e, q_upd_s, q_upd_n, zr_shr0, zr_shr1, zr_shr2, zr_shr3, zr_shr4, zr_and, zr_dyn8, zr_or, zr_shl, q_cpy_n, y_cpy26, c_X6_within, mp_within]
        exact h9
      · rw [if_neg c] at h9
        simp (disch := omega) only [b_X6_asksOf_0, x_loadR_0, x_loadS_0, f_6_29, x_iconst, y_iast_25, y_iast_26, y_iast_35, y_iast_40, x_loadI_3, y_ic_eq_t, y_ic_eq_f, b_X6_asksOf_26, f_6_4, x_loadI_2, x_imul, y_iald_25, y_iald_26, y_iald_35, y_iald_40, f_6_3, x_isub, x_storeI_4, x_loadI_4, y_if_ge_t, y_if_ge_f, b_X6_asksOf_55, x_ineg, x_goto, b_X6_asksOf_61, b_X6_asksOf_63, x_iadd, f_6_5, f_6_2, x_loadI_1, y_ic_ne_t, y_ic_ne_f, b_X6_asksOf_144, b_X6_asksOf_148, b_X6_asksOf_150, x_ret0, q_isL_I, q_isL_R, q_isL_S, true_and, and_true, and_self, List.length_nil, List.length_cons, Nat.zero_add, x_K, x_Kn, Int.reduceToNat, Nat.reduceAdd, Nat.reduceMul, Nat.reduceLeDiff, Nat.reduceLT, Nat.zero_le, Int.reduceAdd, Int.reduceSub, Int.reduceMul, Int.reduceNeg, q_add_e, q_sub_e, q_mul_e, q_neg_e, q_upd_s, q_upd_n, zr_shr0, zr_shr1, zr_shr2, zr_shr3, zr_shr4, zr_and, zr_dyn8, zr_or, zr_shl, q_cpy_n, y_cpy26, c_X6_within, mp_within]
        exact h9
  rcases hb with k | k
  · subst k
    simp (disch := omega) only [b_X6_asksOf_0, x_loadR_0, x_loadS_0, f_6_29, x_iconst, y_iast_25, y_iast_26, y_iast_35, y_iast_40, x_loadI_3, y_ic_eq_t, y_ic_eq_f, b_X6_asksOf_26, f_6_4, x_loadI_2, x_imul, y_iald_25, y_iald_26, y_iald_35, y_iald_40, f_6_3, x_isub, x_storeI_4, x_loadI_4, y_if_ge_t, y_if_ge_f, b_X6_asksOf_55, x_ineg, x_goto, b_X6_asksOf_61, b_X6_asksOf_63, x_iadd, f_6_5, f_6_2, x_loadI_1, y_ic_ne_t, y_ic_ne_f, b_X6_asksOf_144, b_X6_asksOf_148, b_X6_asksOf_150, x_ret0, q_isL_I, q_isL_R, q_isL_S, true_and, and_true, and_self, List.length_nil, List.length_cons, Nat.zero_add, x_K, x_Kn, Int.reduceToNat, Nat.reduceAdd, Nat.reduceMul, Nat.reduceLeDiff, Nat.reduceLT, Nat.zero_le, Int.reduceAdd, Int.reduceSub, Int.reduceMul, Int.reduceNeg, q_add_e, q_sub_e, q_mul_e, q_neg_e, q_upd_s, q_upd_n, zr_shr0, zr_shr1, zr_shr2, zr_shr3, zr_shr4, zr_and, zr_dyn8, zr_or, zr_shl, q_cpy_n, y_cpy26]
    refine fin _ _ rfl (fun a i ha => by simp (disch := omega) only [q_upd_n]) ?_
    intro i hi
    rcases (show i = 0 ∨ i = 1 ∨ i = 2 by omega) with rfl | rfl | rfl
    · simp (disch := omega) only [q_upd_n, q_upd_s]
      rfl
    · simp (disch := omega) only [q_upd_n, q_upd_s]
      rfl
    · simp (disch := omega) only [q_upd_n, q_upd_s]
      rfl
  · obtain ⟨B, rfl⟩ : ∃ B : Nat, b = B := ⟨b.toNat, by omega⟩
    have hB : B < 5 := by omega
    rw [if_neg (by omega), Int.toNat_natCast] at fin
    have hpl := r7 B hB
    have e0 : F_nm (mW M) p B 0 = if M 104 (3 * p) - M 103 (4 * B) < 0 then -(M 104 (3 * p) - M 103 (4 * B)) else M 104 (3 * p) - M 103 (4 * B) := by
      show (if B = 5 then 0 else if mW M 2 p - mW M 5 B < 0 then -(mW M 2 p - mW M 5 B) else mW M 2 p - mW M 5 B) = _
      rw [if_neg (by omega), mW_2 hp, mW_5 hB]
    by_cases hs : M 104 (3 * p) - M 103 (4 * B) < 0
    · rw [if_pos hs] at e0
      simp (disch := omega) only [b_X6_asksOf_0, x_loadR_0, x_loadS_0, f_6_29, x_iconst, y_iast_25, y_iast_26, y_iast_35, y_iast_40, x_loadI_3, y_ic_eq_t, y_ic_eq_f, b_X6_asksOf_26, f_6_4, x_loadI_2, x_imul, y_iald_25, y_iald_26, y_iald_35, y_iald_40, f_6_3, x_isub, x_storeI_4, x_loadI_4, y_if_ge_t, y_if_ge_f, b_X6_asksOf_55, x_ineg, x_goto, b_X6_asksOf_61, b_X6_asksOf_63, x_iadd, f_6_5, f_6_2, x_loadI_1, y_ic_ne_t, y_ic_ne_f, b_X6_asksOf_144, b_X6_asksOf_148, b_X6_asksOf_150, x_ret0, q_isL_I, q_isL_R, q_isL_S, true_and, and_true, and_self, List.length_nil, List.length_cons, Nat.zero_add, x_K, x_Kn, Int.reduceToNat, Nat.reduceAdd, Nat.reduceMul, Nat.reduceLeDiff, Nat.reduceLT, Nat.zero_le, Int.reduceAdd, Int.reduceSub, Int.reduceMul, Int.reduceNeg, q_add_e, q_sub_e, q_mul_e, q_neg_e, q_upd_s, q_upd_n, zr_shr0, zr_shr1, zr_shr2, zr_shr3, zr_shr4, zr_and, zr_dyn8, zr_or, zr_shl, q_cpy_n, y_cpy26, Int.toNat_natCast, tn_30, tn_40, tn_42, tn_43]
      refine fin _ _ rfl (fun a i ha => by simp (disch := omega) only [q_upd_n]) ?_
      intro i hi
      rcases (show i = 0 ∨ i = 1 ∨ i = 2 by omega) with rfl | rfl | rfl
      · simp (disch := omega) only [q_upd_n, q_upd_s]
        exact e0.symm
      · simp (disch := omega) only [q_upd_n, q_upd_s]
        exact (mW_7 hB).symm
      · simp (disch := omega) only [q_upd_n, q_upd_s]
        exact (mW_8 hB).symm
    · rw [if_neg hs] at e0
      simp (disch := omega) only [b_X6_asksOf_0, x_loadR_0, x_loadS_0, f_6_29, x_iconst, y_iast_25, y_iast_26, y_iast_35, y_iast_40, x_loadI_3, y_ic_eq_t, y_ic_eq_f, b_X6_asksOf_26, f_6_4, x_loadI_2, x_imul, y_iald_25, y_iald_26, y_iald_35, y_iald_40, f_6_3, x_isub, x_storeI_4, x_loadI_4, y_if_ge_t, y_if_ge_f, b_X6_asksOf_55, x_ineg, x_goto, b_X6_asksOf_61, b_X6_asksOf_63, x_iadd, f_6_5, f_6_2, x_loadI_1, y_ic_ne_t, y_ic_ne_f, b_X6_asksOf_144, b_X6_asksOf_148, b_X6_asksOf_150, x_ret0, q_isL_I, q_isL_R, q_isL_S, true_and, and_true, and_self, List.length_nil, List.length_cons, Nat.zero_add, x_K, x_Kn, Int.reduceToNat, Nat.reduceAdd, Nat.reduceMul, Nat.reduceLeDiff, Nat.reduceLT, Nat.zero_le, Int.reduceAdd, Int.reduceSub, Int.reduceMul, Int.reduceNeg, q_add_e, q_sub_e, q_mul_e, q_neg_e, q_upd_s, q_upd_n, zr_shr0, zr_shr1, zr_shr2, zr_shr3, zr_shr4, zr_and, zr_dyn8, zr_or, zr_shl, q_cpy_n, y_cpy26, Int.toNat_natCast, tn_30, tn_40, tn_42, tn_43]
      refine fin _ _ rfl (fun a i ha => by simp (disch := omega) only [q_upd_n]) ?_
      intro i hi
      rcases (show i = 0 ∨ i = 1 ∨ i = 2 by omega) with rfl | rfl | rfl
      · simp (disch := omega) only [q_upd_n, q_upd_s]
        exact e0.symm
      · simp (disch := omega) only [q_upd_n, q_upd_s]
        exact (mW_7 hB).symm
      · simp (disch := omega) only [q_upd_n, q_upd_s]
        exact (mW_8 hB).symm
set_option maxHeartbeats 4000000 in
theorem mp_likes {V : Nat → (Nat → Int) → Int} {d : Nat} {g : q_G} {M : q_M} {p b : Nat} {Q : Option q_V → q_G → q_M → Prop} (hm : q_ml V M) (hp : p < (M 100 0).toNat) (hb : b < 5) (hq : ∀ M2 : q_M, q_mf M M2 → Q (some (qI (F_likes V (mW M) p b))) g M2) : q_S 1 (d + 3) 141 [qR 6 100, qI p, qI b] g M Q := by
  have hm2 := hm
  obtain ⟨⟨r0, r1, r2, r3, r4, r5, r6, r7, r8, r9, ra⟩, hV, hl⟩ := hm2
  have hp5 : p < 5 := by omega
  have hk := r2 p hp5
  have hmo := r3 p hp5
  have asks : ∀ (nx : Nat) (ops : List Instr) (ls st : List q_V), (∀ M2 : q_M, q_mf M M2 → q_T 1 (d + 3) qP_X6_likesOf nx ops ls (qI (F_says V (mW M) 0 p b) :: st) g M2 Q) → q_S 1 (d + 2) 137 [qR 6 100, qI 0, qI p, qI b] g M (q_K 1 (d + 3) qP_X6_likesOf nx ops ls st Q) := fun nx ops ls st h => mp_asks (part := 0) hm (by omega) hp (Or.inr ⟨by omega, by omega⟩) (by rw [if_neg (by omega), Int.toNat_natCast]; exact h)
  rw [s_X6_likesOf]
  simp (disch := omega) only [b_X6_likesOf_0, x_loadR_0, x_loadS_0, x_iconst, x_loadI_1, x_loadI_2, x_storeI_3, f_6_1, y_iald_25, y_iald_40, tw_10_1, tw_10_2, tw_10_3, tw_10_4, tw_10_5, tw_10_o, b_X6_likesOf_48, f_6_2, y_irem, y_ic_ne_t, y_ic_ne_f, b_X6_likesOf_60, x_goto, b_X6_likesOf_65, x_loadI_3, y_idiv, b_X6_likesOf_68, x_ret0, b_X6_likesOf_69, f_6_3, x_imul, x_iadd, y_ic_le_t, y_ic_le_f, b_X6_likesOf_84, x_ineg, b_X6_likesOf_89, b_X6_likesOf_90, b_X6_likesOf_91, b_X6_likesOf_110, b_X6_likesOf_114, b_X6_likesOf_115, b_X6_likesOf_116, q_isL_I, q_isL_R, q_isL_S, true_and, and_true, and_self, List.length_nil, List.length_cons, Nat.zero_add, x_K, x_Kn, Int.reduceToNat, Nat.reduceAdd, Nat.reduceMul, Nat.reduceLeDiff, Nat.reduceLT, Nat.zero_le, Int.reduceAdd, Int.reduceSub, Int.reduceMul, Int.reduceNeg, q_add_e, q_sub_e, q_mul_e, q_neg_e, q_upd_s, q_upd_n, zr_shr0, zr_shr1, zr_shr2, zr_shr3, zr_shr4, zr_and, zr_dyn8, zr_or, zr_shl, q_cpy_n, y_cpy26, c_X6_asksOf]
  refine asks _ _ _ _ (fun M2 hf => ?_)
  have e1 : M2 101 p = M 101 p := hf _ _ (by omega) (by omega)
  have e2 : M2 102 p = M 102 p := hf _ _ (by omega) (by omega)
  have e7 : M2 103 (4 * b + 2) = M 103 (4 * b + 2) := hf _ _ (by omega) (by omega)
  have e8 : M2 103 (4 * b + 3) = M 103 (4 * b + 3) := hf _ _ (by omega) (by omega)
  have h9 := hq M2 hf
  have sl := F_says_le (V := V) (S := mW M) (part := 0) (p := p) (b := b)
  have hh := q_half (x := F_says V (mW M) 0 p b) (by omega) (by omega)
  unfold F_likes at h9
  rw [mW_0 hp, mW_1 hp, mW_7 hb, mW_8 hb] at h9
  have rm : q_rem (M 102 p) 5 = M 102 p % 5 := q_rem_e (by omega) (by omega) (by omega) (by omega)
  rcases (show M 101 p = 0 ∨ M 101 p = 1 ∨ M 101 p = 2 ∨ M 101 p = 3 ∨ M 101 p = 4 ∨ M 101 p = 5 by omega) with k | k | k | k | k | k
  · rw [k, if_neg (by omega), if_neg (by omega), if_neg (by omega)] at h9
    simp (disch := omega) only [b_X6_likesOf_0, x_loadR_0, x_loadS_0, x_iconst, x_loadI_1, x_loadI_2, x_storeI_3, f_6_1, y_iald_25, y_iald_40, tw_10_1, tw_10_2, tw_10_3, tw_10_4, tw_10_5, tw_10_o, b_X6_likesOf_48, f_6_2, y_irem, y_ic_ne_t, y_ic_ne_f, b_X6_likesOf_60, x_goto, b_X6_likesOf_65, x_loadI_3, y_idiv, b_X6_likesOf_68, x_ret0, b_X6_likesOf_69, f_6_3, x_imul, x_iadd, y_ic_le_t, y_ic_le_f, b_X6_likesOf_84, x_ineg, b_X6_likesOf_89, b_X6_likesOf_90, b_X6_likesOf_91, b_X6_likesOf_110, b_X6_likesOf_114, b_X6_likesOf_115, b_X6_likesOf_116, q_isL_I, q_isL_R, q_isL_S, true_and, and_true, and_self, List.length_nil, List.length_cons, Nat.zero_add, x_K, x_Kn, Int.reduceToNat, Nat.reduceAdd, Nat.reduceMul, Nat.reduceLeDiff, Nat.reduceLT, Nat.zero_le, Int.reduceAdd, Int.reduceSub, Int.reduceMul, Int.reduceNeg, q_add_e, q_sub_e, q_mul_e, q_neg_e, q_upd_s, q_upd_n, zr_shr0, zr_shr1, zr_shr2, zr_shr3, zr_shr4, zr_and, zr_dyn8, zr_or, zr_shl, q_cpy_n, y_cpy26, Int.toNat_natCast, e1, k]
    exact h9
  · rw [k, if_neg (by omega), if_pos (by omega)] at h9
    by_cases c : M 102 p % 5 = b
    · rw [if_pos c] at h9
      simp (disch := omega) only [b_X6_likesOf_0, x_loadR_0, x_loadS_0, x_iconst, x_loadI_1, x_loadI_2, x_storeI_3, f_6_1, y_iald_25, y_iald_40, tw_10_1, tw_10_2, tw_10_3, tw_10_4, tw_10_5, tw_10_o, b_X6_likesOf_48, f_6_2, y_irem, y_ic_ne_t, y_ic_ne_f, b_X6_likesOf_60, x_goto, b_X6_likesOf_65, x_loadI_3, y_idiv, b_X6_likesOf_68, x_ret0, b_X6_likesOf_69, f_6_3, x_imul, x_iadd, y_ic_le_t, y_ic_le_f, b_X6_likesOf_84, x_ineg, b_X6_likesOf_89, b_X6_likesOf_90, b_X6_likesOf_91, b_X6_likesOf_110, b_X6_likesOf_114, b_X6_likesOf_115, b_X6_likesOf_116, q_isL_I, q_isL_R, q_isL_S, true_and, and_true, and_self, List.length_nil, List.length_cons, Nat.zero_add, x_K, x_Kn, Int.reduceToNat, Nat.reduceAdd, Nat.reduceMul, Nat.reduceLeDiff, Nat.reduceLT, Nat.zero_le, Int.reduceAdd, Int.reduceSub, Int.reduceMul, Int.reduceNeg, q_add_e, q_sub_e, q_mul_e, q_neg_e, q_upd_s, q_upd_n, zr_shr0, zr_shr1, zr_shr2, zr_shr3, zr_shr4, zr_and, zr_dyn8, zr_or, zr_shl, q_cpy_n, y_cpy26, Int.toNat_natCast, e1, e2, k, rm]
      exact h9
    · rw [if_neg c] at h9
      simp (disch := omega) only [b_X6_likesOf_0, x_loadR_0, x_loadS_0, x_iconst, x_loadI_1, x_loadI_2, x_storeI_3, f_6_1, y_iald_25, y_iald_40, tw_10_1, tw_10_2, tw_10_3, tw_10_4, tw_10_5, tw_10_o, b_X6_likesOf_48, f_6_2, y_irem, y_ic_ne_t, y_ic_ne_f, b_X6_likesOf_60, x_goto, b_X6_likesOf_65, x_loadI_3, y_idiv, b_X6_likesOf_68, x_ret0, b_X6_likesOf_69, f_6_3, x_imul, x_iadd, y_ic_le_t, y_ic_le_f, b_X6_likesOf_84, x_ineg, b_X6_likesOf_89, b_X6_likesOf_90, b_X6_likesOf_91, b_X6_likesOf_110, b_X6_likesOf_114, b_X6_likesOf_115, b_X6_likesOf_116, q_isL_I, q_isL_R, q_isL_S, true_and, and_true, and_self, List.length_nil, List.length_cons, Nat.zero_add, x_K, x_Kn, Int.reduceToNat, Nat.reduceAdd, Nat.reduceMul, Nat.reduceLeDiff, Nat.reduceLT, Nat.zero_le, Int.reduceAdd, Int.reduceSub, Int.reduceMul, Int.reduceNeg, q_add_e, q_sub_e, q_mul_e, q_neg_e, q_upd_s, q_upd_n, zr_shr0, zr_shr1, zr_shr2, zr_shr3, zr_shr4, zr_and, zr_dyn8, zr_or, zr_shl, q_cpy_n, y_cpy26, Int.toNat_natCast, e1, e2, k, rm, hh]
      exact h9
  · rw [k, if_neg (by omega), if_neg (by omega), if_neg (by omega)] at h9
    simp (disch := omega) only [b_X6_likesOf_0, x_loadR_0, x_loadS_0, x_iconst, x_loadI_1, x_loadI_2, x_storeI_3, f_6_1, y_iald_25, y_iald_40, tw_10_1, tw_10_2, tw_10_3, tw_10_4, tw_10_5, tw_10_o, b_X6_likesOf_48, f_6_2, y_irem, y_ic_ne_t, y_ic_ne_f, b_X6_likesOf_60, x_goto, b_X6_likesOf_65, x_loadI_3, y_idiv, b_X6_likesOf_68, x_ret0, b_X6_likesOf_69, f_6_3, x_imul, x_iadd, y_ic_le_t, y_ic_le_f, b_X6_likesOf_84, x_ineg, b_X6_likesOf_89, b_X6_likesOf_90, b_X6_likesOf_91, b_X6_likesOf_110, b_X6_likesOf_114, b_X6_likesOf_115, b_X6_likesOf_116, q_isL_I, q_isL_R, q_isL_S, true_and, and_true, and_self, List.length_nil, List.length_cons, Nat.zero_add, x_K, x_Kn, Int.reduceToNat, Nat.reduceAdd, Nat.reduceMul, Nat.reduceLeDiff, Nat.reduceLT, Nat.zero_le, Int.reduceAdd, Int.reduceSub, Int.reduceMul, Int.reduceNeg, q_add_e, q_sub_e, q_mul_e, q_neg_e, q_upd_s, q_upd_n, zr_shr0, zr_shr1, zr_shr2, zr_shr3, zr_shr4, zr_and, zr_dyn8, zr_or, zr_shl, q_cpy_n, y_cpy26, Int.toNat_natCast, e1, k]
    exact h9
  · rw [k, if_neg (by omega), if_pos (by omega)] at h9
    by_cases c : M 102 p % 5 = b
    · rw [if_pos c] at h9
      simp (disch := omega) only [b_X6_likesOf_0, x_loadR_0, x_loadS_0, x_iconst, x_loadI_1, x_loadI_2, x_storeI_3, f_6_1, y_iald_25, y_iald_40, tw_10_1, tw_10_2, tw_10_3, tw_10_4, tw_10_5, tw_10_o, b_X6_likesOf_48, f_6_2, y_irem, y_ic_ne_t, y_ic_ne_f, b_X6_likesOf_60, x_goto, b_X6_likesOf_65, x_loadI_3, y_idiv, b_X6_likesOf_68, x_ret0, b_X6_likesOf_69, f_6_3, x_imul, x_iadd, y_ic_le_t, y_ic_le_f, b_X6_likesOf_84, x_ineg, b_X6_likesOf_89, b_X6_likesOf_90, b_X6_likesOf_91, b_X6_likesOf_110, b_X6_likesOf_114, b_X6_likesOf_115, b_X6_likesOf_116, q_isL_I, q_isL_R, q_isL_S, true_and, and_true, and_self, List.length_nil, List.length_cons, Nat.zero_add, x_K, x_Kn, Int.reduceToNat, Nat.reduceAdd, Nat.reduceMul, Nat.reduceLeDiff, Nat.reduceLT, Nat.zero_le, Int.reduceAdd, Int.reduceSub, Int.reduceMul, Int.reduceNeg, q_add_e, q_sub_e, q_mul_e, q_neg_e, q_upd_s, q_upd_n, zr_shr0, zr_shr1, zr_shr2, zr_shr3, zr_shr4, zr_and, zr_dyn8, zr_or, zr_shl, q_cpy_n, y_cpy26, Int.toNat_natCast, e1, e2, k, rm]
      exact h9
    · rw [if_neg c] at h9
      simp (disch := omega) only [b_X6_likesOf_0, x_loadR_0, x_loadS_0, x_iconst, x_loadI_1, x_loadI_2, x_storeI_3, f_6_1, y_iald_25, y_iald_40, tw_10_1, tw_10_2, tw_10_3, tw_10_4, tw_10_5, tw_10_o, b_X6_likesOf_48, f_6_2, y_irem, y_ic_ne_t, y_ic_ne_f, b_X6_likesOf_60, x_goto, b_X6_likesOf_65, x_loadI_3, y_idiv, b_X6_likesOf_68, x_ret0, b_X6_likesOf_69, f_6_3, x_imul, x_iadd, y_ic_le_t, y_ic_le_f, b_X6_likesOf_84, x_ineg, b_X6_likesOf_89, b_X6_likesOf_90, b_X6_likesOf_91, b_X6_likesOf_110, b_X6_likesOf_114, b_X6_likesOf_115, b_X6_likesOf_116, q_isL_I, q_isL_R, q_isL_S, true_and, and_true, and_self, List.length_nil, List.length_cons, Nat.zero_add, x_K, x_Kn, Int.reduceToNat, Nat.reduceAdd, Nat.reduceMul, Nat.reduceLeDiff, Nat.reduceLT, Nat.zero_le, Int.reduceAdd, Int.reduceSub, Int.reduceMul, Int.reduceNeg, q_add_e, q_sub_e, q_mul_e, q_neg_e, q_upd_s, q_upd_n, zr_shr0, zr_shr1, zr_shr2, zr_shr3, zr_shr4, zr_and, zr_dyn8, zr_or, zr_shl, q_cpy_n, y_cpy26, Int.toNat_natCast, e1, e2, k, rm, hh]
      exact h9
  · rw [k, if_neg (by omega), if_neg (by omega)] at h9
    by_cases c : 50 < M 103 (4 * b + 2)
    · rw [if_pos ⟨rfl, c⟩] at h9
      simp (disch := omega) only [b_X6_likesOf_0, x_loadR_0, x_loadS_0, x_iconst, x_loadI_1, x_loadI_2, x_storeI_3, f_6_1, y_iald_25, y_iald_40, tw_10_1, tw_10_2, tw_10_3, tw_10_4, tw_10_5, tw_10_o, b_X6_likesOf_48, f_6_2, y_irem, y_ic_ne_t, y_ic_ne_f, b_X6_likesOf_60, x_goto, b_X6_likesOf_65, x_loadI_3, y_idiv, b_X6_likesOf_68, x_ret0, b_X6_likesOf_69, f_6_3, x_imul, x_iadd, y_ic_le_t, y_ic_le_f, b_X6_likesOf_84, x_ineg, b_X6_likesOf_89, b_X6_likesOf_90, b_X6_likesOf_91, b_X6_likesOf_110, b_X6_likesOf_114, b_X6_likesOf_115, b_X6_likesOf_116, q_isL_I, q_isL_R, q_isL_S, true_and, and_true, and_self, List.length_nil, List.length_cons, Nat.zero_add, x_K, x_Kn, Int.reduceToNat, Nat.reduceAdd, Nat.reduceMul, Nat.reduceLeDiff, Nat.reduceLT, Nat.zero_le, Int.reduceAdd, Int.reduceSub, Int.reduceMul, Int.reduceNeg, q_add_e, q_sub_e, q_mul_e, q_neg_e, q_upd_s, q_upd_n, zr_shr0, zr_shr1, zr_shr2, zr_shr3, zr_shr4, zr_and, zr_dyn8, zr_or, zr_shl, q_cpy_n, y_cpy26, Int.toNat_natCast, tn_42, e1, e7, k]
      exact h9
    · rw [if_neg (fun z => c z.2)] at h9
      simp (disch := omega) only [b_X6_likesOf_0, x_loadR_0, x_loadS_0, x_iconst, x_loadI_1, x_loadI_2, x_storeI_3, f_6_1, y_iald_25, y_iald_40, tw_10_1, tw_10_2, tw_10_3, tw_10_4, tw_10_5, tw_10_o, b_X6_likesOf_48, f_6_2, y_irem, y_ic_ne_t, y_ic_ne_f, b_X6_likesOf_60, x_goto, b_X6_likesOf_65, x_loadI_3, y_idiv, b_X6_likesOf_68, x_ret0, b_X6_likesOf_69, f_6_3, x_imul, x_iadd, y_ic_le_t, y_ic_le_f, b_X6_likesOf_84, x_ineg, b_X6_likesOf_89, b_X6_likesOf_90, b_X6_likesOf_91, b_X6_likesOf_110, b_X6_likesOf_114, b_X6_likesOf_115, b_X6_likesOf_116, q_isL_I, q_isL_R, q_isL_S, true_and, and_true, and_self, List.length_nil, List.length_cons, Nat.zero_add, x_K, x_Kn, Int.reduceToNat, Nat.reduceAdd, Nat.reduceMul, Nat.reduceLeDiff, Nat.reduceLT, Nat.zero_le, Int.reduceAdd, Int.reduceSub, Int.reduceMul, Int.reduceNeg, q_add_e, q_sub_e, q_mul_e, q_neg_e, q_upd_s, q_upd_n, zr_shr0, zr_shr1, zr_shr2, zr_shr3, zr_shr4, zr_and, zr_dyn8, zr_or, zr_shl, q_cpy_n, y_cpy26, Int.toNat_natCast, tn_42, e1, e7, k]
      exact h9
  · rw [k] at h9
    by_cases c : M 102 p < M 103 (4 * b + 3)
    · rw [if_pos ⟨rfl, c⟩] at h9
      simp (disch := omega) only [b_X6_likesOf_0, x_loadR_0, x_loadS_0, x_iconst, x_loadI_1, x_loadI_2, x_storeI_3, f_6_1, y_iald_25, y_iald_40, tw_10_1, tw_10_2, tw_10_3, tw_10_4, tw_10_5, tw_10_o, b_X6_likesOf_48, f_6_2, y_irem, y_ic_ne_t, y_ic_ne_f, b_X6_likesOf_60, x_goto, b_X6_likesOf_65, x_loadI_3, y_idiv, b_X6_likesOf_68, x_ret0, b_X6_likesOf_69, f_6_3, x_imul, x_iadd, y_ic_le_t, y_ic_le_f, b_X6_likesOf_84, x_ineg, b_X6_likesOf_89, b_X6_likesOf_90, b_X6_likesOf_91, b_X6_likesOf_110, b_X6_likesOf_114, b_X6_likesOf_115, b_X6_likesOf_116, q_isL_I, q_isL_R, q_isL_S, true_and, and_true, and_self, List.length_nil, List.length_cons, Nat.zero_add, x_K, x_Kn, Int.reduceToNat, Nat.reduceAdd, Nat.reduceMul, Nat.reduceLeDiff, Nat.reduceLT, Nat.zero_le, Int.reduceAdd, Int.reduceSub, Int.reduceMul, Int.reduceNeg, q_add_e, q_sub_e, q_mul_e, q_neg_e, q_upd_s, q_upd_n, zr_shr0, zr_shr1, zr_shr2, zr_shr3, zr_shr4, zr_and, zr_dyn8, zr_or, zr_shl, q_cpy_n, y_cpy26, Int.toNat_natCast, tn_43, e1, e2, e8, k]
      exact h9
    · rw [if_neg (fun z => c z.2), if_neg (by omega), if_neg (by omega)] at h9
      simp (disch := omega) only [b_X6_likesOf_0, x_loadR_0, x_loadS_0, x_iconst, x_loadI_1, x_loadI_2, x_storeI_3, f_6_1, y_iald_25, y_iald_40, tw_10_1, tw_10_2, tw_10_3, tw_10_4, tw_10_5, tw_10_o, b_X6_likesOf_48, f_6_2, y_irem, y_ic_ne_t, y_ic_ne_f, b_X6_likesOf_60, x_goto, b_X6_likesOf_65, x_loadI_3, y_idiv, b_X6_likesOf_68, x_ret0, b_X6_likesOf_69, f_6_3, x_imul, x_iadd, y_ic_le_t, y_ic_le_f, b_X6_likesOf_84, x_ineg, b_X6_likesOf_89, b_X6_likesOf_90, b_X6_likesOf_91, b_X6_likesOf_110, b_X6_likesOf_114, b_X6_likesOf_115, b_X6_likesOf_116, q_isL_I, q_isL_R, q_isL_S, true_and, and_true, and_self, List.length_nil, List.length_cons, Nat.zero_add, x_K, x_Kn, Int.reduceToNat, Nat.reduceAdd, Nat.reduceMul, Nat.reduceLeDiff, Nat.reduceLT, Nat.zero_le, Int.reduceAdd, Int.reduceSub, Int.reduceMul, Int.reduceNeg, q_add_e, q_sub_e, q_mul_e, q_neg_e, q_upd_s, q_upd_n, zr_shr0, zr_shr1, zr_shr2, zr_shr3, zr_shr4, zr_and, zr_dyn8, zr_or, zr_shl, q_cpy_n, y_cpy26, Int.toNat_natCast, tn_43, e1, e2, e8, k]
      exact h9
set_option maxHeartbeats 4000000 in
theorem mp_wants {V : Nat → (Nat → Int) → Int} {d : Nat} {g : q_G} {M : q_M} {p b : Nat} {Q : Option q_V → q_G → q_M → Prop} (hm : q_ml V M) (hp : p < (M 100 0).toNat) (hb : b < 5) (hq : ∀ M2 : q_M, q_mf M M2 → Q (some (qI (F_wants V (mW M) p b))) g M2) : q_S 1 (d + 3) 142 [qR 6 100, qI p, qI b] g M Q := by
  have hm2 := hm
  obtain ⟨⟨r0, r1, r2, r3, r4, r5, r6, r7, r8, r9, ra⟩, hV, hl⟩ := hm2
  have hp5 : p < 5 := by omega
  have hk := r2 p hp5
  have hmo := r3 p hp5
  have asks : ∀ (nx : Nat) (ops : List Instr) (ls st : List q_V), (∀ M2 : q_M, q_mf M M2 → q_T 1 (d + 3) qP_X6_wantedOf nx ops ls (qI (F_says V (mW M) 1 p b) :: st) g M2 Q) → q_S 1 (d + 2) 137 [qR 6 100, qI 1, qI p, qI b] g M (q_K 1 (d + 3) qP_X6_wantedOf nx ops ls st Q) := fun nx ops ls st h => mp_asks (part := 1) hm (by omega) hp (Or.inr ⟨by omega, by omega⟩) (by rw [if_neg (by omega), Int.toNat_natCast]; exact h)
  rw [s_X6_wantedOf]
  simp (disch := omega) only [b_X6_wantedOf_0, x_loadR_0, x_loadS_0, x_iconst, x_loadI_1, x_loadI_2, x_storeI_3, f_6_1, y_iald_25, tw_11_2, tw_11_3, tw_11_4, tw_11_o, b_X6_wantedOf_40, x_loadI_3, f_6_2, x_imul, x_iadd, x_ret0, b_X6_wantedOf_52, x_ineg, b_X6_wantedOf_55, f_6_5, y_irem, y_if_ne_t, y_if_ne_f, b_X6_wantedOf_64, x_goto, b_X6_wantedOf_78, b_X6_wantedOf_79, b_X6_wantedOf_80, q_isL_I, q_isL_R, q_isL_S, true_and, and_true, and_self, List.length_nil, List.length_cons, Nat.zero_add, x_K, x_Kn, Int.reduceToNat, Nat.reduceAdd, Nat.reduceMul, Nat.reduceLeDiff, Nat.reduceLT, Nat.zero_le, Int.reduceAdd, Int.reduceSub, Int.reduceMul, Int.reduceNeg, q_add_e, q_sub_e, q_mul_e, q_neg_e, q_upd_s, q_upd_n, zr_shr0, zr_shr1, zr_shr2, zr_shr3, zr_shr4, zr_and, zr_dyn8, zr_or, zr_shl, q_cpy_n, y_cpy26, c_X6_asksOf]
  refine asks _ _ _ _ (fun M2 hf => ?_)
  have e1 : M2 101 p = M 101 p := hf _ _ (by omega) (by omega)
  have e2 : M2 102 p = M 102 p := hf _ _ (by omega) (by omega)
  have e5 : M2 100 5 = M 100 5 := hf _ _ (by omega) (by omega)
  have h9 := hq M2 hf
  have sl := F_says_le (V := V) (S := mW M) (part := 1) (p := p) (b := b)
  unfold F_wants at h9
  rw [mW_0 hp, mW_1 hp, mW_91] at h9
  have rm : q_rem (M 100 5) 2 = M 100 5 % 2 := q_rem_e (by omega) (by omega) (by omega) (by omega)
  rcases (show M 101 p = 3 ∨ M 101 p = 2 ∨ M 101 p = 4 ∨ (M 101 p ≠ 3 ∧ M 101 p ≠ 2 ∧ M 101 p ≠ 4) by omega) with k | k | k | k
  · rw [if_pos k] at h9
    simp (disch := omega) only [b_X6_wantedOf_0, x_loadR_0, x_loadS_0, x_iconst, x_loadI_1, x_loadI_2, x_storeI_3, f_6_1, y_iald_25, tw_11_2, tw_11_3, tw_11_4, tw_11_o, b_X6_wantedOf_40, x_loadI_3, f_6_2, x_imul, x_iadd, x_ret0, b_X6_wantedOf_52, x_ineg, b_X6_wantedOf_55, f_6_5, y_irem, y_if_ne_t, y_if_ne_f, b_X6_wantedOf_64, x_goto, b_X6_wantedOf_78, b_X6_wantedOf_79, b_X6_wantedOf_80, q_isL_I, q_isL_R, q_isL_S, true_and, and_true, and_self, List.length_nil, List.length_cons, Nat.zero_add, x_K, x_Kn, Int.reduceToNat, Nat.reduceAdd, Nat.reduceMul, Nat.reduceLeDiff, Nat.reduceLT, Nat.zero_le, Int.reduceAdd, Int.reduceSub, Int.reduceMul, Int.reduceNeg, q_add_e, q_sub_e, q_mul_e, q_neg_e, q_upd_s, q_upd_n, zr_shr0, zr_shr1, zr_shr2, zr_shr3, zr_shr4, zr_and, zr_dyn8, zr_or, zr_shl, q_cpy_n, y_cpy26, Int.toNat_natCast, e1, k]
    exact h9
  · rw [if_neg (by omega), if_pos (Or.inl k)] at h9
    simp (disch := omega) only [b_X6_wantedOf_0, x_loadR_0, x_loadS_0, x_iconst, x_loadI_1, x_loadI_2, x_storeI_3, f_6_1, y_iald_25, tw_11_2, tw_11_3, tw_11_4, tw_11_o, b_X6_wantedOf_40, x_loadI_3, f_6_2, x_imul, x_iadd, x_ret0, b_X6_wantedOf_52, x_ineg, b_X6_wantedOf_55, f_6_5, y_irem, y_if_ne_t, y_if_ne_f, b_X6_wantedOf_64, x_goto, b_X6_wantedOf_78, b_X6_wantedOf_79, b_X6_wantedOf_80, q_isL_I, q_isL_R, q_isL_S, true_and, and_true, and_self, List.length_nil, List.length_cons, Nat.zero_add, x_K, x_Kn, Int.reduceToNat, Nat.reduceAdd, Nat.reduceMul, Nat.reduceLeDiff, Nat.reduceLT, Nat.zero_le, Int.reduceAdd, Int.reduceSub, Int.reduceMul, Int.reduceNeg, q_add_e, q_sub_e, q_mul_e, q_neg_e, q_upd_s, q_upd_n, zr_shr0, zr_shr1, zr_shr2, zr_shr3, zr_shr4, zr_and, zr_dyn8, zr_or, zr_shl, q_cpy_n, y_cpy26, Int.toNat_natCast, e1, e2, k]
    exact h9
  · rw [if_neg (by omega)] at h9
    by_cases c : M 100 5 % 2 = 0
    · rw [if_pos (Or.inr ⟨k, c⟩)] at h9
      simp (disch := omega) only [b_X6_wantedOf_0, x_loadR_0, x_loadS_0, x_iconst, x_loadI_1, x_loadI_2, x_storeI_3, f_6_1, y_iald_25, tw_11_2, tw_11_3, tw_11_4, tw_11_o, b_X6_wantedOf_40, x_loadI_3, f_6_2, x_imul, x_iadd, x_ret0, b_X6_wantedOf_52, x_ineg, b_X6_wantedOf_55, f_6_5, y_irem, y_if_ne_t, y_if_ne_f, b_X6_wantedOf_64, x_goto, b_X6_wantedOf_78, b_X6_wantedOf_79, b_X6_wantedOf_80, q_isL_I, q_isL_R, q_isL_S, true_and, and_true, and_self, List.length_nil, List.length_cons, Nat.zero_add, x_K, x_Kn, Int.reduceToNat, Nat.reduceAdd, Nat.reduceMul, Nat.reduceLeDiff, Nat.reduceLT, Nat.zero_le, Int.reduceAdd, Int.reduceSub, Int.reduceMul, Int.reduceNeg, q_add_e, q_sub_e, q_mul_e, q_neg_e, q_upd_s, q_upd_n, zr_shr0, zr_shr1, zr_shr2, zr_shr3, zr_shr4, zr_and, zr_dyn8, zr_or, zr_shl, q_cpy_n, y_cpy26, Int.toNat_natCast, e1, e2, e5, k, rm, c]
      exact h9
    · rw [if_neg (by omega)] at h9
      generalize M 100 5 % 2 = y at rm c
      simp (disch := omega) only [b_X6_wantedOf_0, x_loadR_0, x_loadS_0, x_iconst, x_loadI_1, x_loadI_2, x_storeI_3, f_6_1, y_iald_25, tw_11_2, tw_11_3, tw_11_4, tw_11_o, b_X6_wantedOf_40, x_loadI_3, f_6_2, x_imul, x_iadd, x_ret0, b_X6_wantedOf_52, x_ineg, b_X6_wantedOf_55, f_6_5, y_irem, y_if_ne_t, y_if_ne_f, b_X6_wantedOf_64, x_goto, b_X6_wantedOf_78, b_X6_wantedOf_79, b_X6_wantedOf_80, q_isL_I, q_isL_R, q_isL_S, true_and, and_true, and_self, List.length_nil, List.length_cons, Nat.zero_add, x_K, x_Kn, Int.reduceToNat, Nat.reduceAdd, Nat.reduceMul, Nat.reduceLeDiff, Nat.reduceLT, Nat.zero_le, Int.reduceAdd, Int.reduceSub, Int.reduceMul, Int.reduceNeg, q_add_e, q_sub_e, q_mul_e, q_neg_e, q_upd_s, q_upd_n, zr_shr0, zr_shr1, zr_shr2, zr_shr3, zr_shr4, zr_and, zr_dyn8, zr_or, zr_shl, q_cpy_n, y_cpy26, Int.toNat_natCast, e1, e2, e5, k, rm]
      exact h9
  · rw [if_neg (by omega), if_neg (by omega)] at h9
    rcases (show M 101 p = 0 ∨ M 101 p = 1 ∨ M 101 p = 5 by omega) with k2 | k2 | k2
    · simp (disch := omega) only [b_X6_wantedOf_0, x_loadR_0, x_loadS_0, x_iconst, x_loadI_1, x_loadI_2, x_storeI_3, f_6_1, y_iald_25, tw_11_2, tw_11_3, tw_11_4, tw_11_o, b_X6_wantedOf_40, x_loadI_3, f_6_2, x_imul, x_iadd, x_ret0, b_X6_wantedOf_52, x_ineg, b_X6_wantedOf_55, f_6_5, y_irem, y_if_ne_t, y_if_ne_f, b_X6_wantedOf_64, x_goto, b_X6_wantedOf_78, b_X6_wantedOf_79, b_X6_wantedOf_80, q_isL_I, q_isL_R, q_isL_S, true_and, and_true, and_self, List.length_nil, List.length_cons, Nat.zero_add, x_K, x_Kn, Int.reduceToNat, Nat.reduceAdd, Nat.reduceMul, Nat.reduceLeDiff, Nat.reduceLT, Nat.zero_le, Int.reduceAdd, Int.reduceSub, Int.reduceMul, Int.reduceNeg, q_add_e, q_sub_e, q_mul_e, q_neg_e, q_upd_s, q_upd_n, zr_shr0, zr_shr1, zr_shr2, zr_shr3, zr_shr4, zr_and, zr_dyn8, zr_or, zr_shl, q_cpy_n, y_cpy26, Int.toNat_natCast, e1, k2]
      exact h9
    · simp (disch := omega) only [b_X6_wantedOf_0, x_loadR_0, x_loadS_0, x_iconst, x_loadI_1, x_loadI_2, x_storeI_3, f_6_1, y_iald_25, tw_11_2, tw_11_3, tw_11_4, tw_11_o, b_X6_wantedOf_40, x_loadI_3, f_6_2, x_imul, x_iadd, x_ret0, b_X6_wantedOf_52, x_ineg, b_X6_wantedOf_55, f_6_5, y_irem, y_if_ne_t, y_if_ne_f, b_X6_wantedOf_64, x_goto, b_X6_wantedOf_78, b_X6_wantedOf_79, b_X6_wantedOf_80, q_isL_I, q_isL_R, q_isL_S, true_and, and_true, and_self, List.length_nil, List.length_cons, Nat.zero_add, x_K, x_Kn, Int.reduceToNat, Nat.reduceAdd, Nat.reduceMul, Nat.reduceLeDiff, Nat.reduceLT, Nat.zero_le, Int.reduceAdd, Int.reduceSub, Int.reduceMul, Int.reduceNeg, q_add_e, q_sub_e, q_mul_e, q_neg_e, q_upd_s, q_upd_n, zr_shr0, zr_shr1, zr_shr2, zr_shr3, zr_shr4, zr_and, zr_dyn8, zr_or, zr_shl, q_cpy_n, y_cpy26, Int.toNat_natCast, e1, k2]
      exact h9
    · simp (disch := omega) only [b_X6_wantedOf_0, x_loadR_0, x_loadS_0, x_iconst, x_loadI_1, x_loadI_2, x_storeI_3, f_6_1, y_iald_25, tw_11_2, tw_11_3, tw_11_4, tw_11_o, b_X6_wantedOf_40, x_loadI_3, f_6_2, x_imul, x_iadd, x_ret0, b_X6_wantedOf_52, x_ineg, b_X6_wantedOf_55, f_6_5, y_irem, y_if_ne_t, y_if_ne_f, b_X6_wantedOf_64, x_goto, b_X6_wantedOf_78, b_X6_wantedOf_79, b_X6_wantedOf_80, q_isL_I, q_isL_R, q_isL_S, true_and, and_true, and_self, List.length_nil, List.length_cons, Nat.zero_add, x_K, x_Kn, Int.reduceToNat, Nat.reduceAdd, Nat.reduceMul, Nat.reduceLeDiff, Nat.reduceLT, Nat.zero_le, Int.reduceAdd, Int.reduceSub, Int.reduceMul, Int.reduceNeg, q_add_e, q_sub_e, q_mul_e, q_neg_e, q_upd_s, q_upd_n, zr_shr0, zr_shr1, zr_shr2, zr_shr3, zr_shr4, zr_and, zr_dyn8, zr_or, zr_shl, q_cpy_n, y_cpy26, Int.toNat_natCast, e1, k2]
      exact h9
