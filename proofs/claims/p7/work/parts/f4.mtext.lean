/-! THE MODEL'S READER: a text -/
def q_tfr (tm : Nat) (M M2 : q_M) : Prop := ∀ a i, (a = 106 → i < 200 * tm ∨ 200 * tm + 200 ≤ i) → (a = 107 → i < 4 * tm ∨ 4 * tm + 4 ≤ i) → (a = 100 → i ≠ 7 ∧ i ≠ 19 ∧ i ≠ 20 ∧ i ≠ 21 ∧ i ≠ 22 ∧ i ≠ 25 ∧ i ≠ 26 ∧ i ≠ 27) → a ≠ 115 → M2 a i = M a i
theorem q_tfr_rf {tm : Nat} {M : q_M} : q_tfr tm M M := fun _ _ _ _ _ _ => rfl
theorem q_tfr_tr {tm : Nat} {M M2 M3 : q_M} (h : q_tfr tm M M2) (h2 : q_tfr tm M2 M3) : q_tfr tm M M3 := fun a i q1 q2 q3 q4 => (h2 a i q1 q2 q3 q4).trans (h a i q1 q2 q3 q4)
theorem q_tfr_e {tm s : Nat} {M M2 : q_M} (h : q_efr tm s M M2) : q_tfr tm M M2 := fun a i q1 q2 q3 q4 => h a i (fun z => by have := q1 z; omega) (fun z => by have := q3 z; omega) q4
theorem q_tfr_n {tm : Nat} {M M2 : q_M} (h : q_nxf M M2) : q_tfr tm M M2 := fun a i q1 q2 q3 q4 => h a i (fun z => by have := q3 z; omega)
theorem q_tfr_up {tm a i : Nat} {v : Int} {M M2 : q_M} (h : q_tfr tm M M2) (hi : (a = 107 ∧ 4 * tm ≤ i ∧ i < 4 * tm + 4) ∨ (a = 100 ∧ (i = 7 ∨ i = 19 ∨ i = 27))) : q_tfr tm M (q_upd M2 a i v) := fun b j q1 q2 q3 q4 => (q_upd_n (by
  by_cases e : b = a
  · exact Or.inr (fun e2 => by subst e; subst e2; omega)
  · exact Or.inl e)).trans (h b j q1 q2 q3 q4)
theorem q_tfr_mfr {tm : Nat} {M M2 : q_M} (h : q_tfr tm M M2) : q_mfr M M2 := fun a i ha => h a i (by omega) (by omega) (by omega) (by omega)
theorem q_lawT_same {V : Nat → (Nat → Int) → Int} {r : Nat} {M M2 : q_M} (h : ∀ a i, ((a = 106 ∧ 200 * r ≤ i ∧ i < 200 * r + 200) ∨ (a = 107 ∧ 4 * r ≤ i ∧ i < 4 * r + 4)) → M2 a i = M a i) (hT : q_lawT V r M) : q_lawT V r M2 := fun M' h1 h2 => hT M' (fun a i ha => (h1 a i ha).trans (h a i ha)) h2
theorem q_MI_tfr {Vt : Nat → Nat → (Nat → Int) → Int} {tm : Nat} {M M2 : q_M} (hI : q_MI Vt tm M) (h : q_tfr tm M M2) (h7 : 0 ≤ M2 100 7 ∧ M2 100 7 ≤ 160) : q_MI Vt tm M2 := by
  obtain ⟨g1, g2, g3, g4, ⟨t1, t2, t3, t4⟩, g6, g7, g8, g9⟩ := hI
  exact ⟨q_mb_same (fun a i ha => h a i (by omega) (by omega) (by omega) (by omega)) g1, by rw [h 100 5 (by omega) (by omega) (by omega) (by omega)]; exact g2, fun b hb => by rw [h 103 _ (by omega) (by omega) (by omega) (by omega)]; exact g3 b hb, fun s hs => by rw [h 111 _ (by omega) (by omega) (by omega) (by omega)]; exact g4 s hs, ⟨t1, t2, (h 100 10 (by omega) (by omega) (by omega) (by omega)).trans t3, fun t ht => ⟨(t4 t ht).1, q_lawT_same (fun a i ha => h a i (by omega) (by omega) (by omega) (by omega)) (t4 t ht).2⟩⟩, by rw [h 100 11 (by omega) (by omega) (by omega) (by omega)]; exact g6, h7, q_img_same (fun a i ha => h a i (by omega) (by omega) (by omega) (by omega)) g8, by rw [h 100 12 (by omega) (by omega) (by omega) (by omega)]; exact g9⟩
def q_Vadd (Vt : Nat → Nat → (Nat → Int) → Int) (tm : Nat) (V : Nat → (Nat → Int) → Int) : Nat → Nat → (Nat → Int) → Int := fun t => if t = tm then V else Vt t
theorem q_MI_add {Vt : Nat → Nat → (Nat → Int) → Int} {tm : Nat} {M : q_M} (hI : q_MI Vt tm M) (ht : tm < 6) (hw : q_wfT (fun i => M 106 (200 * tm + i)) (fun i => M 107 (4 * tm + i))) : q_MI (q_Vadd Vt tm (q_V1 (fun i => M 106 (200 * tm + i)) (fun i => M 107 (4 * tm + i)))) (tm + 1) (q_upd M 100 10 ((tm : Int) + 1)) := by
  obtain ⟨g1, g2, g3, g4, ⟨t1, t2, t3, t4⟩, g6, g7, g8, g9⟩ := hI
  obtain ⟨i1, i2, i3, i4, i5, i6, i7, i8, i9, i10⟩ := g8
  refine ⟨q_mb_same (fun a i ha => q_upd_n (by omega)) g1, by rw [q_upd_n (by omega)]; exact g2, fun b hb => by rw [q_upd_n (by omega)]; exact g3 b hb, fun s hs => by rw [q_upd_n (by omega)]; exact g4 s hs, ⟨by omega, by omega, by rw [q_upd_s]; omega, fun t h => ?_⟩, by rw [q_upd_n (by omega)]; omega, by rw [q_upd_n (by omega)]; exact g7, q_img_same (M := M) (fun a i ha => q_upd_n (by omega)) ⟨i1, i2, i3, i4, i5, i6, i7, i8, i9, by omega⟩, by rw [q_upd_n (by omega)]; exact g9⟩
  by_cases e : t = tm
  · subst e
    rw [show q_Vadd Vt t (q_V1 (fun i => M 106 (200 * t + i)) (fun i => M 107 (4 * t + i))) t = q_V1 (fun i => M 106 (200 * t + i)) (fun i => M 107 (4 * t + i)) from if_pos rfl]
    exact ⟨q_lawV_1, q_lawT_same (fun a i ha => q_upd_n (by omega)) (q_lawT_of ht hw)⟩
  · rw [show q_Vadd Vt tm (q_V1 (fun i => M 106 (200 * tm + i)) (fun i => M 107 (4 * tm + i))) t = Vt t from if_neg e]
    have hx := t4 t (by omega)
    exact ⟨hx.1, q_lawT_same (fun a i ha => q_upd_n (by omega)) hx.2⟩
/-- the parts read so far -/
def q_tpt (tm i : Nat) (S : Nat → Nat) (M : q_M) : Prop := (∀ p, p < i → M 107 (4 * tm + p) = S p) ∧ M 100 27 = S i ∧ (∀ p, p < i → S (p + 1) ≤ S i) ∧ ∀ p, p < i → S p < S (p + 1) ∧ ∃ D, q_wfP (fun i => M 106 (200 * tm + i)) (S p) (S (p + 1)) D ∧ D (S (p + 1)) = 1
theorem q_wfP_c {C C' : Nat → Int} {s o : Nat} {D : Nat → Nat} (hw : q_wfP C s o D) (hc : ∀ i, i < o → C' i = C i) : q_wfP C' s o D := ⟨hw.1, fun i h1 h2 => by rw [hc i h2]; exact hw.2 i h1 h2⟩
theorem q_tpt_nxf {tm i : Nat} {S : Nat → Nat} {M M2 : q_M} (h : q_tpt tm i S M) (hf : q_nxf M M2) : q_tpt tm i S M2 := ⟨fun p hp => (hf 107 _ (by omega)).trans (h.1 p hp), (hf 100 27 (by omega)).trans h.2.1, h.2.2.1, fun p hp => by
  obtain ⟨h1, D, h2, h3⟩ := h.2.2.2 p hp
  exact ⟨h1, D, q_wfP_c h2 (fun j _ => hf 106 _ (by omega)), h3⟩⟩
set_option maxHeartbeats 16000000 in
theorem mw_text {Vt : Nat → Nat → (Nat → Int) → Int} {d tm : Nat} {g : q_G} {M : q_M} {Q : Option q_V → q_G → q_M → Prop} (hI : q_MI Vt tm M) (hq : ∀ (v : Int) (Vt2 : Nat → Nat → (Nat → Int) → Int) (tm2 : Nat) (M2 : q_M), q_MI Vt2 tm2 M2 → q_mfr M M2 → Q (some (qI v)) g M2) : q_S 1 (d + 11) 133 [qR 6 100] g M Q := by
  have ht1 := hI.2.2.2.2.1.1
  have ht2 := hI.2.2.2.2.1.2.1
  have h10 := hI.2.2.2.2.1.2.2.1
  obtain ⟨n, hn⟩ : ∃ n : Nat, M 100 7 = n := ⟨(M 100 7).toNat, by have := hI.2.2.2.2.2.2.1; omega⟩
  have hn2 : n ≤ 160 := by have := hI.2.2.2.2.2.2.1; omega
  rw [s_X6_text]
  by_cases c6 : tm = 6
  · subst c6
    simp (disch := omega) only [b_X6_text_0, x_loadR_0, x_loadS_0, f_6_10, x_iconst, y_ic_ne_t, y_ic_ne_f, b_X6_text_9, x_ret0, b_X6_text_12, p_6_19, p_6_27, x_storeI_1, x_storeI_2, b_X6_text_26, x_loadI_2, y_ic_ge_t, y_ic_ge_f, b_X6_text_31, x_loadI_1, y_if_eq_t, y_if_eq_f, b_X6_text_35, f_6_21, b_X6_text_47, f_6_22, b_X6_text_55, x_goto, b_X6_text_59, b_X6_text_60, f_6_9, x_imul, x_iadd, f_6_27, y_iast_44, b_X6_text_82, b_X6_text_89, b_X6_text_93, b_X6_text_94, x_iinc_2, b_X6_text_101, b_X6_text_105, y_if_ne_t, y_if_ne_f, b_X6_text_116, b_X6_text_120, b_X6_text_121, b_X6_text_122, p_6_7, b_X6_text_148, f_6_20, x_isub, b_X6_text_156, x_dupI, x_dupR, p_6_10, q_isL_I, q_isL_R, q_isL_S, true_and, and_true, and_self, List.length_nil, List.length_cons, Nat.zero_add, x_K, x_Kn, Int.reduceToNat, Nat.reduceAdd, Nat.reduceMul, Nat.reduceLeDiff, Nat.reduceLT, Nat.zero_le, Int.reduceAdd, Int.reduceSub, Int.reduceMul, Int.reduceNeg, q_add_e, q_sub_e, q_mul_e, q_neg_e, q_upd_s, q_upd_n, zr_shr0, zr_shr1, zr_shr2, zr_shr3, zr_shr4, zr_and, zr_dyn8, zr_or, zr_shl, q_cpy_n, y_cpy26, h10]
    exact hq _ Vt 6 M hI q_mfr_rf
  have t3 : (4 * (tm : Int) + 3).toNat = 4 * tm + 3 := by omega
  have fail : ∀ (M1 : q_M) (l2 : q_V), q_isL l2 = false → q_tfr tm M M1 → q_T 1 (d + 11) qP_X6_text 122 [] [qR 6 100, qI 0, l2] [] g M1 Q := by
    intro M1 l2 i2 hf
    have e10 : M1 100 10 = tm := (hf 100 10 (by omega) (by omega) (by omega) (by omega)).trans h10
    rw [b_X6_text_122]
    simp (disch := omega) only [b_X6_text_0, x_loadR_0, x_loadS_0, f_6_10, x_iconst, y_ic_ne_t, y_ic_ne_f, b_X6_text_9, x_ret0, b_X6_text_12, p_6_19, p_6_27, x_storeI_1, x_storeI_2, x_loadI_2, y_ic_ge_t, y_ic_ge_f, b_X6_text_31, x_loadI_1, y_if_eq_t, y_if_eq_f, b_X6_text_35, f_6_21, b_X6_text_47, f_6_22, b_X6_text_55, x_goto, b_X6_text_59, b_X6_text_60, f_6_9, x_imul, x_iadd, f_6_27, y_iast_44, b_X6_text_82, b_X6_text_89, b_X6_text_93, b_X6_text_94, x_iinc_2, b_X6_text_101, b_X6_text_105, y_if_ne_t, y_if_ne_f, b_X6_text_116, b_X6_text_120, b_X6_text_121, p_6_7, b_X6_text_148, f_6_20, x_isub, b_X6_text_156, x_dupI, x_dupR, p_6_10, q_isL_I, q_isL_R, q_isL_S, true_and, and_true, and_self, List.length_nil, List.length_cons, Nat.zero_add, x_K, x_Kn, Int.reduceToNat, Nat.reduceAdd, Nat.reduceMul, Nat.reduceLeDiff, Nat.reduceLT, Nat.zero_le, Int.reduceAdd, Int.reduceSub, Int.reduceMul, Int.reduceNeg, q_add_e, q_sub_e, q_mul_e, q_neg_e, q_upd_s, q_upd_n, zr_shr0, zr_shr1, zr_shr2, zr_shr3, zr_shr4, zr_and, zr_dyn8, zr_or, zr_shl, q_cpy_n, y_cpy26, e10, t3]
    have hf2 := q_tfr_up (v := 0) (q_tfr_up (v := M1 100 27) hf (Or.inl ⟨rfl, show 4 * tm ≤ 4 * tm + 3 by omega, by omega⟩)) (Or.inr ⟨rfl, Or.inl rfl⟩)
    exact hq _ Vt tm _ (q_MI_tfr hI hf2 (by rw [q_upd_s]; omega)) (q_tfr_mfr hf2)
  have fail2 : ∀ (M1 : q_M) (i : Nat), i ≤ 3 → q_tfr tm M M1 → q_T 1 (d + 11) qP_X6_text 26 [] [qR 6 100, qI 0, qI i] [] g M1 Q := by
    intro M1 i hi hf
    rw [b_X6_text_26]
    by_cases c : i = 3
    · simp (disch := omega) only [b_X6_text_0, x_loadR_0, x_loadS_0, f_6_10, x_iconst, y_ic_ne_t, y_ic_ne_f, b_X6_text_9, x_ret0, b_X6_text_12, p_6_19, p_6_27, x_storeI_1, x_storeI_2, x_loadI_2, y_ic_ge_t, y_ic_ge_f, b_X6_text_31, x_loadI_1, y_if_eq_t, y_if_eq_f, b_X6_text_35, f_6_21, b_X6_text_47, f_6_22, b_X6_text_55, x_goto, b_X6_text_59, b_X6_text_60, f_6_9, x_imul, x_iadd, f_6_27, y_iast_44, b_X6_text_82, b_X6_text_89, b_X6_text_93, b_X6_text_94, x_iinc_2, b_X6_text_101, b_X6_text_105, y_if_ne_t, y_if_ne_f, b_X6_text_116, b_X6_text_120, b_X6_text_121, p_6_7, b_X6_text_148, f_6_20, x_isub, b_X6_text_156, x_dupI, x_dupR, p_6_10, q_isL_I, q_isL_R, q_isL_S, true_and, and_true, and_self, List.length_nil, List.length_cons, Nat.zero_add, x_K, x_Kn, Int.reduceToNat, Nat.reduceAdd, Nat.reduceMul, Nat.reduceLeDiff, Nat.reduceLT, Nat.zero_le, Int.reduceAdd, Int.reduceSub, Int.reduceMul, Int.reduceNeg, q_add_e, q_sub_e, q_mul_e, q_neg_e, q_upd_s, q_upd_n, zr_shr0, zr_shr1, zr_shr2, zr_shr3, zr_shr4, zr_and, zr_dyn8, zr_or, zr_shl, q_cpy_n, y_cpy26]
      exact fail M1 _ rfl hf
    · simp (disch := omega) only [b_X6_text_0, x_loadR_0, x_loadS_0, f_6_10, x_iconst, y_ic_ne_t, y_ic_ne_f, b_X6_text_9, x_ret0, b_X6_text_12, p_6_19, p_6_27, x_storeI_1, x_storeI_2, x_loadI_2, y_ic_ge_t, y_ic_ge_f, b_X6_text_31, x_loadI_1, y_if_eq_t, y_if_eq_f, b_X6_text_35, f_6_21, b_X6_text_47, f_6_22, b_X6_text_55, x_goto, b_X6_text_59, b_X6_text_60, f_6_9, x_imul, x_iadd, f_6_27, y_iast_44, b_X6_text_82, b_X6_text_89, b_X6_text_93, b_X6_text_94, x_iinc_2, b_X6_text_101, b_X6_text_105, y_if_ne_t, y_if_ne_f, b_X6_text_116, b_X6_text_120, b_X6_text_121, p_6_7, b_X6_text_148, f_6_20, x_isub, b_X6_text_156, x_dupI, x_dupR, p_6_10, q_isL_I, q_isL_R, q_isL_S, true_and, and_true, and_self, List.length_nil, List.length_cons, Nat.zero_add, x_K, x_Kn, Int.reduceToNat, Nat.reduceAdd, Nat.reduceMul, Nat.reduceLeDiff, Nat.reduceLT, Nat.zero_le, Int.reduceAdd, Int.reduceSub, Int.reduceMul, Int.reduceNeg, q_add_e, q_sub_e, q_mul_e, q_neg_e, q_upd_s, q_upd_n, zr_shr0, zr_shr1, zr_shr2, zr_shr3, zr_shr4, zr_and, zr_dyn8, zr_or, zr_shl, q_cpy_n, y_cpy26]
      exact fail M1 _ rfl hf
  have loop : ∀ j i : Nat, i + j = 3 → ∀ (M1 : q_M) (at1 : Nat) (S : Nat → Nat), q_tfr tm M M1 → M1 100 7 = n → M1 100 19 = at1 → at1 ≤ n → S i ≤ at1 → q_tpt tm i S M1 → q_T 1 (d + 11) qP_X6_text 26 [] [qR 6 100, qI 1, qI i] [] g M1 Q := by
    intro j
    induction j with
    | zero =>
      intro i hi M1 at1 S hf e7 e19 hat hS hT
      have ei : i = 3 := by omega
      subst ei
      rw [b_X6_text_26]
      simp (disch := omega) only [b_X6_text_0, x_loadR_0, x_loadS_0, f_6_10, x_iconst, y_ic_ne_t, y_ic_ne_f, b_X6_text_9, x_ret0, b_X6_text_12, p_6_19, p_6_27, x_storeI_1, x_storeI_2, x_loadI_2, y_ic_ge_t, y_ic_ge_f, b_X6_text_31, x_loadI_1, y_if_eq_t, y_if_eq_f, b_X6_text_35, f_6_21, b_X6_text_47, f_6_22, b_X6_text_55, x_goto, b_X6_text_59, b_X6_text_60, f_6_9, x_imul, x_iadd, f_6_27, y_iast_44, b_X6_text_82, b_X6_text_89, b_X6_text_93, b_X6_text_94, x_iinc_2, b_X6_text_101, b_X6_text_105, y_if_ne_t, y_if_ne_f, b_X6_text_116, b_X6_text_120, b_X6_text_121, p_6_7, b_X6_text_148, f_6_20, x_isub, b_X6_text_156, x_dupI, x_dupR, p_6_10, q_isL_I, q_isL_R, q_isL_S, true_and, and_true, and_self, List.length_nil, List.length_cons, Nat.zero_add, x_K, x_Kn, Int.reduceToNat, Nat.reduceAdd, Nat.reduceMul, Nat.reduceLeDiff, Nat.reduceLT, Nat.zero_le, Int.reduceAdd, Int.reduceSub, Int.reduceMul, Int.reduceNeg, q_add_e, q_sub_e, q_mul_e, q_neg_e, q_upd_s, q_upd_n, zr_shr0, zr_shr1, zr_shr2, zr_shr3, zr_shr4, zr_and, zr_dyn8, zr_or, zr_shl, q_cpy_n, y_cpy26, c_X6_next]
      refine mp_next (d := d + 9) e7 hn2 e19 hat (fun M2 k2 hn3 g19 hk1 hk2 hk3 hk4 hk5 hk6 => ?_)
      have hf2 := q_tfr_tr hf (q_tfr_n (tm := tm) hn3)
      have hT2 := q_tpt_nxf hT hn3
      have e10 : M2 100 10 = tm := (hf2 100 10 (by omega) (by omega) (by omega) (by omega)).trans h10
      by_cases t0 : M2 100 21 = 0
      · obtain ⟨p1, p2, p3, p4⟩ := hT2
        have hf3 := q_tfr_up (v := 0) (q_tfr_up (v := (S 3 : Int)) hf2 (Or.inl ⟨rfl, show 4 * tm ≤ 4 * tm + 3 by omega, by omega⟩)) (Or.inr ⟨rfl, Or.inl rfl⟩)
        have hI3 := q_MI_tfr hI hf3 (by rw [q_upd_s]; omega)
        have hw : q_wfT (fun i => q_upd (q_upd M2 107 (4 * tm + 3) (S 3 : Int)) 100 7 0 106 (200 * tm + i)) (fun i => q_upd (q_upd M2 107 (4 * tm + 3) (S 3 : Int)) 100 7 0 107 (4 * tm + i)) := by
          intro p hp
          obtain ⟨h1, D, h2, h3⟩ := p4 p hp
          have h4 := p3 p hp
          refine ⟨S p, S (p + 1), D, ?_, ?_, h1, by omega, q_wfP_c h2 (fun x _ => by simp (disch := omega) only [q_upd_n]), h3⟩
          · show q_upd (q_upd M2 107 (4 * tm + 3) (S 3 : Int)) 100 7 0 107 (4 * tm + p) = S p
            rw [q_upd_n (by omega), q_upd_n (by omega)]
            exact p1 p hp
          · show q_upd (q_upd M2 107 (4 * tm + 3) (S 3 : Int)) 100 7 0 107 (4 * tm + (p + 1)) = S (p + 1)
            by_cases e : p = 2
            · subst e
              rw [q_upd_n (by omega), q_upd_s]
            · rw [q_upd_n (by omega), q_upd_n (by omega)]
              exact p1 (p + 1) (by omega)
        simp (disch := omega) only [b_X6_text_0, x_loadR_0, x_loadS_0, f_6_10, x_iconst, y_ic_ne_t, y_ic_ne_f, b_X6_text_9, x_ret0, b_X6_text_12, p_6_19, p_6_27, x_storeI_1, x_storeI_2, x_loadI_2, y_ic_ge_t, y_ic_ge_f, b_X6_text_31, x_loadI_1, y_if_eq_t, y_if_eq_f, b_X6_text_35, f_6_21, b_X6_text_47, f_6_22, b_X6_text_55, x_goto, b_X6_text_59, b_X6_text_60, f_6_9, x_imul, x_iadd, f_6_27, y_iast_44, b_X6_text_82, b_X6_text_89, b_X6_text_93, b_X6_text_94, x_iinc_2, b_X6_text_101, b_X6_text_105, y_if_ne_t, y_if_ne_f, b_X6_text_116, b_X6_text_120, b_X6_text_121, b_X6_text_122, p_6_7, b_X6_text_148, f_6_20, x_isub, b_X6_text_156, x_dupI, x_dupR, p_6_10, q_isL_I, q_isL_R, q_isL_S, true_and, and_true, and_self, List.length_nil, List.length_cons, Nat.zero_add, x_K, x_Kn, Int.reduceToNat, Nat.reduceAdd, Nat.reduceMul, Nat.reduceLeDiff, Nat.reduceLT, Nat.zero_le, Int.reduceAdd, Int.reduceSub, Int.reduceMul, Int.reduceNeg, q_add_e, q_sub_e, q_mul_e, q_neg_e, q_upd_s, q_upd_n, zr_shr0, zr_shr1, zr_shr2, zr_shr3, zr_shr4, zr_and, zr_dyn8, zr_or, zr_shl, q_cpy_n, y_cpy26, e10, t3, p2]
        exact hq _ _ (tm + 1) _ (q_MI_add hI3 (by omega) hw) (fun a i ha => (q_upd_n (by omega)).trans (q_tfr_mfr hf3 a i ha))
      · simp (disch := omega) only [b_X6_text_0, x_loadR_0, x_loadS_0, f_6_10, x_iconst, y_ic_ne_t, y_ic_ne_f, b_X6_text_9, x_ret0, b_X6_text_12, p_6_19, p_6_27, x_storeI_1, x_storeI_2, x_loadI_2, y_ic_ge_t, y_ic_ge_f, b_X6_text_31, x_loadI_1, y_if_eq_t, y_if_eq_f, b_X6_text_35, f_6_21, b_X6_text_47, f_6_22, b_X6_text_55, x_goto, b_X6_text_59, b_X6_text_60, f_6_9, x_imul, x_iadd, f_6_27, y_iast_44, b_X6_text_82, b_X6_text_89, b_X6_text_93, b_X6_text_94, x_iinc_2, b_X6_text_101, b_X6_text_105, y_if_ne_t, y_if_ne_f, b_X6_text_116, b_X6_text_120, b_X6_text_121, p_6_7, b_X6_text_148, f_6_20, x_isub, b_X6_text_156, x_dupI, x_dupR, p_6_10, q_isL_I, q_isL_R, q_isL_S, true_and, and_true, and_self, List.length_nil, List.length_cons, Nat.zero_add, x_K, x_Kn, Int.reduceToNat, Nat.reduceAdd, Nat.reduceMul, Nat.reduceLeDiff, Nat.reduceLT, Nat.zero_le, Int.reduceAdd, Int.reduceSub, Int.reduceMul, Int.reduceNeg, q_add_e, q_sub_e, q_mul_e, q_neg_e, q_upd_s, q_upd_n, zr_shr0, zr_shr1, zr_shr2, zr_shr3, zr_shr4, zr_and, zr_dyn8, zr_or, zr_shl, q_cpy_n, y_cpy26]
        exact fail M2 _ rfl hf2
    | succ j ih =>
      intro i hi M1 at1 S hf e7 e19 hat hS hT
      have ti : (4 * (tm : Int) + (i : Int)).toNat = 4 * tm + i := by omega
      rw [b_X6_text_26]
      simp (disch := omega) only [b_X6_text_0, x_loadR_0, x_loadS_0, f_6_10, x_iconst, y_ic_ne_t, y_ic_ne_f, b_X6_text_9, x_ret0, b_X6_text_12, p_6_19, p_6_27, x_storeI_1, x_storeI_2, x_loadI_2, y_ic_ge_t, y_ic_ge_f, b_X6_text_31, x_loadI_1, y_if_eq_t, y_if_eq_f, b_X6_text_35, f_6_21, b_X6_text_47, f_6_22, b_X6_text_55, x_goto, b_X6_text_59, b_X6_text_60, f_6_9, x_imul, x_iadd, f_6_27, y_iast_44, b_X6_text_82, b_X6_text_89, b_X6_text_93, b_X6_text_94, x_iinc_2, b_X6_text_101, b_X6_text_105, y_if_ne_t, y_if_ne_f, b_X6_text_116, b_X6_text_120, b_X6_text_121, p_6_7, b_X6_text_148, f_6_20, x_isub, b_X6_text_156, x_dupI, x_dupR, p_6_10, q_isL_I, q_isL_R, q_isL_S, true_and, and_true, and_self, List.length_nil, List.length_cons, Nat.zero_add, x_K, x_Kn, Int.reduceToNat, Nat.reduceAdd, Nat.reduceMul, Nat.reduceLeDiff, Nat.reduceLT, Nat.zero_le, Int.reduceAdd, Int.reduceSub, Int.reduceMul, Int.reduceNeg, q_add_e, q_sub_e, q_mul_e, q_neg_e, q_upd_s, q_upd_n, zr_shr0, zr_shr1, zr_shr2, zr_shr3, zr_shr4, zr_and, zr_dyn8, zr_or, zr_shl, q_cpy_n, y_cpy26, c_X6_next]
      refine mp_next (d := d + 9) e7 hn2 e19 hat (fun M2 k2 hn3 g19 hk1 hk2 hk3 hk4 hk5 hk6 => ?_)
      have hf2 := q_tfr_tr hf (q_tfr_n (tm := tm) hn3)
      have hT2 := q_tpt_nxf hT hn3
      have e10 : M2 100 10 = tm := (hf2 100 10 (by omega) (by omega) (by omega) (by omega)).trans h10
      have e27 := hT2.2.1
      have g7 : M2 100 7 = n := (hn3 100 7 (by omega)).trans e7
      have hf3 := fun v => q_tfr_up (v := v) hf2 (Or.inl ⟨rfl, show 4 * tm ≤ 4 * tm + i by omega, by omega⟩)
      have bad : q_T 1 (d + 11) qP_X6_text 26 [] [qR 6 100, qI 0, qI ((i : Int) + 1)] [] g (q_upd M2 107 (4 * tm + i) (S i : Int)) Q := fail2 _ (i + 1) (by omega) (hf3 _)
      have good : q_S 1 (d + 10) 132 [qR 6 100] g (q_upd M2 107 (4 * tm + i) (S i : Int)) (q_K 1 (d + 11) qP_X6_text 89 [.ifCond .eq 93] [qR 6 100, qI 1, qI i] [] Q) := by
        refine mp_eRead (d := d + 7) (tm := tm) (s := S i) (n := n) (at0 := k2) (by rw [q_upd_n (by omega)]; exact e10) (by omega) (by rw [q_upd_n (by omega)]; exact e27) (by rw [q_upd_n (by omega)]; exact g7) hn2 (by rw [q_upd_n (by omega)]; exact g19) hk2 (by omega) (fun M3 hf4 => ?_) (fun M3 o2 at2 D hf4 f27 f19 hat2 hoa hso hwf hD1 => ?_)
        · simp (disch := omega) only [b_X6_text_0, x_loadR_0, x_loadS_0, f_6_10, x_iconst, y_ic_ne_t, y_ic_ne_f, b_X6_text_9, x_ret0, b_X6_text_12, p_6_19, p_6_27, x_storeI_1, x_storeI_2, x_loadI_2, y_ic_ge_t, y_ic_ge_f, b_X6_text_31, x_loadI_1, y_if_eq_t, y_if_eq_f, b_X6_text_35, f_6_21, b_X6_text_47, f_6_22, b_X6_text_55, x_goto, b_X6_text_59, b_X6_text_60, f_6_9, x_imul, x_iadd, f_6_27, y_iast_44, b_X6_text_82, b_X6_text_89, b_X6_text_93, b_X6_text_94, x_iinc_2, b_X6_text_101, b_X6_text_105, y_if_ne_t, y_if_ne_f, b_X6_text_116, b_X6_text_120, b_X6_text_121, p_6_7, b_X6_text_148, f_6_20, x_isub, b_X6_text_156, x_dupI, x_dupR, p_6_10, q_isL_I, q_isL_R, q_isL_S, true_and, and_true, and_self, List.length_nil, List.length_cons, Nat.zero_add, x_K, x_Kn, Int.reduceToNat, Nat.reduceAdd, Nat.reduceMul, Nat.reduceLeDiff, Nat.reduceLT, Nat.zero_le, Int.reduceAdd, Int.reduceSub, Int.reduceMul, Int.reduceNeg, q_add_e, q_sub_e, q_mul_e, q_neg_e, q_upd_s, q_upd_n, zr_shr0, zr_shr1, zr_shr2, zr_shr3, zr_shr4, zr_and, zr_dyn8, zr_or, zr_shl, q_cpy_n, y_cpy26]
          exact fail2 _ (i + 1) (by omega) (q_tfr_tr (hf3 _) (q_tfr_e hf4))
        · simp (disch := omega) only [b_X6_text_0, x_loadR_0, x_loadS_0, f_6_10, x_iconst, y_ic_ne_t, y_ic_ne_f, b_X6_text_9, x_ret0, b_X6_text_12, p_6_19, p_6_27, x_storeI_1, x_storeI_2, x_loadI_2, y_ic_ge_t, y_ic_ge_f, b_X6_text_31, x_loadI_1, y_if_eq_t, y_if_eq_f, b_X6_text_35, f_6_21, b_X6_text_47, f_6_22, b_X6_text_55, x_goto, b_X6_text_59, b_X6_text_60, f_6_9, x_imul, x_iadd, f_6_27, y_iast_44, b_X6_text_82, b_X6_text_89, b_X6_text_93, b_X6_text_94, x_iinc_2, b_X6_text_101, b_X6_text_105, y_if_ne_t, y_if_ne_f, b_X6_text_116, b_X6_text_120, b_X6_text_121, p_6_7, b_X6_text_148, f_6_20, x_isub, b_X6_text_156, x_dupI, x_dupR, p_6_10, q_isL_I, q_isL_R, q_isL_S, true_and, and_true, and_self, List.length_nil, List.length_cons, Nat.zero_add, x_K, x_Kn, Int.reduceToNat, Nat.reduceAdd, Nat.reduceMul, Nat.reduceLeDiff, Nat.reduceLT, Nat.zero_le, Int.reduceAdd, Int.reduceSub, Int.reduceMul, Int.reduceNeg, q_add_e, q_sub_e, q_mul_e, q_neg_e, q_upd_s, q_upd_n, zr_shr0, zr_shr1, zr_shr2, zr_shr3, zr_shr4, zr_and, zr_dyn8, zr_or, zr_shl, q_cpy_n, y_cpy26]
          have f7 : M3 100 7 = n := (hf4 100 7 (by omega) (by omega) (by omega)).trans (by rw [q_upd_n (by omega)]; exact g7)
          refine ih (i + 1) (by omega) M3 at2 (F_un S (i + 1) o2) (q_tfr_tr (hf3 _) (q_tfr_e hf4)) f7 f19 hat2 (by rw [F_un_s]; exact hoa) ?_
          obtain ⟨p1, p2, p3, p4⟩ := hT2
          have fo : ∀ x, x ≤ i → F_un S (i + 1) o2 x = S x := fun x hx => if_neg (by omega)
          refine ⟨fun p hp => ?_, by rw [F_un_s]; exact f27, fun p hp => ?_, fun p hp => ?_⟩
          · rw [hf4 107 _ (by omega) (by omega) (by omega), fo p (by omega)]
            by_cases e : p = i
            · subst e
              rw [q_upd_s]
            · rw [q_upd_n (by omega)]
              exact p1 p (by omega)
          · rw [F_un_s]
            by_cases e : p = i
            · subst e
              rw [F_un_s]
              exact Nat.le_refl _
            · rw [fo (p + 1) (by omega)]
              have := p3 p (by omega)
              omega
          · by_cases e : p = i
            · subst e
              rw [F_un_s, fo p (by omega)]
              exact ⟨hso, D, hwf, hD1⟩
            · rw [fo (p + 1) (by omega), fo p (by omega)]
              obtain ⟨h1, D2, h2, h3⟩ := p4 p (by omega)
              have h4 := p3 p (by omega)
              exact ⟨h1, D2, q_wfP_c h2 (fun x hx => (hf4 106 _ (fun _ => Or.inl (by omega)) (by omega) (by omega)).trans (q_upd_n (by omega))), h3⟩
      by_cases t3 : M2 100 21 = 3
      · by_cases t4 : M2 100 22 = i
        · simp (disch := omega) only [b_X6_text_0, x_loadR_0, x_loadS_0, f_6_10, x_iconst, y_ic_ne_t, y_ic_ne_f, b_X6_text_9, x_ret0, b_X6_text_12, p_6_19, p_6_27, x_storeI_1, x_storeI_2, x_loadI_2, y_ic_ge_t, y_ic_ge_f, b_X6_text_31, x_loadI_1, y_if_eq_t, y_if_eq_f, b_X6_text_35, f_6_21, b_X6_text_47, f_6_22, b_X6_text_55, x_goto, b_X6_text_59, b_X6_text_60, f_6_9, x_imul, x_iadd, f_6_27, y_iast_44, b_X6_text_82, b_X6_text_89, b_X6_text_93, b_X6_text_94, x_iinc_2, b_X6_text_101, b_X6_text_105, y_if_ne_t, y_if_ne_f, b_X6_text_116, b_X6_text_120, b_X6_text_121, p_6_7, b_X6_text_148, f_6_20, x_isub, b_X6_text_156, x_dupI, x_dupR, p_6_10, q_isL_I, q_isL_R, q_isL_S, true_and, and_true, and_self, List.length_nil, List.length_cons, Nat.zero_add, x_K, x_Kn, Int.reduceToNat, Nat.reduceAdd, Nat.reduceMul, Nat.reduceLeDiff, Nat.reduceLT, Nat.zero_le, Int.reduceAdd, Int.reduceSub, Int.reduceMul, Int.reduceNeg, q_add_e, q_sub_e, q_mul_e, q_neg_e, q_upd_s, q_upd_n, zr_shr0, zr_shr1, zr_shr2, zr_shr3, zr_shr4, zr_and, zr_dyn8, zr_or, zr_shl, q_cpy_n, y_cpy26, e10, ti, e27, c_X6_eRead]
          exact good
        · simp (disch := omega) only [b_X6_text_0, x_loadR_0, x_loadS_0, f_6_10, x_iconst, y_ic_ne_t, y_ic_ne_f, b_X6_text_9, x_ret0, b_X6_text_12, p_6_19, p_6_27, x_storeI_1, x_storeI_2, x_loadI_2, y_ic_ge_t, y_ic_ge_f, b_X6_text_31, x_loadI_1, y_if_eq_t, y_if_eq_f, b_X6_text_35, f_6_21, b_X6_text_47, f_6_22, b_X6_text_55, x_goto, b_X6_text_59, b_X6_text_60, f_6_9, x_imul, x_iadd, f_6_27, y_iast_44, b_X6_text_82, b_X6_text_89, b_X6_text_93, b_X6_text_94, x_iinc_2, b_X6_text_101, b_X6_text_105, y_if_ne_t, y_if_ne_f, b_X6_text_116, b_X6_text_120, b_X6_text_121, p_6_7, b_X6_text_148, f_6_20, x_isub, b_X6_text_156, x_dupI, x_dupR, p_6_10, q_isL_I, q_isL_R, q_isL_S, true_and, and_true, and_self, List.length_nil, List.length_cons, Nat.zero_add, x_K, x_Kn, Int.reduceToNat, Nat.reduceAdd, Nat.reduceMul, Nat.reduceLeDiff, Nat.reduceLT, Nat.zero_le, Int.reduceAdd, Int.reduceSub, Int.reduceMul, Int.reduceNeg, q_add_e, q_sub_e, q_mul_e, q_neg_e, q_upd_s, q_upd_n, zr_shr0, zr_shr1, zr_shr2, zr_shr3, zr_shr4, zr_and, zr_dyn8, zr_or, zr_shl, q_cpy_n, y_cpy26, e10, ti, e27]
          exact bad
      · simp (disch := omega) only [b_X6_text_0, x_loadR_0, x_loadS_0, f_6_10, x_iconst, y_ic_ne_t, y_ic_ne_f, b_X6_text_9, x_ret0, b_X6_text_12, p_6_19, p_6_27, x_storeI_1, x_storeI_2, x_loadI_2, y_ic_ge_t, y_ic_ge_f, b_X6_text_31, x_loadI_1, y_if_eq_t, y_if_eq_f, b_X6_text_35, f_6_21, b_X6_text_47, f_6_22, b_X6_text_55, x_goto, b_X6_text_59, b_X6_text_60, f_6_9, x_imul, x_iadd, f_6_27, y_iast_44, b_X6_text_82, b_X6_text_89, b_X6_text_93, b_X6_text_94, x_iinc_2, b_X6_text_101, b_X6_text_105, y_if_ne_t, y_if_ne_f, b_X6_text_116, b_X6_text_120, b_X6_text_121, p_6_7, b_X6_text_148, f_6_20, x_isub, b_X6_text_156, x_dupI, x_dupR, p_6_10, q_isL_I, q_isL_R, q_isL_S, true_and, and_true, and_self, List.length_nil, List.length_cons, Nat.zero_add, x_K, x_Kn, Int.reduceToNat, Nat.reduceAdd, Nat.reduceMul, Nat.reduceLeDiff, Nat.reduceLT, Nat.zero_le, Int.reduceAdd, Int.reduceSub, Int.reduceMul, Int.reduceNeg, q_add_e, q_sub_e, q_mul_e, q_neg_e, q_upd_s, q_upd_n, zr_shr0, zr_shr1, zr_shr2, zr_shr3, zr_shr4, zr_and, zr_dyn8, zr_or, zr_shl, q_cpy_n, y_cpy26, e10, ti, e27]
        exact bad
  have hf0 : q_tfr tm M (q_upd (q_upd M 100 19 0) 100 27 0) := q_tfr_up (q_tfr_up q_tfr_rf (Or.inr ⟨rfl, Or.inr (Or.inl rfl)⟩)) (Or.inr ⟨rfl, Or.inr (Or.inr rfl)⟩)
  simp (disch := omega) only [b_X6_text_0, x_loadR_0, x_loadS_0, f_6_10, x_iconst, y_ic_ne_t, y_ic_ne_f, b_X6_text_9, x_ret0, b_X6_text_12, p_6_19, p_6_27, x_storeI_1, x_storeI_2, x_loadI_2, y_ic_ge_t, y_ic_ge_f, b_X6_text_31, x_loadI_1, y_if_eq_t, y_if_eq_f, b_X6_text_35, f_6_21, b_X6_text_47, f_6_22, b_X6_text_55, x_goto, b_X6_text_59, b_X6_text_60, f_6_9, x_imul, x_iadd, f_6_27, y_iast_44, b_X6_text_82, b_X6_text_89, b_X6_text_93, b_X6_text_94, x_iinc_2, b_X6_text_101, b_X6_text_105, y_if_ne_t, y_if_ne_f, b_X6_text_116, b_X6_text_120, b_X6_text_121, p_6_7, b_X6_text_148, f_6_20, x_isub, b_X6_text_156, x_dupI, x_dupR, p_6_10, q_isL_I, q_isL_R, q_isL_S, true_and, and_true, and_self, List.length_nil, List.length_cons, Nat.zero_add, x_K, x_Kn, Int.reduceToNat, Nat.reduceAdd, Nat.reduceMul, Nat.reduceLeDiff, Nat.reduceLT, Nat.zero_le, Int.reduceAdd, Int.reduceSub, Int.reduceMul, Int.reduceNeg, q_add_e, q_sub_e, q_mul_e, q_neg_e, q_upd_s, q_upd_n, zr_shr0, zr_shr1, zr_shr2, zr_shr3, zr_shr4, zr_and, zr_dyn8, zr_or, zr_shl, q_cpy_n, y_cpy26, h10]
  exact loop 3 0 rfl _ 0 (fun _ => 0) hf0 (by simp (disch := omega) only [q_upd_n]; exact hn) (by rw [q_upd_n (by omega), q_upd_s]; rfl) (by omega) (by omega) ⟨fun p hp => absurd hp (by omega), q_upd_s, fun p hp => absurd hp (by omega), fun p hp => absurd hp (by omega)⟩
