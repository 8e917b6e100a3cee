section
/-! THE MODEL'S READER: a sign between two, an expression -/
/-- what reading an expression changes -/
def q_efr (tm s : Nat) (M M2 : q_M) : Prop := ∀ a i, (a = 106 → i < 200 * tm + s ∨ 200 * tm + 200 ≤ i) → (a = 100 → i ≠ 19 ∧ i ≠ 20 ∧ i ≠ 21 ∧ i ≠ 22 ∧ i ≠ 25 ∧ i ≠ 26 ∧ i ≠ 27) → a ≠ 115 → M2 a i = M a i
theorem q_efr_tr {tm s : Nat} {M M2 M3 : q_M} (h : q_efr tm s M M2) (h2 : q_efr tm s M2 M3) : q_efr tm s M M3 := fun a i q1 q2 q3 => (h2 a i q1 q2 q3).trans (h a i q1 q2 q3)
theorem q_efr_u {tm s : Nat} {M M2 : q_M} (h : q_ufr tm s M M2) : q_efr tm s M M2 := fun a i q1 q2 q3 => h a i q1 (fun z => by have := q2 z; omega) q3
theorem q_efr_n {tm s : Nat} {M M2 : q_M} (h : q_nxf M M2) : q_efr tm s M M2 := fun a i q1 q2 q3 => h a i (fun z => by have := q2 z; omega)
end
section
/-! THE MODEL'S READER: a text -/
def q_tfr (tm : Nat) (M M2 : q_M) : Prop := ∀ a i, (a = 106 → i < 200 * tm ∨ 200 * tm + 200 ≤ i) → (a = 107 → i < 4 * tm ∨ 4 * tm + 4 ≤ i) → (a = 100 → i ≠ 7 ∧ i ≠ 19 ∧ i ≠ 20 ∧ i ≠ 21 ∧ i ≠ 22 ∧ i ≠ 25 ∧ i ≠ 26 ∧ i ≠ 27) → a ≠ 115 → M2 a i = M a i
theorem q_tfr_rf {tm : Nat} {M : q_M} : q_tfr tm M M := fun _ _ _ _ _ _ => rfl
theorem q_tfr_tr {tm : Nat} {M M2 M3 : q_M} (h : q_tfr tm M M2) (h2 : q_tfr tm M2 M3) : q_tfr tm M M3 := fun a i q1 q2 q3 q4 => (h2 a i q1 q2 q3 q4).trans (h a i q1 q2 q3 q4)
theorem q_tfr_e {tm s : Nat} {M M2 : q_M} (h : q_efr tm s M M2) : q_tfr tm M M2 := fun a i q1 q2 q3 q4 => h a i (fun z => by have := q1 z; omega) (fun z => by have := q3 z; omega) q4
theorem q_tfr_n {tm : Nat} {M M2 : q_M} (h : q_nxf M M2) : q_tfr tm M M2 := fun a i q1 q2 q3 q4 => h a i (fun z => by have := q3 z; omega)
theorem q_tfr_up {tm a i : Nat} {v : Int} {M M2 : q_M} (h : q_tfr tm M M2) (hi : (a = 107 ∧ 4 * tm ≤ i ∧ i < 4 * tm + 4) ∨ (a = 100 ∧ (i = 7 ∨ i = 19 ∨ i = 27))) : q_tfr tm M (q_upd M2 a i v) := fun b j q1 q2 q3 q4 => (q_upd_n (by
  by_cases e : b = a
  · exact Or.inr (fun e2 => by subst e; subst e2; omega)
  · exact Or.inl e)).trans (h b j q1 q2 q3 q4)
theorem q_lawT_same {V : Nat → (Nat → Int) → Int} {r : Nat} {M M2 : q_M} (h : ∀ a i, ((a = 106 ∧ 200 * r ≤ i ∧ i < 200 * r + 200) ∨ (a = 107 ∧ 4 * r ≤ i ∧ i < 4 * r + 4)) → M2 a i = M a i) (hT : q_lawT V r M) : q_lawT V r M2 := fun M' h1 h2 => hT M' (fun a i ha => (h1 a i ha).trans (h a i ha)) h2
theorem q_MI_tfr {Vt : Nat → Nat → (Nat → Int) → Int} {tm : Nat} {M M2 : q_M} (hI : q_MI Vt tm M) (h : q_tfr tm M M2) (h7 : 0 ≤ M2 100 7 ∧ M2 100 7 ≤ 160) : q_MI Vt tm M2 := by
  obtain ⟨g1, g2, g3, g4, ⟨t1, t2, t3, t4⟩, g6, g7, g8, g9⟩ := hI
  exact ⟨q_mb_same (fun a i ha => h a i (by omega) (by omega) (by omega) (by omega)) g1, by rw [h 100 5 (by omega) (by omega) (by omega) (by omega)]; exact g2, fun b hb => by rw [h 103 _ (by omega) (by omega) (by omega) (by omega)]; exact g3 b hb, fun s hs => by rw [h 111 _ (by omega) (by omega) (by omega) (by omega)]; exact g4 s hs, ⟨t1, t2, (h 100 10 (by omega) (by omega) (by omega) (by omega)).trans t3, fun t ht => ⟨(t4 t ht).1, q_lawT_same (fun a i ha => h a i (by omega) (by omega) (by omega) (by omega)) (t4 t ht).2⟩⟩, by rw [h 100 11 (by omega) (by omega) (by omega) (by omega)]; exact g6, h7, q_img_same (fun a i ha => h a i (by omega) (by omega) (by omega) (by omega)) g8, by rw [h 100 12 (by omega) (by omega) (by omega) (by omega)]; exact g9⟩
def q_Vadd (Vt : Nat → Nat → (Nat → Int) → Int) (tm : Nat) (V : Nat → (Nat → Int) → Int) : Nat → Nat → (Nat → Int) → Int := fun t => if t = tm then V else Vt t
theorem q_MI_add {Vt : Nat → Nat → (Nat → Int) → Int} {tm : Nat} {M : q_M} (hI : q_MI Vt tm M) (ht : tm < 6) (hw : q_wfT (fun i => M 106 (200 * tm + i)) (fun i => M 107 (4 * tm + i))) : q_MI (q_Vadd Vt tm (q_V1 (fun i => M 106 (200 * tm + i)) (fun i => M 107 (4 * tm + i)))) (tm + 1) (q_upd M 100 10 ((tm : Int) + 1)) := by
  obtain ⟨g1, g2, g3, g4, ⟨t1, t2, t3, t4⟩, g6, g7, g8, g9⟩ := hI
  obtain ⟨i1, i2, i3, i4, i5, i6, i7, i8, i9, i10⟩ := g8
  refine ⟨q_mb_same (fun a i ha => q_upd_n (by omega)) g1, by rw [q_upd_n (by omega)]; exact g2, fun b hb => by rw [q_upd_n (by omega)]; exact g3 b hb, fun s hs => by rw [q_upd_n (by omega)]; exact g4 s hs, ⟨by omega, by omega, by rw [q_upd_s]; omega, fun t h => ?_⟩, by rw [q_upd_n (by omega)]; omega, by rw [q_upd_n (by omega)]; exact g7, q_img_same (M := M) (fun a i ha => q_upd_n (by omega)) ⟨i1, i2, i3, i4, i5, i6, i7, i8, i9, by omega⟩, by rw [q_upd_n (by omega)]; exact g9⟩
  by_cases e : t = tm
  · subst e
    rw [show q_Vadd Vt t (q_V1 (fun i => M 106 (200 * t + i)) (fun i => M 107 (4 * t + i))) t = q_V1 (fun i => M 106 (200 * t + i)) (fun i => M 107 (4 * t + i)) from if_pos rfl]
    exact ⟨q_lawV_1, q_lawT_same (fun a i ha => q_upd_n (by omega)) (q_lawT_of ht hw)⟩
  · rw [show q_Vadd Vt tm (q_V1 (fun i => M 106 (200 * tm + i)) (fun i => M 107 (4 * tm + i))) t = Vt t from if_neg e]
    have hx := t4 t (by omega)
    exact ⟨hx.1, q_lawT_same (fun a i ha => q_upd_n (by omega)) hx.2⟩
theorem q_wfP_c {C C' : Nat → Int} {s o : Nat} {D : Nat → Nat} (hw : q_wfP C s o D) (hc : ∀ i, i < o → C' i = C i) : q_wfP C' s o D := ⟨hw.1, fun i h1 h2 => by rw [hc i h2]; exact hw.2 i h1 h2⟩
end
section
/-! THE CLASS: a text just read is a law -/
theorem q_lawV_of2 {C s : Nat → Int} {len : Nat} (hC : q_cod C len) : q_lawV (q_Vt C s len) := by
  intro part f f' h
  unfold q_Vt
  by_cases c : (s part).toNat ≤ len
  · exact F_val_N hC h (len - (s part).toNat) (s part).toNat 1 _ (by omega)
  · rw [show len - (s part).toNat = 0 by omega, F_val, F_val]
set_option maxHeartbeats 4000000 in
theorem q_lawC_of2 {M : q_M} {ca ta len : Nat} (hca : ca + 1 = ta) (h1 : M ta 1 = ca) (h2 : M ta 2 = ((ta + 1 : Nat) : Int)) (h3 : M ta 3 = ((ta + 2 : Nat) : Int)) (hlen : M ca 1000 = len) (hl2 : len < 100000) (hC : q_cod (M ca) len) (hs : ∀ p, p < 3 → 0 ≤ M (ta + 1) p ∧ M (ta + 1) p ≤ 100000) : q_lawC (q_Vt (M ca) (M (ta + 1)) len) ta M := by
  intro M' hM d g Q part na hp hna hq
  by_cases c : M (ta + 1) part ≤ len
  · have hs2 : ∀ p, p < 3 → 0 ≤ (if p = part then M (ta + 1) p else 0) ∧ (if p = part then M (ta + 1) p else 0) ≤ (len : Int) := by
      intro p hp
      have := hs p hp
      by_cases e : p = part
      · rw [if_pos e, e]; rw [e] at this; omega
      · rw [if_neg e]; omega
    have eS : M' (ta + 1) part = M (ta + 1) part := hM (ta + 1) part (by omega)
    have h0 := hs part hp
    have e1 : M' ta 1 = ca := (hM ta 1 (by omega)).trans h1
    have e2 : M' ta 2 = ((ta + 1 : Nat) : Int) := (hM ta 2 (by omega)).trans h2
    have e3 : M' ta 3 = ((ta + 2 : Nat) : Int) := (hM ta 3 (by omega)).trans h3
    have eC : M' ca = M ca := funext (fun i => hM ca i (by omega))
    have hy2 := q_dynT (k := 23) e2
    have hself : q_sM M' (ta + 2) (M' (ta + 2)) = M' := by
      funext a i
      unfold q_sM
      by_cases c : a = ta + 2
      · rw [if_pos c, c]
      · rw [if_neg c]
    rw [s_X3_value]
    simp (disch := omega) only [b_X3_value_0, x_iconst, x_storeI_3, x_loadR_0, x_loadS_0, f_3_2, x_loadI_1, y_iald_23, y_iald_26, y_iald_60, x_storeI_4, x_loadI_4, f_3_1, x_alen_10, y_alen_180, y_ic_ge_t, y_ic_ge_f, b_X3_value_20, x_iand, x_storeI_5, x_ishr, x_storeI_6, x_loadI_5, y_if_ne_t, y_if_ne_f, b_X3_value_48, x_goto, b_X3_value_51, y_ic_eq_t, y_ic_eq_f, b_X3_value_57, y_ic_ne_t, y_ic_ne_f, b_X3_value_63, x_loadI_3, y_ic_lt_t, y_ic_lt_f, b_X3_value_69, x_ret0, b_X3_value_71, x_iinc_3, f_3_3, b_X3_value_85, x_loadI_6, b_X3_value_90, x_loadR_2, x_loadS_2, b_X3_value_94, y_iast_23, y_iast_26, y_iast_60, b_X3_value_98, b_X3_value_104, b_X3_value_110, b_X3_value_115, b_X3_value_117, x_storeI_7, b_X3_value_136, x_loadI_7, x_ineg, b_X3_value_142, b_X3_value_147, b_X3_value_151, b_X3_value_152, b_X3_value_156, b_X3_value_161, b_X3_value_163, x_iadd, x_storeI_8, tw_0_5, tw_0_6, tw_0_7, tw_0_8, tw_0_9, tw_0_10, tw_0_o, b_X3_value_224, x_loadI_8, x_imul, x_storeI_9, b_X3_value_234, b_X3_value_244, x_isub, b_X3_value_254, b_X3_value_261, b_X3_value_265, b_X3_value_266, b_X3_value_271, b_X3_value_278, b_X3_value_282, b_X3_value_283, b_X3_value_288, y_if_eq_t, y_if_eq_f, b_X3_value_293, b_X3_value_298, b_X3_value_302, b_X3_value_303, b_X3_value_308, b_X3_value_313, b_X3_value_318, b_X3_value_322, b_X3_value_323, b_X3_value_325, x_loadI_9, b_X3_value_333, x_iinc_4, b_X3_value_339, b_X3_value_344, b_X3_value_348, b_X3_value_354, q_isL_I, q_isL_R, q_isL_S, true_and, and_true, and_self, List.length_nil, List.length_cons, Nat.zero_add, x_K, x_Kn, Int.reduceToNat, Nat.reduceAdd, Nat.reduceMul, Nat.reduceLeDiff, Nat.reduceLT, Nat.zero_le, Int.reduceAdd, Int.reduceSub, Int.reduceMul, Int.reduceNeg, q_add_e, q_sub_e, q_mul_e, q_neg_e, q_upd_s, q_upd_n, zr_shr0, zr_shr1, zr_shr2, zr_shr3, zr_shr4, zr_and, zr_dyn8, zr_or, zr_shl, q_cpy_n, y_cpy26, hy2, Int.toNat_natCast, eS]
    have key := sp_valueL (d := d) (g := g) (M := M') (ca := ca) (ta := ta) (sa := ta + 2) (na := na) (len := len) (pt := part) (Q := Q) e1 e3 (by omega) (by omega) (Ne.symm hna) (by rw [eC]; exact hlen) hl2 (by rw [eC]; exact hC) (len - (M (ta + 1) part).toNat) (M (ta + 1) part).toNat (by omega) 1 (M' (ta + 2)) (qS 0) (qS 0) (qS 0) (qS 0) (qS 0) (by omega) (by omega) rfl rfl rfl rfl rfl ?_
    · rw [hself, show (((M (ta + 1) part).toNat : Nat) : Int) = M (ta + 1) part by omega] at key
      exact key
    · intro st2
      have h := hq (q_sM M' (ta + 2) st2) (fun a i ha => q_sM_n ha)
      unfold q_Vt at h
      rw [F_val_st (C := M ca) (N := M' na) (len - (M (ta + 1) part).toNat) (M (ta + 1) part).toNat 1 (fun _ => 0) (M' (ta + 2)) (fun k q1 q2 => absurd q1 (by omega))] at h
      rw [eC]
      exact h
  · have eS : M' (ta + 1) part = M (ta + 1) part := hM (ta + 1) part (by omega)
    have h0 := hs part hp
    have e1 : M' ta 1 = ca := (hM ta 1 (by omega)).trans h1
    have e2 : M' ta 2 = ((ta + 1 : Nat) : Int) := (hM ta 2 (by omega)).trans h2
    have hy1 := q_dynT (k := 10) e1
    have hy2 := q_dynT (k := 23) e2
    have hl : M' ca 1000 = len := (hM ca 1000 (by omega)).trans hlen
    have h := hq M' (fun a i ha => rfl)
    unfold q_Vt at h
    rw [show len - (M (ta + 1) part).toNat = 0 by omega, F_val, if_pos (by omega)] at h
    rw [s_X3_value]
    simp (disch := omega) only [b_X3_value_0, x_iconst, x_storeI_3, x_loadR_0, x_loadS_0, f_3_2, x_loadI_1, y_iald_23, y_iald_26, y_iald_60, x_storeI_4, b_X3_value_10, x_loadI_4, f_3_1, x_alen_10, y_alen_180, y_ic_ge_t, y_ic_ge_f, b_X3_value_20, x_iand, x_storeI_5, x_ishr, x_storeI_6, x_loadI_5, y_if_ne_t, y_if_ne_f, b_X3_value_48, x_goto, b_X3_value_51, y_ic_eq_t, y_ic_eq_f, b_X3_value_57, y_ic_ne_t, y_ic_ne_f, b_X3_value_63, x_loadI_3, y_ic_lt_t, y_ic_lt_f, b_X3_value_69, x_ret0, b_X3_value_71, x_iinc_3, f_3_3, b_X3_value_85, x_loadI_6, b_X3_value_90, x_loadR_2, x_loadS_2, b_X3_value_94, y_iast_23, y_iast_26, y_iast_60, b_X3_value_98, b_X3_value_104, b_X3_value_110, b_X3_value_115, b_X3_value_117, x_storeI_7, b_X3_value_136, x_loadI_7, x_ineg, b_X3_value_142, b_X3_value_147, b_X3_value_151, b_X3_value_152, b_X3_value_156, b_X3_value_161, b_X3_value_163, x_iadd, x_storeI_8, tw_0_5, tw_0_6, tw_0_7, tw_0_8, tw_0_9, tw_0_10, tw_0_o, b_X3_value_224, x_loadI_8, x_imul, x_storeI_9, b_X3_value_234, b_X3_value_244, x_isub, b_X3_value_254, b_X3_value_261, b_X3_value_265, b_X3_value_266, b_X3_value_271, b_X3_value_278, b_X3_value_282, b_X3_value_283, b_X3_value_288, y_if_eq_t, y_if_eq_f, b_X3_value_293, b_X3_value_298, b_X3_value_302, b_X3_value_303, b_X3_value_308, b_X3_value_313, b_X3_value_318, b_X3_value_322, b_X3_value_323, b_X3_value_325, x_loadI_9, b_X3_value_333, x_iinc_4, b_X3_value_339, b_X3_value_344, b_X3_value_348, b_X3_value_354, q_isL_I, q_isL_R, q_isL_S, true_and, and_true, and_self, List.length_nil, List.length_cons, Nat.zero_add, x_K, x_Kn, Int.reduceToNat, Nat.reduceAdd, Nat.reduceMul, Nat.reduceLeDiff, Nat.reduceLT, Nat.zero_le, Int.reduceAdd, Int.reduceSub, Int.reduceMul, Int.reduceNeg, q_add_e, q_sub_e, q_mul_e, q_neg_e, q_upd_s, q_upd_n, zr_shr0, zr_shr1, zr_shr2, zr_shr3, zr_shr4, zr_and, zr_dyn8, zr_or, zr_shl, q_cpy_n, y_cpy26, hy1, hy2, Int.toNat_natCast, eS, hl]
    exact h
end
section
/-! THE CLASS: what stays over calls -/
/-- the model and the script stay, and the years of now and of what is kept -/
def q_cfr (M M2 : q_M) : Prop := ∀ a i, ((100 ≤ a ∧ a < 124) ∨ 1000 ≤ a ∨ (a = 11 ∧ (i = 9 ∨ i = 10)) ∨ (a = 65 ∧ (i = 9 ∨ i = 10)) ∨ (a = 0 ∧ i = 6) ∨ (a = 1 ∧ i = 1) ∨ a = 2) → M2 a i = M a i
def q_cfw (M M2 : q_M) : Prop := ∀ a i, ((100 ≤ a ∧ a < 124) ∨ 1000 ≤ a) → M2 a i = M a i
theorem q_cfr_rf {M : q_M} : q_cfr M M := fun _ _ _ => rfl
def q_XI (Vt : Nat → Nat → (Nat → Int) → Int) (tm l sl : Nat) (M : q_M) : Prop := q_txs Vt tm M ∧ l < tm ∧ q_ci (Vt l) M (q_ta l) ∧ (q_rgW M 65 ∧ M 65 9 ≤ 999) ∧ (M 0 6 ≠ 0 → ∃ kl, kl < tm ∧ M 65 10 = q_ta kl) ∧ (0 ≤ M 1 1 ∧ M 1 1 ≤ 160) ∧ sl ≤ 3394 + (tm - 1) * 207
theorem q_ta_b {t : Nat} (h : t < 6) : q_ta t = 8 ∨ (125 ≤ q_ta t ∧ q_ta t ≤ 141 ∧ q_ta t % 4 = 1) := q_ta_tas h
theorem q_rgW_c {M M2 : q_M} {w : Nat} (h : ∀ a i, w ≤ a → a ≤ w + 25 → M2 a i = M a i) (hr : q_rgW M w) : q_rgW M2 w := by
  unfold q_rgW at hr ⊢
  simp (disch := omega) only [h]
  exact hr
theorem q_lawC_c {V : Nat → (Nat → Int) → Int} {ta : Nat} {M M2 : q_M} (h : ∀ a i, (a + 1 = ta ∨ a = ta ∨ a = ta + 1) → M2 a i = M a i) (hl : q_lawC V ta M) : q_lawC V ta M2 := fun M' hM => hl M' (fun a i ha => (hM a i ha).trans (h a i ha))
theorem q_txs_c {Vt : Nat → Nat → (Nat → Int) → Int} {tm : Nat} {M M2 : q_M} (h : ∀ a i, ((a = 0 ∧ i = 2) ∨ a = 5 ∨ (7 ≤ a ∧ a ≤ 9) ∨ (124 ≤ a ∧ a % 4 ≠ 3)) → M2 a i = M a i) (T : q_txs Vt tm M) : q_txs Vt tm M2 := by
  obtain ⟨h1, h2, h3, h4⟩ := T
  refine ⟨h1, h2, (h 0 2 (by omega)).trans h3, fun t ht => ?_⟩
  obtain ⟨a1, a2, a3, a4⟩ := h4 t ht
  have hta := q_ta_b (t := t) (by omega)
  exact ⟨(h 5 t (by omega)).trans a1, (h _ 0 (by omega)).trans a2, a3, q_lawC_c (fun a i ha => h a i (by omega)) a4⟩
/-- the world now has changed, all else stands -/
theorem q_XI_now {Vt : Nat → Nat → (Nat → Int) → Int} {tm l l2 sl : Nat} {M M2 : q_M} (C : q_XI Vt tm l sl M) (hl2 : l2 < tm) (hf : ∀ a i, (a < 10 ∨ (37 < a ∧ a < 100) ∨ (124 ≤ a ∧ a % 4 ≠ 3)) → M2 a i = M a i) (hr : q_rgW M2 11) (hy : M2 11 9 ≤ 999) (hla : M2 11 10 = q_ta l2) (hz : q_z5 M2 11) : q_XI Vt tm l2 sl M2 := by
  obtain ⟨T, hl, ⟨c1, c2, c3, c4, c5, c6, c7⟩, k1, k2, k3, k4⟩ := C
  have hT6 := T.2.1
  have T2 := q_txs_c (M2 := M2) (fun a i ha => hf a i (by omega)) T
  have hb := q_ta_b (t := l2) (by omega)
  have hx := T2.2.2.2 l2 hl2
  exact ⟨T2, hl2, ⟨q_ta_tas (by omega), ⟨hr, hx.2.2.1, hx.2.2.2, hla, by omega, by omega⟩, q_rg5_eq (fun a i _ h1 h2 => hf a i (by omega)) c3, hz, q_z5_eq (fun a h1 h2 => hf a 5 (by omega)) c5, hy, fun s hs => by rw [hf _ _ (by omega)]; exact c7 s hs⟩, ⟨q_rgW_c (fun a i h1 h2 => hf a i (by omega)) k1.1, by rw [hf 65 9 (by omega)]; exact k1.2⟩, fun h => by rw [hf 0 6 (by omega)] at h; rw [hf 65 10 (by omega)]; exact k2 h, by rw [hf 1 1 (by omega)]; exact k3, k4⟩
/-- the world now within its bounds by q_wl -/
theorem q_XI_w {Vt : Nat → Nat → (Nat → Int) → Int} {V : Nat → (Nat → Int) → Int} {tm l sl ta : Nat} {M M2 : q_M} (C : q_XI Vt tm l sl M) (hf : ∀ a i, (a < 10 ∨ (37 < a ∧ a < 100) ∨ (124 ≤ a ∧ a % 4 ≠ 3)) → M2 a i = M a i) (hw : q_wl V M2 11 ta) (hta : ta = q_ta l) (hy : M2 11 9 ≤ 999) (hz : ∀ a, 16 ≤ a → a ≤ 27 → M2 a 5 = M a 5) : q_XI Vt tm l sl M2 :=
  q_XI_now C C.2.1 hf hw.1 hy (by rw [hw.2.2.2.1, hta]) (q_z5_eq (fun a h1 h2 => hz a (by omega) (by omega)) C.2.2.1.2.2.2.1)
theorem q_XI_mfw {Vt : Nat → Nat → (Nat → Int) → Int} {tm l sl : Nat} {M M2 : q_M} (h : q_mfw M M2) (C : q_XI Vt tm l sl M) : q_XI Vt tm l sl M2 := by
  have hf : ∀ a i, a < 100 → M2 a i = M a i := fun a i ha => h a i (by omega)
  exact q_XI_now C C.2.1 (fun a i ha => h a i (by omega)) (q_rgW_c (fun a i _ h2 => hf a i (by omega)) C.2.2.1.2.1.1) (by rw [hf 11 9 (by omega)]; exact C.2.2.1.2.2.2.2.2.1) (by rw [hf 11 10 (by omega)]; exact C.2.2.1.2.1.2.2.2.1) (q_z5_eq (fun a h1 h2 => hf a 5 (by omega)) C.2.2.1.2.2.2.1)
theorem q_XI_mfr {Vt : Nat → Nat → (Nat → Int) → Int} {tm l sl : Nat} {M M2 : q_M} (h : q_mfr M M2) (C : q_XI Vt tm l sl M) : q_XI Vt tm l sl M2 := q_XI_mfw (fun a i ha => h a i (by omega)) C
theorem q_XI_tq {Vt : Nat → Nat → (Nat → Int) → Int} {tm l sl : Nat} {M M2 : q_M} (C : q_XI Vt tm l sl M) (h : q_tq M M2) : q_XI Vt tm l sl M2 := by
  obtain ⟨T, hl, C3, k1, k2, k3, k4⟩ := C
  have hf : ∀ a i, 65 ≤ a → a < 100 → M2 a i = M a i := fun a i h1 h2 => h a i (by omega) (by omega) (by omega) (by omega)
  have hg : ∀ a i, a < 10 → M2 a i = M a i := fun a i h1 => h a i (by omega) (by omega) (by omega) (by omega)
  exact ⟨q_txs_tq h T, hl, q_ci_tq h C3, ⟨q_rgW_c (fun a i h1 h2 => hf a i (by omega) (by omega)) k1.1, by rw [hf 65 9 (by omega) (by omega)]; exact k1.2⟩, fun q => by rw [hg 0 6 (by omega)] at q; rw [hf 65 10 (by omega) (by omega)]; exact k2 q, by rw [hg 1 1 (by omega)]; exact k3, k4⟩
theorem q_cfr_tq {M M2 : q_M} (h : q_tq M M2) : q_cfr M M2 := fun a i ha => h a i (by omega) (by omega) (by omega) (by omega)
/-- the sheets have changed, or the tape -/
theorem q_XI_sh {Vt : Nat → Nat → (Nat → Int) → Int} {tm l sl : Nat} {M M2 : q_M} (C : q_XI Vt tm l sl M) (hf : ∀ a i, (a < 1 ∨ (4 < a ∧ a < 92) ∨ 124 ≤ a) → M2 a i = M a i) (h1 : 0 ≤ M2 1 1 ∧ M2 1 1 ≤ 160) (hs : q_shB M2) : q_XI Vt tm l sl M2 := by
  obtain ⟨T, hl, ⟨c1, c2, c3, c4, c5, c6, c7⟩, k1, k2, k3, k4⟩ := C
  have hT6 := T.2.1
  have hb := q_ta_b (t := l) (by omega)
  exact ⟨q_txs_c (fun a i ha => hf a i (by omega)) T, hl, ⟨c1, q_wl_eq (fun a i ha => hf a i (by omega)) c2, q_rg5_eq (fun a i _ h1 h2 => hf a i (by omega)) c3, q_z5_eq (fun a h1 h2 => hf a 5 (by omega)) c4, q_z5_eq (fun a h1 h2 => hf a 5 (by omega)) c5, by rw [hf 11 9 (by omega)]; exact c6, hs⟩, ⟨q_rgW_c (fun a i h1 h2 => hf a i (by omega)) k1.1, by rw [hf 65 9 (by omega)]; exact k1.2⟩, fun h => by rw [hf 0 6 (by omega)] at h; rw [hf 65 10 (by omega)]; exact k2 h, h1, k4⟩
/-- the kept world has changed -/
theorem q_XI_kp {Vt : Nat → Nat → (Nat → Int) → Int} {tm l sl : Nat} {M M2 : q_M} (C : q_XI Vt tm l sl M) (hf : ∀ a i, ((a < 65 ∧ (a = 0 → i ≠ 6)) ∨ (91 < a ∧ a < 100) ∨ 124 ≤ a) → M2 a i = M a i) (hr : q_rgW M2 65) (hy : M2 65 9 ≤ 999) (hk : ∃ kl, kl < tm ∧ M2 65 10 = q_ta kl) : q_XI Vt tm l sl M2 := by
  obtain ⟨T, hl, ⟨c1, c2, c3, c4, c5, c6, c7⟩, k1, k2, k3, k4⟩ := C
  have hT6 := T.2.1
  have hb := q_ta_b (t := l) (by omega)
  exact ⟨q_txs_c (fun a i ha => hf a i (by omega)) T, hl, ⟨c1, q_wl_eq (fun a i ha => hf a i (by omega)) c2, q_rg5_eq (fun a i _ h1 h2 => hf a i (by omega)) c3, q_z5_eq (fun a h1 h2 => hf a 5 (by omega)) c4, q_z5_eq (fun a h1 h2 => hf a 5 (by omega)) c5, by rw [hf 11 9 (by omega)]; exact c6, fun s hs => by rw [hf _ _ (by omega)]; exact c7 s hs⟩, ⟨hr, hy⟩, fun _ => hk, by rw [hf 1 1 (by omega)]; exact k3, k4⟩
end
section
/-! THE CLASS: each call keeps what stays -/
theorem cv_dawn {Vt : Nat → Nat → (Nat → Int) → Int} {d tm l sl : Nat} {g : q_G} {M : q_M} {v0 : Int} {Q : Option q_V → q_G → q_M → Prop} (C : q_XI Vt tm l sl M) (hq1 : 0 ≤ v0 ∧ v0 ≤ 999 → q_XI Vt tm l sl (q_upd M 11 9 v0) → Q (some (qI (M 11 9))) g (q_upd M 11 9 v0)) (hq2 : ¬(0 ≤ v0 ∧ v0 ≤ 999) → Q (some (qI (-2))) g M) : q_S 1 (d + 50) 63 [qR 5 0, qI v0] g M Q := by
  have w := C.2.2.1.2.1
  by_cases c1 : 0 ≤ v0 ∧ v0 ≤ 999
  · exact sp_dawn c1.1 c1.2 (hq1 c1 (q_XI_w C (fun a i ha => q_upd_n (by omega)) (q_wl_up w (Or.inr (Or.inr (Or.inr ⟨rfl, rfl, c1.1, by omega⟩)))) rfl (by rw [q_upd_s]; exact c1.2) (fun a h1 h2 => q_upd_n (by omega))))
  · exact sp_dawnF (by omega) (hq2 c1)
theorem q_bdM_f {M : q_M} {b a i : Nat} {wt v : Int} (h1 : a ≠ 35) (h2 : a ≠ 30) (h3 : a ≠ 13) (h4 : a ≠ 31) (h5 : a ≠ 32) : q_bdM M b wt v a i = M a i := by
  unfold q_bdM
  split
  · rw [q_mvM_n (by omega), q_upd_n (by omega)]
  · split
    · exact q_upd_n (by omega)
    · split
      · exact q_upd_n (by omega)
      · exact q_upd_n (by omega)
theorem q_tkM_f {M : q_M} {a i : Nat} {v : Int} (h1 : a ≠ 1) (h2 : a ≠ 2) : q_tkM M v a i = M a i := by
  unfold q_tkM
  rw [q_upd_n (by omega), q_upd_n (by omega)]
theorem q_fedM_f {M : q_M} {x i : Nat} {n a b c d e : Int} (h1 : x ≠ 1) (h2 : x ≠ 2) : q_fedM M n a b c d e x i = M x i := by
  unfold q_fedM
  split
  · rw [q_tkM_f h1 h2]
  · split
    · rw [q_tkM_f h1 h2, q_tkM_f h1 h2]
    · split
      · rw [q_tkM_f h1 h2, q_tkM_f h1 h2, q_tkM_f h1 h2]
      · split
        · rw [q_tkM_f h1 h2, q_tkM_f h1 h2, q_tkM_f h1 h2, q_tkM_f h1 h2]
        · rw [q_tkM_f h1 h2, q_tkM_f h1 h2, q_tkM_f h1 h2, q_tkM_f h1 h2, q_tkM_f h1 h2]
theorem q_fedM_1 {M : q_M} {n a b c d e : Int} (h : 1 ≤ n ∧ n ≤ 5) : q_fedM M n a b c d e 1 1 = M 1 1 + n := by
  unfold q_fedM
  split
  · rw [q_tkM_1]; omega
  · split
    · rw [q_tkM_1, q_tkM_1]; omega
    · split
      · rw [q_tkM_1, q_tkM_1, q_tkM_1]; omega
      · split
        · rw [q_tkM_1, q_tkM_1, q_tkM_1, q_tkM_1]; omega
        · rw [q_tkM_1, q_tkM_1, q_tkM_1, q_tkM_1, q_tkM_1]; omega
theorem q_tkM_T {M : q_M} {T : Nat → Int} {s k : Nat} {v : Nat → Int} {x : Int} (hx : x = v k) (h : M 2 = F_tp T s v k ∧ M 1 1 = ((s + k : Nat) : Int)) : q_tkM M x 2 = F_tp T s v (k + 1) ∧ q_tkM M x 1 1 = ((s + (k + 1) : Nat) : Int) := by
  refine ⟨?_, by rw [q_tkM_1, h.2]; omega⟩
  funext i
  unfold q_tkM
  rw [q_upd_n (by omega), h.2, Int.toNat_natCast, F_tp, ← h.1, ← hx]
  unfold F_u
  by_cases e : i = s + k
  · rw [if_pos e, e, q_upd_s]
  · rw [if_neg e, q_upd_n (by omega)]
theorem q_fedM_T {M : q_M} {n a b c d e : Int} (h : 1 ≤ n ∧ n ≤ 5) (h0 : 0 ≤ M 1 1) : q_fedM M n a b c d e 2 = F_tp (M 2) (M 1 1).toNat (F_vs a b c d e) n.toNat := by
  have z : M 2 = F_tp (M 2) (M 1 1).toNat (F_vs a b c d e) 0 ∧ M 1 1 = (((M 1 1).toNat + 0 : Nat) : Int) := ⟨rfl, by omega⟩
  have z1 := q_tkM_T (x := a) rfl z
  have z2 := q_tkM_T (x := b) rfl z1
  have z3 := q_tkM_T (x := c) rfl z2
  have z4 := q_tkM_T (x := d) rfl z3
  have z5 := q_tkM_T (x := e) rfl z4
  unfold q_fedM
  rcases (show n = 1 ∨ n = 2 ∨ n = 3 ∨ n = 4 ∨ n = 5 by omega) with e | e | e | e | e
  · rw [if_pos e, e]; exact z1.1
  · rw [if_neg (by omega), if_pos e, e]; exact z2.1
  · rw [if_neg (by omega), if_neg (by omega), if_pos e, e]; exact z3.1
  · rw [if_neg (by omega), if_neg (by omega), if_neg (by omega), if_pos e, e]; exact z4.1
  · rw [if_neg (by omega), if_neg (by omega), if_neg (by omega), if_neg (by omega), e]; exact z5.1
theorem cv_feed {Vt : Nat → Nat → (Nat → Int) → Int} {d tm l sl : Nat} {g : q_G} {M : q_M} {n a0 a1 a2 a3 a4 : Int} {Q : Option q_V → q_G → q_M → Prop} (C : q_XI Vt tm l sl M) (hqB : ¬F_fedB n a0 a1 a2 a3 a4 → Q (some (qI (-2))) g M) (hqF : F_fedB n a0 a1 a2 a3 a4 → 160 < M 1 1 + n → Q (some (qI (-4))) g M) (hq : ∀ M2 : q_M, F_fedB n a0 a1 a2 a3 a4 → M 1 1 + n ≤ 160 → q_XI Vt tm l sl M2 → (∀ x i, x ≠ 1 → x ≠ 2 → M2 x i = M x i) → M2 1 1 = M 1 1 + n → M2 2 = F_tp (M 2) (M 1 1).toNat (F_vs a0 a1 a2 a3 a4) n.toNat → Q (some (qI (M 1 1 + n))) g M2) : q_S 1 (d + 50) 66 [qR 5 0, qI n, qI a0, qI a1, qI a2, qI a3, qI a4] g M Q := by
  have c := C.2.2.1
  have k := C.2.2.2.2.2.1
  by_cases h : F_fedB n a0 a1 a2 a3 a4
  · refine sp_feed (dd := d + 49) k.1 k.2 h ?_
    split
    · exact hqF h (by omega)
    · exact hq _ h (by omega) (q_XI_sh C (fun a i ha => q_fedM_f (by omega) (by omega)) (by rw [q_fedM_1 h.1]; have := h.1; omega) (fun s hs => by rw [q_fedM_f (by omega) (by omega)]; exact c.2.2.2.2.2.2 s hs)) (fun x i h1 h2 => q_fedM_f h1 h2) (q_fedM_1 h.1) (q_fedM_T h.1 k.1)
  · exact sp_feedF (dd := d + 49) h (hqB h)
theorem cv_force {Vt : Nat → Nat → (Nat → Int) → Int} {d tm l sl : Nat} {g : q_G} {M : q_M} {t : Int} {Q : Option q_V → q_G → q_M → Prop} (C : q_XI Vt tm l sl M) (hq1 : ∀ n : Nat, t = n → n < tm → q_XI Vt tm n sl (q_upd M 11 10 (q_ta n : Nat)) → Q (some (qI l)) g (q_upd M 11 10 (q_ta n : Nat))) (hq2 : ¬(0 ≤ t ∧ t < tm) → Q (some (qI (-2))) g M) : q_S 1 (d + 50) 68 [qR 5 0, qI t] g M Q := by
  have T := C.1
  have c := C.2.2.1
  have w := c.2.1
  by_cases c1 : 0 ≤ t ∧ t < tm
  · obtain ⟨n, rfl⟩ : ∃ n : Nat, t = n := ⟨t.toNat, by omega⟩
    have hr : q_rgW (q_upd M 11 10 (q_ta n : Nat)) 11 := by
      have hr := w.1
      unfold q_rgW at hr ⊢
      simp (disch := omega) only [q_upd_n]
      exact hr
    exact sp_force T (by omega) C.2.1 w.2.2.2.1 (hq1 n rfl (by omega) (q_XI_now C (by omega) (fun a i ha => q_upd_n (by omega)) hr (by rw [q_upd_n (by omega)]; exact c.2.2.2.2.2.1) q_upd_s (q_z5_eq (fun a h1 h2 => q_upd_n (by omega)) c.2.2.2.1)))
  · exact sp_forceF T.2.2.1 c1 (hq2 c1)
theorem q_adM_f {M : q_M} {a i : Nat} {km wh hv : Int} (h : a < 12 ∨ (14 < a ∧ a < 33) ∨ 36 < a) : q_adM M 11 km wh hv a i = M a i := by
  unfold q_adM
  rw [q_upd_n (by omega), q_upd_n (by omega), q_upd_n (by omega), q_upd_n (by omega), q_upd_n (by omega), q_upd_n (by omega)]
theorem q_XI_ad {Vt : Nat → Nat → (Nat → Int) → Int} {tm l sl : Nat} {M : q_M} {km wh hv : Int} (C : q_XI Vt tm l sl M) (h : 0 ≤ km ∧ km < 60 ∧ 0 ≤ wh ∧ wh < 100 ∧ 0 ≤ hv ∧ hv < 100) (h5 : M 12 5 ≠ 5) : q_XI Vt tm l sl (q_adM M 11 km wh hv) ∧ q_cfr M (q_adM M 11 km wh hv) := by
  have n5 := q_ci_n C.2.2.1
  exact ⟨q_XI_w C (fun a i ha => q_adM_f (by omega)) (q_wl_adM C.2.2.1.2.1 (show M 12 5 < 5 by omega) (by omega) (by omega) (by omega) (by omega) (by omega) (by omega)) rfl (by rw [q_adM_f (by omega)]; exact C.2.2.1.2.2.2.2.2.1) (fun a h1 h2 => q_adM_f (by omega)), fun a i ha => q_adM_f (by omega)⟩
theorem q_XI_one {Vt : Nat → Nat → (Nat → Int) → Int} {tm l sl S : Nat} {M M2 : q_M} (C : q_XI Vt tm l sl M) (hS : S < 4) (hf : ∀ a i, a ≠ 6 + (86 + 2 * S) → a ≠ 6 + (86 + 2 * S) + 1 → M2 a i = M a i) (hn : 0 ≤ M2 (6 + (86 + 2 * S)) 2 ∧ M2 (6 + (86 + 2 * S)) 2 ≤ 40) : q_XI Vt tm l sl M2 ∧ q_cfr M M2 := by
  refine ⟨q_XI_sh C (fun a i ha => hf a i (by omega) (by omega)) (by rw [hf 1 1 (by omega) (by omega)]; exact C.2.2.2.2.2.1) (fun s hs => ?_), fun a i ha => hf a i (by omega) (by omega)⟩
  by_cases e : s = S
  · subst e
    exact hn
  · rw [hf _ _ (by omega) (by omega)]
    exact C.2.2.1.2.2.2.2.2.2 s hs
theorem q_XI_sb {Vt : Nat → Nat → (Nat → Int) → Int} {tm l sl : Nat} {Cl : Nat → Int} {fr sz : Int} : ∀ (j k : Nat) (came : Int) (M : q_M), q_XI Vt tm l sl M → q_XI Vt tm l sl (q_sb Cl fr sz j k came M).2 ∧ q_cfr M (q_sb Cl fr sz j k came M).2 := by
  intro j
  induction j with
  | zero => intro k came M C; exact ⟨C, q_cfr_rf⟩
  | succ j ih =>
    intro k came M C
    unfold q_sb
    split
    · exact ⟨C, q_cfr_rf⟩
    · split
      · next h =>
        have hx := q_XI_ad C (of_decide_eq_true h.1) h.2
        have hy := ih (k + 1) (came + 1) _ hx.1
        exact ⟨hy.1, fun a i ha => (hy.2 a i ha).trans (hx.2 a i ha)⟩
      · exact ih (k + 1) came M C
end
section
/-! THE CLASS: text keeps what stays -/
theorem q_zM_f {M : q_M} {z : q_Z} {s : Nat → Int} {a i : Nat} (h1 : a ≠ 1 ∨ i < 3) (h3 : a ≠ 3) (h4 : a ≠ 4) : q_zM M z s a i = M a i := by
  unfold q_zM
  by_cases e : a = 1
  · subst e
    rw [if_pos rfl, if_neg (by omega), if_neg (by omega), if_neg (by omega), if_neg (by omega), if_neg (by omega), if_neg (by omega)]
  · rw [if_neg e, if_neg h3, if_neg h4]
theorem q_ta_s {j : Nat} : q_ta (j + 1) = 125 + 4 * j := by
  unfold q_ta
  rw [if_neg (by omega)]
  omega
/-- what reading a text leaves as it is -/
def q_cfx (M M2 : q_M) : Prop := ∀ a i, ((100 ≤ a ∧ a < 124) ∨ 1000 ≤ a ∨ (11 ≤ a ∧ a < 100) ∨ (a = 0 ∧ i = 6) ∨ a = 2) → M2 a i = M a i
def q_Tadd (Vt : Nat → Nat → (Nat → Int) → Int) (tm : Nat) (V : Nat → (Nat → Int) → Int) : Nat → Nat → (Nat → Int) → Int := fun t => if t = tm then V else Vt t
set_option maxHeartbeats 4000000 in
theorem q_XI_text {Vt : Nat → Nat → (Nat → Int) → Int} {tm l sl n j : Nat} {M M2 : q_M} {z : q_Z} {s : Nat → Int} (C : q_XI Vt tm l sl M) (htm : tm < 6) (hj : tm = j + 1) (hz : q_zI n z) (hs : ∀ p, p < 3 → 0 ≤ s p ∧ s p ≤ 160) (h : q_mdM (q_zM M z s) M2 j tm z.1 z.2.2.2.2.2.2 s) : ∃ (K S : Nat → Int) (len : Nat), q_XI (q_Tadd Vt tm (q_Vt K S len)) (tm + 1) l (sl + z.1.toNat + 47) (q_upd (q_upd (q_upd M2 5 tm (q_ta tm : Nat)) 0 2 (tm + 1)) 1 1 0) ∧ q_cfx M (q_upd (q_upd (q_upd M2 5 tm (q_ta tm : Nat)) 0 2 (tm + 1)) 1 1 0) ∧ q_cod K len ∧ (∀ i, i < len → K i = z.2.2.2.2.2.2 i) ∧ (∀ p, S p = s p) ∧ (len : Int) = z.1 := by
  obtain ⟨m1, m2, m3, m4, m5, m6, m7, m8⟩ := h
  obtain ⟨T, hl, c, k1, k2, k3, k4⟩ := C
  obtain ⟨T1, T2, T3, T4⟩ := T
  have z1 := hz.1
  have eq5 : q_ta tm = 125 + 4 * j := by rw [hj]; exact q_ta_s
  have zc := hz.2.2.2.2.1
  have eta : q_ta tm = 121 + 4 * tm := by unfold q_ta; rw [if_neg (by omega)]
  have ej : 124 + 4 * j + 1 = q_ta tm := by omega
  generalize hM3 : q_upd (q_upd (q_upd M2 5 tm (q_ta tm : Nat)) 0 2 (tm + 1)) 1 1 0 = M3
  have f3 : ∀ a i, a ≠ 0 → a ≠ 1 → a ≠ 5 → M3 a i = M2 a i := fun a i h1 h2 h3 => by rw [← hM3, q_upd_n (by omega), q_upd_n (by omega), q_upd_n (by omega)]
  have fr : ∀ a i, (5 < a ∧ a < 120 + 4 * tm) ∨ 123 + 4 * tm < a → M3 a i = M a i := fun a i ha => by
    rw [f3 a i (by omega) (by omega) (by omega), m1 a i (by omega), q_zM_f (by omega) (by omega) (by omega)]
  have f5 : ∀ t, M3 5 t = if t = tm then (q_ta tm : Int) else M 5 t := fun t => by
    rw [← hM3, q_upd_n (by omega), q_upd_n (by omega)]
    by_cases e : t = tm
    · rw [if_pos e, e, q_upd_s]
    · rw [if_neg e, q_upd_n (by omega), m1 5 t (by omega), q_zM_f (by omega) (by omega) (by omega)]
  have f06 : M3 0 6 = M 0 6 := by rw [← hM3, q_upd_n (by omega), q_upd_n (by omega), q_upd_n (by omega), m1 0 6 (by omega), q_zM_f (by omega) (by omega) (by omega)]
  have hcod : q_cod (M3 (124 + 4 * j)) z.1.toNat := by
    intro i hi
    rw [f3 _ i (by omega) (by omega) (by omega), m2 i (by omega) (by omega)]
    exact zc i hi
  have hlen : M3 (124 + 4 * j) 1000 = (z.1.toNat : Nat) := by
    rw [f3 _ _ (by omega) (by omega) (by omega), m3]
    omega
  have g0 : ∀ i, M3 (125 + 4 * j) i = M2 (125 + 4 * j) i := fun i => f3 _ _ (by omega) (by omega) (by omega)
  have es : ∀ i, M3 (q_ta tm + 1) i = s i := fun i => by
    rw [show q_ta tm + 1 = 126 + 4 * j by omega, f3 _ _ (by omega) (by omega) (by omega)]
    exact m8 i
  have hlaw : q_lawC (q_Vt (M3 (124 + 4 * j)) (M3 (q_ta tm + 1)) z.1.toNat) (q_ta tm) M3 := by
    refine q_lawC_of2 (by omega) ?_ ?_ ?_ hlen (by omega) hcod (fun p hp => by rw [es p]; have := hs p hp; omega)
    · rw [eq5, g0]; exact m5
    · rw [eq5, g0, m6]; omega
    · rw [eq5, g0, m7]; omega
  refine ⟨M3 (124 + 4 * j), M3 (q_ta tm + 1), z.1.toNat, ⟨⟨by omega, by omega, by rw [← hM3, q_upd_n (by omega), q_upd_s]; omega, fun t ht => ?_⟩, by omega, ?_, ⟨q_rgW_c (fun a i h1 h2 => fr a i (by omega)) k1.1, by rw [fr 65 9 (by omega)]; exact k1.2⟩, fun q => ?_, ?_, by omega⟩, fun a i ha => ?_, hcod, fun i hi => ?_, es, by omega⟩
  · by_cases e : t = tm
    · subst e
      rw [f5, if_pos rfl, show q_Tadd Vt t (q_Vt (M3 (124 + 4 * j)) (M3 (q_ta t + 1)) z.1.toNat) t = q_Vt (M3 (124 + 4 * j)) (M3 (q_ta t + 1)) z.1.toNat from if_pos rfl]
      exact ⟨rfl, by rw [eq5, g0]; exact m4, q_lawV_of2 hcod, hlaw⟩
    · have hx := T4 t (by omega)
      have hb := q_ta_b (t := t) (by omega)
      have hb2 : q_ta t < 120 + 4 * tm - 1 := by unfold q_ta; split <;> omega
      rw [f5, if_neg e, show q_Tadd Vt tm (q_Vt (M3 (124 + 4 * j)) (M3 (q_ta tm + 1)) z.1.toNat) t = Vt t from if_neg e]
      exact ⟨hx.1, by rw [fr _ _ (by omega)]; exact hx.2.1, hx.2.2.1, q_lawC_c (fun a i ha => fr a i (by omega)) hx.2.2.2⟩
  · obtain ⟨c1, c2, c3, c4, c5, c6, c7⟩ := c
    have hb := q_ta_b (t := l) (by omega)
    have hb2 : q_ta l < 120 + 4 * tm - 1 := by unfold q_ta; split <;> omega
    rw [show q_Tadd Vt tm (q_Vt (M3 (124 + 4 * j)) (M3 (q_ta tm + 1)) z.1.toNat) l = Vt l from if_neg (by omega)]
    exact ⟨c1, q_wl_eq (fun a i ha => fr a i (by omega)) c2, q_rg5_eq (fun a i _ h1 h2 => fr a i (by omega)) c3, q_z5_eq (fun a h1 h2 => fr a 5 (by omega)) c4, q_z5_eq (fun a h1 h2 => fr a 5 (by omega)) c5, by rw [fr 11 9 (by omega)]; exact c6, fun s2 hs2 => by rw [fr _ _ (by omega)]; exact c7 s2 hs2⟩
  · rw [f06] at q
    obtain ⟨kl, h1, h2⟩ := k2 q
    exact ⟨kl, by omega, by rw [fr 65 10 (by omega)]; exact h2⟩
  · rw [← hM3, q_upd_s]
    omega
  · by_cases e : a = 0
    · have e2 : i = 6 := by omega
      subst e
      subst e2
      exact f06
    · by_cases e2 : a = 2
      · subst e2
        rw [← hM3, q_upd_n (by omega), q_upd_n (by omega), q_upd_n (by omega), m1 2 i (by omega), q_zM_f (by omega) (by omega) (by omega)]
      · exact fr a i (by omega)
  · rw [f3 _ i (by omega) (by omega) (by omega)]
    exact m2 i (by omega) (by omega)
theorem R_st_b {T : Nat → Int} {n : Nat} {z : q_Z} {s : Nat → Int} (h : q_zI n z) : ∀ p, p < 3 → 0 ≤ R_st T n z s p ∧ R_st T n z s p ≤ 160 := by
  intro p hp
  have h1 := (R_ex_I (T := T) (w := -5) h).1
  have i2 : q_zI n (R_z2 T n z) := R_pt_I h
  have h2 := (R_ex_I (T := T) (w := -6) i2).1
  have i3 : q_zI n (R_z3 T n z) := R_pt_I i2
  have h3 := (R_ex_I (T := T) (w := -7) i3).1
  unfold R_st
  rcases (show p = 0 ∨ p = 1 ∨ p = 2 by omega) with e | e | e
  · subst e
    rw [F_u_n (by omega), F_u_n (by omega), F_u_s]
    exact h1
  · subst e
    rw [F_u_n (by omega), F_u_s]
    exact h2
  · subst e
    rw [F_u_s]
    exact h3
end
section
/-! THE FIRST STATE KEEPS BOTH SIDES' BOUNDS -/
def q_rbk (r : q_Row) (lo hi : Int) : Bool := r.1.all (fun x => decide (lo ≤ x ∧ x ≤ hi)) && decide (lo ≤ r.2.1 ∧ r.2.1 ≤ hi) && decide (lo ≤ r.2.2 ∧ r.2.2 ≤ hi)
def q_tbk (a : Nat) (lo hi : Int) : Bool := match q_T0[a]? with
  | some r => q_rbk r lo hi
  | none => false
theorem q_tb {a : Nat} {lo hi : Int} {B : q_M} (h : q_tbk a lo hi = true) (i : Nat) : lo ≤ q_lk q_T0 B a i ∧ q_lk q_T0 B a i ≤ hi := by
  unfold q_tbk at h
  unfold q_lk
  cases e : q_T0[a]? with
  | none => rw [e] at h; cases h
  | some r =>
    rw [e] at h
    simp only [q_rbk, Bool.and_eq_true, List.all_eq_true, decide_eq_true_eq] at h
    obtain ⟨⟨h1, h2⟩, h3⟩ := h
    show lo ≤ q_rg r i ∧ q_rg r i ≤ hi
    unfold q_rg
    split
    · exact h3
    · rw [List.getD_eq_getElem?_getD]
      cases e2 : r.1[i]? with
      | none => exact h2
      | some x => exact h1 x (List.mem_of_getElem? e2)
def q_rowsOk (w : Nat) : Bool := q_tbk (w + 22) 0 5 && q_tbk (w + 23) 0 9 && q_tbk (w + 24) 0 99 && q_tbk (w + 25) 0 99 && q_tbk (w + 3) 0 5 && q_tbk (w + 19) 0 99 && q_tbk (w + 2) 0 6 && q_tbk (w + 20) 0 99 && q_tbk (w + 21) 0 99
theorem q_rgW_0 {w : Nat} {B : q_M} (h : q_rowsOk w = true) (h5 : q_lk q_T0 B (w + 1) 5 = 0) (h9 : q_lk q_T0 B w 9 = 0) (h1 : q_lk q_T0 B (w + 20) 5 = 0) (h2 : q_lk q_T0 B (w + 21) 5 = 0) : q_rgW (q_lk q_T0 B) w := by
  simp only [q_rowsOk, Bool.and_eq_true] at h
  obtain ⟨⟨⟨⟨⟨⟨⟨⟨a1, a2⟩, a3⟩, a4⟩, a5⟩, a6⟩, a7⟩, a8⟩, a9⟩ := h
  exact ⟨by omega, by omega, q_tb a1, q_tb a2, q_tb a3, q_tb a4, q_tb a5, q_tb a6, q_tb a7, q_tb a8, q_tb a9, h1, h2⟩
theorem q_ok_11 : q_rowsOk 11 = true := by decide +kernel
theorem q_ok_38 : q_rowsOk 38 = true := by decide +kernel
theorem q_ok_65 : q_rowsOk 65 = true := by decide +kernel
section FS
variable {B : q_M}
theorem q_first_law : q_lawC (q_Vt (q_lk q_T0 B 7) (q_lk q_T0 B 9) 8) 8 (q_lk q_T0 B) := by
  refine q_lawC_of2 (ca := 7) (len := 8) rfl rfl rfl rfl rfl (by omega) (fun i hi => ?_) (fun p hp => ?_)
  · match i, hi with
    | 0, _ => rw [m_7_0]; decide
    | 1, _ => rw [m_7_1]; decide
    | 2, _ => rw [m_7_2]; decide
    | 3, _ => rw [m_7_3]; decide
    | 4, _ => rw [m_7_4]; decide
    | 5, _ => rw [m_7_5]; decide
    | 6, _ => rw [m_7_6]; decide
    | 7, _ => rw [m_7_7]; decide
    | n + 8, h => omega
  · match p, hp with
    | 0, _ => show 0 ≤ q_lk q_T0 B 9 0 ∧ q_lk q_T0 B 9 0 ≤ 100000; rw [m_9_0]; decide
    | 1, _ => show 0 ≤ q_lk q_T0 B 9 1 ∧ q_lk q_T0 B 9 1 ≤ 100000; rw [m_9_1]; decide
    | 2, _ => show 0 ≤ q_lk q_T0 B 9 2 ∧ q_lk q_T0 B 9 2 ≤ 100000; rw [m_9_2]; decide
    | n + 3, h => omega
theorem q_first_cod : q_cod (q_lk q_T0 B 7) 8 := by
  intro i hi
  match i, hi with
  | 0, _ => rw [m_7_0]; decide
  | 1, _ => rw [m_7_1]; decide
  | 2, _ => rw [m_7_2]; decide
  | 3, _ => rw [m_7_3]; decide
  | 4, _ => rw [m_7_4]; decide
  | 5, _ => rw [m_7_5]; decide
  | 6, _ => rw [m_7_6]; decide
  | 7, _ => rw [m_7_7]; decide
  | n + 8, h => omega
theorem q_first_z5 : q_z5 (q_lk q_T0 B) 11 ∧ q_z5 (q_lk q_T0 B) 38 := by
  refine ⟨⟨fun p hp => ?_, fun p hp => ?_⟩, ⟨fun p hp => ?_, fun p hp => ?_⟩⟩
  all_goals
    match p, hp with
    | 0, _ => rfl
    | 1, _ => rfl
    | 2, _ => rfl
    | 3, _ => rfl
    | 4, _ => rfl
    | n + 5, h => omega
theorem q_first_XI : q_XI (fun _ => q_Vt (q_lk q_T0 B 7) (q_lk q_T0 B 9) 8) 1 0 3394 (q_lk q_T0 B) := by
  have hV := q_lawV_of2 (s := q_lk q_T0 B 9) (q_first_cod (B := B))
  have r11 := q_rgW_0 (B := B) q_ok_11 rfl rfl rfl rfl
  have r38 := q_rgW_0 (B := B) q_ok_38 rfl rfl rfl rfl
  have r65 := q_rgW_0 (B := B) q_ok_65 rfl rfl rfl rfl
  refine ⟨⟨by omega, by omega, rfl, fun t ht => ?_⟩, by omega, ⟨Or.inl rfl, ⟨r11, hV, q_first_law, rfl, by decide, Or.inr (by decide)⟩, q_rg5_of r38, q_first_z5.1, q_first_z5.2, ?_, fun s hs => ?_⟩, ⟨r65, ?_⟩, fun h => absurd rfl h, ⟨?_, ?_⟩, by omega⟩
  · have e : t = 0 := by omega
    subst e
    exact ⟨rfl, rfl, hV, q_first_law⟩
  · rw [m_11_9]; omega
  · match s, hs with
    | 0, _ => show 0 ≤ q_lk q_T0 B 92 2 ∧ q_lk q_T0 B 92 2 ≤ 40; rw [show q_lk q_T0 B 92 2 = 0 from rfl]; decide
    | 1, _ => show 0 ≤ q_lk q_T0 B 94 2 ∧ q_lk q_T0 B 94 2 ≤ 40; rw [show q_lk q_T0 B 94 2 = 0 from rfl]; decide
    | 2, _ => show 0 ≤ q_lk q_T0 B 96 2 ∧ q_lk q_T0 B 96 2 ≤ 40; rw [show q_lk q_T0 B 96 2 = 0 from rfl]; decide
    | 3, _ => show 0 ≤ q_lk q_T0 B 98 2 ∧ q_lk q_T0 B 98 2 ≤ 40; rw [show q_lk q_T0 B 98 2 = 0 from rfl]; decide
    | n + 4, h => omega
  · rw [m_65_9]; omega
  · rw [m_1_1]; omega
  · rw [m_1_1]; omega
theorem q_first_wf : q_wfT (fun i => q_lk q_T0 B 106 (200 * 0 + i)) (fun i => q_lk q_T0 B 107 (4 * 0 + i)) := by
  intro p hp
  have c0 : q_lk q_T0 B 106 (200 * 0 + 0) = 100099 := rfl
  have c1 : q_lk q_T0 B 106 (200 * 0 + 1) = 0 := rfl
  have c2 : q_lk q_T0 B 106 (200 * 0 + 2) = 17 := rfl
  have c3 : q_lk q_T0 B 106 (200 * 0 + 3) = 3 := rfl
  have c4 : q_lk q_T0 B 106 (200 * 0 + 4) = 100009 := rfl
  match p, hp with
  | 0, _ =>
    refine ⟨0, 3, fun i => if i = 0 then 0 else if i = 1 then 1 else if i = 2 then 2 else 1, rfl, rfl, by omega, by omega, ⟨rfl, fun i _ hi => ?_⟩, rfl⟩
    match i, hi with
    | 0, _ => exact Or.inl ⟨by show q_pu (q_lk q_T0 B 106 (200 * 0 + 0)); rw [c0]; unfold q_pu; omega, rfl⟩
    | 1, _ => exact Or.inl ⟨by show q_pu (q_lk q_T0 B 106 (200 * 0 + 1)); rw [c1]; unfold q_pu; omega, rfl⟩
    | 2, _ => exact Or.inr (Or.inr ⟨by show q_bi (q_lk q_T0 B 106 (200 * 0 + 2)); rw [c2]; unfold q_bi; omega, by decide, rfl⟩)
    | n + 3, h => omega
  | 1, _ =>
    refine ⟨3, 4, fun i => i - 3, rfl, rfl, by omega, by omega, ⟨rfl, fun i h0 hi => ?_⟩, rfl⟩
    have e : i = 3 := by omega
    subst e
    exact Or.inl ⟨by show q_pu (q_lk q_T0 B 106 (200 * 0 + 3)); rw [c3]; unfold q_pu; omega, rfl⟩
  | 2, _ =>
    refine ⟨4, 5, fun i => i - 4, rfl, rfl, by omega, by omega, ⟨rfl, fun i h0 hi => ?_⟩, rfl⟩
    have e : i = 4 := by omega
    subst e
    exact Or.inl ⟨by show q_pu (q_lk q_T0 B 106 (200 * 0 + 4)); rw [c4]; unfold q_pu; omega, rfl⟩
  | n + 3, h => omega
end FS
theorem q_ok_m1 : (q_tbk 101 0 5 && q_tbk 102 0 9 && q_tbk 103 0 99 && q_tbk 104 0 4 && q_tbk 108 0 4 && q_tbk 109 0 0 && q_tbk 111 0 40) = true := by decide +kernel
theorem q_first_room {B : q_M} : ∀ i, i < 5 → q_lk q_T0 B 103 (4 * i + 1) = 1 := by
  intro i hi
  match i, hi with
  | 0, _ => rfl
  | 1, _ => rfl
  | 2, _ => rfl
  | 3, _ => rfl
  | 4, _ => rfl
  | n + 5, h => omega
theorem q_first_MI {B : q_M} : q_MI (fun _ => q_V1 (fun i => q_lk q_T0 B 106 (200 * 0 + i)) (fun i => q_lk q_T0 B 107 (4 * 0 + i))) 1 (q_lk q_T0 B) := by
  have h := q_ok_m1
  simp only [Bool.and_eq_true] at h
  obtain ⟨⟨⟨⟨⟨⟨h1, h2⟩, h3⟩, h4⟩, h8⟩, h9⟩, h11⟩ := h
  have b1 := q_tb (B := B) h1
  have b2 := q_tb (B := B) h2
  have b3 := q_tb (B := B) h3
  have b4 := q_tb (B := B) h4
  have b8 := q_tb (B := B) h8
  have b9 := q_tb (B := B) h9
  have b11 := q_tb (B := B) h11
  refine ⟨⟨by rw [m_100_0]; omega, by rw [m_100_5]; omega, fun i _ => b1 i, fun i _ => b2 i, fun i _ => ?_, fun i _ => ?_, fun i _ => ?_, fun i _ => b3 _, fun i hi => by rw [q_first_room i hi]; omega, fun i _ => b3 _, fun i _ => b3 _⟩, by rw [m_100_5]; omega, fun i hi => by rw [q_first_room i hi]; omega, fun s _ => b11 s, ⟨by omega, by omega, rfl, fun t ht => ?_⟩, by rw [m_100_11]; omega, by rw [m_100_7]; omega, ⟨fun i _ => ?_, fun i _ => ?_, fun i _ => ?_, fun i _ => ?_, fun i _ => ?_, fun i _ => ?_, fun i _ => ?_, ?_, ?_, ?_⟩, Or.inl rfl⟩
  · have := b4 (3 * i); omega
  · have := b4 (3 * i + 1); omega
  · have := b4 (3 * i + 2); omega
  · have e : t = 0 := by omega
    subst e
    exact ⟨q_lawV_1, q_lawT_of (by omega) q_first_wf⟩
  · have := b8 (3 * i); omega
  · have := b8 (3 * i + 1); omega
  · have := b8 (3 * i + 2); omega
  · have := b8 (15 + 4 * i); omega
  · have := b8 (15 + (4 * i + 1)); omega
  · have := b8 (15 + (4 * i + 2)); omega
  · have := b8 (15 + (4 * i + 3)); omega
  · have := b9 0; omega
  · have := b9 1; omega
  · have := b9 2; omega
end
section
/-! THE TWO READERS: tokens -/
def L_i (T : Nat → Int) (n a : Nat) : Nat := F_wh F_blk T (n - a) a
def L_t (T : Nat → Int) (n a : Nat) : Int := (R_tk T n (L_i T n a) 0).1
def L_v (T : Nat → Int) (n a : Nat) : Int := (R_tk T n (L_i T n a) 0).2.1
def L_b (T : Nat → Int) (n a : Nat) : Nat := (R_tk T n (L_i T n a) 0).2.2
theorem R_m_any {T : Nat → Int} {i b j : Nat} {t v : Int} {a a' : Int × Int} (h : a.1 = a'.1 ∧ (a.1 ≠ -1 → a.2 = a'.2)) : (R_m T i b j t v a).1 = (R_m T i b j t v a').1 ∧ ((R_m T i b j t v a).1 ≠ -1 → (R_m T i b j t v a).2 = (R_m T i b j t v a').2) := by
  unfold R_m
  split
  · exact ⟨rfl, fun _ => rfl⟩
  · exact h
theorem R_wd_any {T : Nat → Int} {i b : Nat} {v v' : Int} : (R_wd T i b v).1 = (R_wd T i b v').1 ∧ ((R_wd T i b v).1 ≠ -1 → (R_wd T i b v).2 = (R_wd T i b v').2) := by
  unfold R_wd
  exact R_m_any (R_m_any (R_m_any (R_m_any (R_m_any (R_m_any (R_m_any (R_m_any (R_m_any (R_m_any (R_m_any (R_m_any ⟨rfl, fun z => absurd rfl z⟩)))))))))))
theorem R_tk_any {T : Nat → Int} {n i : Nat} {v v' : Int} : (R_tk T n i v).1 = (R_tk T n i v').1 ∧ (((R_tk T n i v).1 = -3 ∨ (R_tk T n i v).1 = -4) → (R_tk T n i v).2.1 = (R_tk T n i v').2.1) ∧ (R_tk T n i v).2.2 = (R_tk T n i v').2.2 := by
  unfold R_tk
  by_cases c1 : n ≤ i
  · rw [if_pos c1, if_pos c1]
    exact ⟨rfl, fun z => absurd z (by show ¬((-2 : Int) = -3 ∨ (-2 : Int) = -4); omega), rfl⟩
  · rw [if_neg c1, if_neg c1]
    by_cases c2 : F_ltr (T i) = true
    · rw [if_pos c2, if_pos c2]
      have h := R_wd_any (T := T) (i := i) (b := F_wh F_ltr T (n - (i + 1)) (i + 1)) (v := v) (v' := v')
      refine ⟨h.1, fun z => h.2 ?_, rfl⟩
      have z : (R_wd T i (F_wh F_ltr T (n - (i + 1)) (i + 1)) v).1 = -3 ∨ (R_wd T i (F_wh F_ltr T (n - (i + 1)) (i + 1)) v).1 = -4 := z
      omega
    · rw [if_neg c2, if_neg c2]
      by_cases c3 : F_dgt (T i) = true
      · rw [if_pos c3, if_pos c3]
        exact ⟨rfl, fun _ => rfl, rfl⟩
      · rw [if_neg c3, if_neg c3]
        refine ⟨rfl, fun z => ?_, rfl⟩
        exfalso
        by_cases c4 : F_sgn (T i) = true
        · rw [if_pos c4] at z
          have h := of_decide_eq_true c4
          have z : T i = -3 ∨ T i = -4 := z
          omega
        · rw [if_neg c4] at z
          have z : (-1 : Int) = -3 ∨ (-1 : Int) = -4 := z
          omega
theorem R_wd_t {T : Nat → Int} {i b : Nat} {v : Int} : -10 ≤ (R_wd T i b v).1 ∧ (R_wd T i b v).1 ≤ -1 ∧ (R_wd T i b v).1 ≠ -2 ∧ (R_wd T i b v).1 ≠ -3 := by
  have st : ∀ {j : Nat} {t w : Int} {a : Int × Int}, (-10 ≤ t ∧ t ≤ -1 ∧ t ≠ -2 ∧ t ≠ -3) → (-10 ≤ a.1 ∧ a.1 ≤ -1 ∧ a.1 ≠ -2 ∧ a.1 ≠ -3) → (-10 ≤ (R_m T i b j t w a).1 ∧ (R_m T i b j t w a).1 ≤ -1 ∧ (R_m T i b j t w a).1 ≠ -2 ∧ (R_m T i b j t w a).1 ≠ -3) := by
    intro j t w a h1 h2
    unfold R_m
    split
    · exact h1
    · exact h2
  unfold R_wd
  refine st ?_ (st ?_ (st ?_ (st ?_ (st ?_ (st ?_ (st ?_ (st ?_ (st ?_ (st ?_ (st ?_ (st ?_ ?_)))))))))))
  all_goals simp
/-- which tokens there are; behind one more is read -/
theorem L_ok {T : Nat → Int} {n a : Nat} (ha : a ≤ n) : a ≤ L_i T n a ∧ L_i T n a ≤ n ∧ L_i T n a ≤ L_b T n a ∧ L_b T n a ≤ n ∧ (L_t T n a ≠ -2 → L_i T n a < L_b T n a) ∧ ((-10 ≤ L_t T n a ∧ L_t T n a ≤ -1) ∨ L_t T n a = 40 ∨ L_t T n a = 41 ∨ L_t T n a = 59 ∨ L_t T n a = 43 ∨ L_t T n a = 45 ∨ L_t T n a = 42 ∨ L_t T n a = 60 ∨ L_t T n a = 61) ∧ (L_t T n a = -3 → 0 ≤ L_v T n a ∧ L_v T n a ≤ 9999) ∧ (L_t T n a = -4 → 0 ≤ L_v T n a ∧ L_v T n a ≤ 5) := by
  have h1 := F_wh_le (P := F_blk) (T := T) (n - a) a
  have h2 : L_i T n a ≤ n := by unfold L_i; omega
  have h3 := R_tk_ok (T := T) (n := n) (i := L_i T n a) (v := 0) h2
  refine ⟨h1.1, h2, h3.2.1, h3.2.2, ?_, ?_, h3.1.1, h3.1.2⟩
  · unfold L_t L_b
    generalize L_i T n a = i
    unfold R_tk
    by_cases c1 : n ≤ i
    · rw [if_pos c1]
      intro z
      exact absurd rfl z
    · rw [if_neg c1]
      intro _
      by_cases c2 : F_ltr (T i) = true
      · rw [if_pos c2]
        have h := F_wh_le (P := F_ltr) (T := T) (n - (i + 1)) (i + 1)
        show i < F_wh F_ltr T (n - (i + 1)) (i + 1)
        omega
      · rw [if_neg c2]
        by_cases c3 : F_dgt (T i) = true
        · rw [if_pos c3]
          show i < F_wh F_dgt T (n - i) i
          obtain ⟨k, hk⟩ : ∃ k, n - i = k + 1 := ⟨n - i - 1, by omega⟩
          rw [hk, F_wh, if_pos c3]
          have h := F_wh_le (P := F_dgt) (T := T) k (i + 1)
          omega
        · rw [if_neg c3]
          show i < i + 1
          omega
  · unfold L_t
    generalize L_i T n a = i
    unfold R_tk
    by_cases c1 : n ≤ i
    · rw [if_pos c1]
      exact Or.inl ⟨by show (-10 : Int) ≤ -2; omega, by show (-2 : Int) ≤ -1; omega⟩
    · rw [if_neg c1]
      by_cases c2 : F_ltr (T i) = true
      · rw [if_pos c2]
        have h := R_wd_t (T := T) (i := i) (b := F_wh F_ltr T (n - (i + 1)) (i + 1)) (v := 0)
        exact Or.inl ⟨h.1, h.2.1⟩
      · rw [if_neg c2]
        by_cases c3 : F_dgt (T i) = true
        · rw [if_pos c3]
          refine Or.inl ?_
          show -10 ≤ (if _ then (-1 : Int) else -3) ∧ (if _ then (-1 : Int) else -3) ≤ -1
          split <;> omega
        · rw [if_neg c3]
          show (-10 ≤ (if F_sgn (T i) = true then T i else -1) ∧ (if F_sgn (T i) = true then T i else -1) ≤ -1) ∨ _
          by_cases c4 : F_sgn (T i) = true
          · have h := of_decide_eq_true c4
            simp only [c4, if_true]
            omega
          · simp only [c4]
            exact Or.inl (by show -10 ≤ (if false = true then T i else -1) ∧ (if false = true then T i else -1) ≤ (-1 : Int); rw [if_neg (by decide)]; omega)
theorem L_end {T : Nat → Int} {n : Nat} : L_t T n n = -2 := by
  unfold L_t L_i
  rw [Nat.sub_self, F_wh]
  unfold R_tk
  rw [if_pos (Nat.le_refl n)]
/-- the reader z holds the token behind a, without a fault -/
def q_tok (T : Nat → Int) (n : Nat) (z : q_Z) (a : Nat) : Prop := z.2.1 = L_t T n a ∧ ((L_t T n a = -3 ∨ L_t T n a = -4) → z.2.2.1 = L_v T n a) ∧ z.2.2.2.1 = L_i T n a ∧ z.2.2.2.2.1 = L_b T n a ∧ z.2.2.2.2.2.1 = -1
theorem R_nx_tk {T : Nat → Int} {n a : Nat} {z : q_Z} (h : q_tok T n z a) : q_tok T n (R_nx T n z) (L_b T n a) ∧ (R_nx T n z).1 = z.1 ∧ (R_nx T n z).2.2.2.2.2.2 = z.2.2.2.2.2.2 := by
  obtain ⟨cn, tok, val, fr, bh, ft, C⟩ := z
  obtain ⟨h1, h2, h3, h4, h5⟩ := h
  simp only at h1 h2 h3 h4 h5
  subst h4
  subst h5
  unfold R_nx
  simp only [Int.toNat_natCast]
  rw [if_neg (by omega)]
  have e := R_tk_any (T := T) (n := n) (i := F_wh F_blk T (n - L_b T n a) (L_b T n a)) (v := val) (v' := 0)
  refine ⟨⟨e.1, fun hz => e.2.1 (by rw [e.1]; exact hz), rfl, ?_, rfl⟩, rfl, rfl⟩
  show (((R_tk T n _ val).2.2 : Nat) : Int) = ((L_b T n (L_b T n a) : Nat) : Int)
  rw [e.2.2]
  rfl
/-- with a fault nothing is read any more -/
def q_fs (z : q_Z) : Prop := 0 ≤ z.2.2.2.2.2.1 ∧ z.2.1 = -1
theorem R_fl_fs {z : q_Z} (h : q_fs z) : q_fs (R_fl z) ∧ (R_fl z).2.2.2.2.2.1 = z.2.2.2.2.2.1 := by
  have e : (R_fl z).2.2.2.2.2.1 = z.2.2.2.2.2.1 := if_neg (by have := h.1; omega)
  exact ⟨⟨by rw [e]; exact h.1, rfl⟩, e⟩
theorem R_fl_tk {T : Nat → Int} {n a : Nat} {z : q_Z} (h : q_tok T n z a) : q_fs (R_fl z) ∧ (R_fl z).2.2.2.2.2.1 = L_i T n a := by
  have e : (R_fl z).2.2.2.2.2.1 = L_i T n a := by
    show (if z.2.2.2.2.2.1 < 0 then z.2.2.2.1 else z.2.2.2.2.2.1) = _
    rw [h.2.2.2.2, if_pos (by omega)]
    exact h.2.2.1
  exact ⟨⟨by rw [e]; omega, rfl⟩, e⟩
theorem R_em_fs {o v : Int} {z : q_Z} (h : q_fs z) : q_fs (R_em o v z) ∧ (R_em o v z).2.2.2.2.2.1 = z.2.2.2.2.2.1 := by
  unfold R_em
  split
  · exact ⟨h, rfl⟩
  · exact ⟨h, rfl⟩
theorem R_ex_fs {T : Nat → Int} {n : Nat} {w : Int} {z : q_Z} (hw : w ≠ -1) (h : q_fs z) : q_fs (R_ex T n w z) ∧ (R_ex T n w z).2.2.2.2.2.1 = z.2.2.2.2.2.1 := by
  unfold R_ex
  rw [if_neg (by rw [h.2]; omega)]
  exact R_fl_fs h
/-- what the class's code means to the model -/
def K_c (x : Int) : Int := if x % 16 = 1 then 100000 + x / 16 else if x % 16 = 2 then x / 16 else if x % 16 = 3 then 19 else if x % 16 = 4 then 13 else if x % 16 = 5 then 18 else if x % 16 = 6 then 16 else if x % 16 = 7 then 17 else if x % 16 = 8 then 14 else if x % 16 = 9 then 15 else if x % 16 = 10 then 12 else if x % 16 = 11 then 11 else -7
/-- the code from b on, as the model has it -/
def K_o (b : Nat) (z : q_Z) : List Int := (List.range (z.1.toNat - b)).map (fun i => K_c (z.2.2.2.2.2.2 (b + i)))
theorem K_same {b : Nat} {z z' : q_Z} (h1 : z'.1 = z.1) (h2 : z'.2.2.2.2.2.2 = z.2.2.2.2.2.2) : K_o b z' = K_o b z := by
  unfold K_o
  rw [h1, h2]
theorem R_em_tk {T : Nat → Int} {n a b : Nat} {z : q_Z} {o v : Int} (h : q_tok T n z a) (hb : (b : Int) ≤ z.1) (hc : z.1 < 160) (hv : 0 ≤ v ∧ v ≤ 9999) (ho : 0 ≤ o ∧ o ≤ 15) : q_tok T n (R_em o v z) a ∧ (R_em o v z).1 = z.1 + 1 ∧ (∀ i : Nat, (i : Int) < z.1 → (R_em o v z).2.2.2.2.2.2 i = z.2.2.2.2.2.2 i) ∧ K_o b (R_em o v z) = K_o b z ++ [K_c (16 * v + o)] := by
  obtain ⟨cn, tok, val, fr, bh, ft, C⟩ := z
  simp only at hb hc
  unfold R_em
  simp only
  rw [if_pos hc]
  refine ⟨h, rfl, fun i hi => ?_, ?_⟩
  · have hi : (i : Int) < cn := hi
    exact if_neg (by omega)
  · unfold K_o
    simp only
    obtain ⟨k, hk⟩ : ∃ k : Nat, cn = b + k := ⟨(cn - b).toNat, by omega⟩
    have e1 : (cn + 1).toNat - b = k + 1 := by omega
    have e2 : cn.toNat - b = k := by omega
    have e3 : cn.toNat = b + k := by omega
    rw [e1, e2, e3, List.range_succ, List.map_append]
    congr 1
    · apply List.map_congr_left
      intro i hi
      have hi := List.mem_range.mp hi
      show K_c (F_u C (b + k) _ (b + i)) = _
      unfold F_u
      rw [if_neg (by omega)]
    · show [K_c (F_u C (b + k) _ (b + k))] = _
      unfold F_u
      rw [if_pos rfl, q_code hv.1 (by omega) ho.1 (by omega)]
end
