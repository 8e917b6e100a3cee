/-! THE MODEL: what stays -/
/-- nothing outside the model changes, nor the year, nor what the image keeps of it -/
def q_mfr (M M2 : q_M) : Prop := ∀ a i, (a < 100 ∨ 124 ≤ a ∨ (a = 100 ∧ (i = 5 ∨ i = 7 ∨ i = 11 ∨ i = 12)) ∨ (a = 109 ∧ (i = 1 ∨ i = 2)) ∨ a = 105 ∨ a = 114) → M2 a i = M a i
def q_mfw (M M2 : q_M) : Prop := ∀ a i, (a < 100 ∨ 124 ≤ a) → M2 a i = M a i
/-- the tape, the words, which law stands and is kept, stay -/
def q_mft (M M2 : q_M) : Prop := ∀ a i, ((a = 100 ∧ (i = 7 ∨ i = 11)) ∨ (a = 109 ∧ i = 2) ∨ a = 105 ∨ a = 114) → M2 a i = M a i
/-- a tape with k bytes more from s on -/
def F_tp (T : Nat → Int) (s : Nat) (v : Nat → Int) : Nat → Nat → Int
  | 0 => T
  | k + 1 => F_u (F_tp T s v k) (s + k) (v k)
def F_vs (a b c d e : Int) (k : Nat) : Int := if k = 0 then a else if k = 1 then b else if k = 2 then c else if k = 3 then d else e
theorem q_mfr_rf {M : q_M} : q_mfr M M := fun _ _ _ => rfl
theorem q_mfr_tr {M M2 M3 : q_M} (h : q_mfr M M2) (h2 : q_mfr M2 M3) : q_mfr M M3 := fun a i h3 => (h2 a i h3).trans (h a i h3)
theorem q_mfr_up {M M2 : q_M} {a i : Nat} {v : Int} (h : q_mfr M M2) (ha : 100 ≤ a) (ha2 : a < 124) (hc : ¬(a = 100 ∧ (i = 5 ∨ i = 7 ∨ i = 11 ∨ i = 12)) ∧ ¬(a = 109 ∧ (i = 1 ∨ i = 2)) ∧ a ≠ 105 ∧ a ≠ 114 := by omega) : q_mfr M (q_upd M2 a i v) := fun b j hb => (q_upd_n (by omega)).trans (h b j hb)
theorem q_mfr_mq {M M2 : q_M} (h : q_mq M M2) : q_mfr M M2 := fun a i ha => h a i (by omega) (by omega)
/-- the image's numbers -/
def q_img (tm : Nat) (M : q_M) : Prop := (∀ i, i < 5 → 0 ≤ M 108 (3 * i) ∧ M 108 (3 * i) ≤ 99) ∧ (∀ i, i < 5 → 0 ≤ M 108 (3 * i + 1) ∧ M 108 (3 * i + 1) ≤ 99) ∧ (∀ i, i < 5 → -1 ≤ M 108 (3 * i + 2) ∧ M 108 (3 * i + 2) ≤ 4) ∧
  (∀ i, i < 5 → 0 ≤ M 108 (15 + 4 * i) ∧ M 108 (15 + 4 * i) ≤ 99) ∧ (∀ i, i < 5 → 0 ≤ M 108 (15 + (4 * i + 1)) ∧ M 108 (15 + (4 * i + 1)) ≤ 5) ∧ (∀ i, i < 5 → 0 ≤ M 108 (15 + (4 * i + 2)) ∧ M 108 (15 + (4 * i + 2)) ≤ 99) ∧ (∀ i, i < 5 → 0 ≤ M 108 (15 + (4 * i + 3)) ∧ M 108 (15 + (4 * i + 3)) ≤ 99) ∧
  (0 ≤ M 109 0 ∧ M 109 0 ≤ 5) ∧ (0 ≤ M 109 1 ∧ M 109 1 ≤ 999) ∧ (0 ≤ M 109 2 ∧ M 109 2 < tm)
def q_MI (Vt : Nat → Nat → (Nat → Int) → Int) (tm : Nat) (M : q_M) : Prop := q_mb M ∧ M 100 5 ≤ 999 ∧ (∀ b, b < 5 → M 103 (4 * b + 1) ≤ 5) ∧ (∀ s, s < 4 → 0 ≤ M 111 s ∧ M 111 s ≤ 40) ∧ q_mtx Vt tm M ∧ (0 ≤ M 100 11 ∧ M 100 11 < tm) ∧ (0 ≤ M 100 7 ∧ M 100 7 ≤ 160) ∧ q_img tm M ∧ (M 100 12 = 0 ∨ M 100 12 = 1)
def q_rel (a i : Nat) : Prop := (a = 100 ∧ (i = 0 ∨ i = 5 ∨ i = 7 ∨ i = 10 ∨ i = 11 ∨ i = 12)) ∨ (101 ≤ a ∧ a ≤ 104) ∨ (106 ≤ a ∧ a ≤ 109) ∨ a = 111
theorem q_img_same {tm : Nat} {M M2 : q_M} (h : ∀ a i, a = 108 ∨ a = 109 → M2 a i = M a i) (hI : q_img tm M) : q_img tm M2 := by
  unfold q_img at hI ⊢
  simp only [fun i => h 108 i (Or.inl rfl), fun i => h 109 i (Or.inr rfl)]
  exact hI
theorem q_MI_same {Vt : Nat → Nat → (Nat → Int) → Int} {tm : Nat} {M M2 : q_M} (h : ∀ a i, q_rel a i → M2 a i = M a i) (hI : q_MI Vt tm M) : q_MI Vt tm M2 := by
  obtain ⟨h1, h2, h3, h4, h5, h6, h7, h8, h9⟩ := hI
  unfold q_rel at h
  refine ⟨q_mb_same (fun a i ha => h a i (by omega)) h1, by rw [h 100 5 (by omega)]; exact h2, fun b hb => by rw [h 103 _ (by omega)]; exact h3 b hb, fun s hs => by rw [h 111 _ (by omega)]; exact h4 s hs, q_mtx_mq (fun a i ha => h a i (by omega)) h5, by rw [h 100 11 (by omega)]; exact h6, by rw [h 100 7 (by omega)]; exact h7, q_img_same (fun a i ha => h a i (by omega)) h8, by rw [h 100 12 (by omega)]; exact h9⟩
theorem q_MI_mq {Vt : Nat → Nat → (Nat → Int) → Int} {tm : Nat} {M M2 : q_M} (h : q_mq M M2) (hI : q_MI Vt tm M) : q_MI Vt tm M2 := q_MI_same (fun a i ha => by unfold q_rel at ha; exact h a i (by omega) (by omega)) hI
/-- a cell that nothing of this speaks of -/
theorem q_MI_up {Vt : Nat → Nat → (Nat → Int) → Int} {tm a i : Nat} {v : Int} {M : q_M} (hI : q_MI Vt tm M) (h : ¬q_rel a i) : q_MI Vt tm (q_upd M a i v) := q_MI_same (fun b j hb => q_upd_n (by
  by_cases e : b = a
  · refine Or.inr (fun e2 => h ?_)
    rw [← e, ← e2]
    exact hb
  · exact Or.inl e)) hI
/-- a cell of the model's world -/
theorem q_MI_upW {Vt : Nat → Nat → (Nat → Int) → Int} {tm a i : Nat} {v : Int} {M : q_M} (hI : q_MI Vt tm M) (h : q_okv a i v) (hr : a = 103 → i % 4 = 1 → v ≤ 5) (hy : a = 100 → i = 5 ∧ v ≤ 999) (ha : a ≤ 104) : q_MI Vt tm (q_upd M a i v) := by
  obtain ⟨h1, h2, h3, h4, h5, h6, h7, h8, h9⟩ := hI
  refine ⟨q_mb_up h1 h, ?_, fun b hb => ?_, fun s hs => by rw [q_upd_n (by omega)]; exact h4 s hs, q_mtx_mq (fun b j hb => q_upd_n (by omega)) h5, by rw [q_upd_n (by omega)]; exact h6, by rw [q_upd_n (by omega)]; exact h7, q_img_same (fun b j hb => q_upd_n (by omega)) h8, by rw [q_upd_n (by omega)]; exact h9⟩
  · rcases q_upd_key (M := M) (a := a) (i := i) (v := v) 100 5 with e | ⟨e1, e2, e3⟩
    · rw [e]; exact h2
    · rw [e3]; exact (hy e1.symm).2
  · rcases q_upd_key (M := M) (a := a) (i := i) (v := v) 103 (4 * b + 1) with e | ⟨e1, e2, e3⟩
    · rw [e]; exact h3 b hb
    · rw [e3]; exact hr e1.symm (by omega)
/-- the law that stands -/
def q_Vr (Vt : Nat → Nat → (Nat → Int) → Int) (M : q_M) : Nat → (Nat → Int) → Int := Vt (M 100 11).toNat
theorem q_MI_mi {Vt : Nat → Nat → (Nat → Int) → Int} {tm : Nat} {M : q_M} (hI : q_MI Vt tm M) : q_mi (q_Vr Vt M) M := by
  obtain ⟨h1, h2, h3, h4, h5, h6, h7, h8, h9⟩ := hI
  have hx := h5.2.2.2 (M 100 11).toNat (by omega)
  exact ⟨q_ml_rule h1 hx.1 hx.2 (by omega), h2, h4⟩
/-- small questions, in two cases -/
theorem mi_in {d : Nat} {g : q_G} {M : q_M} {v lo hi : Int} {Q : Option q_V → q_G → q_M → Prop} (h1 : lo ≤ v ∧ v ≤ hi → Q (some (qI 1)) g M) (h2 : ¬(lo ≤ v ∧ v ≤ hi) → Q (some (qI 0)) g M) : q_S 1 d 110 [qI v, qI lo, qI hi] g M Q := by
  rw [mp_in]
  by_cases c : lo ≤ v ∧ v ≤ hi
  · rw [if_pos c]; exact h1 c
  · rw [if_neg c]; exact h2 c
theorem mi_st {d : Nat} {g : q_G} {M : q_M} {p : Int} {Q : Option q_V → q_G → q_M → Prop} (h0 : 0 ≤ M 100 0) (h5 : M 100 0 ≤ 5) (h1 : 0 ≤ p ∧ p ≤ M 100 0 - 1 → Q (some (qI 1)) g M) (h2 : ¬(0 ≤ p ∧ p ≤ M 100 0 - 1) → Q (some (qI 0)) g M) : q_S 1 (d + 1) 112 [qR 6 100, qI p] g M Q := by
  rw [mp_isStone h0 h5]
  by_cases c : 0 ≤ p ∧ p ≤ M 100 0 - 1
  · rw [if_pos c]; exact h1 c
  · rw [if_neg c]; exact h2 c
theorem mi_si {d : Nat} {g : q_G} {M : q_M} {p : Int} {Q : Option q_V → q_G → q_M → Prop} (h1 : 0 ≤ p ∧ p ≤ 4 → Q (some (qI 1)) g M) (h2 : ¬(0 ≤ p ∧ p ≤ 4) → Q (some (qI 0)) g M) : q_S 1 (d + 1) 113 [qI p] g M Q := by
  rw [mp_isSite]
  by_cases c : 0 ≤ p ∧ p ≤ 4
  · rw [if_pos c]; exact h1 c
  · rw [if_neg c]; exact h2 c
theorem mp_isByte {d : Nat} {g : q_G} {M : q_M} {p : Int} {Q : Option q_V → q_G → q_M → Prop} (h1 : 0 ≤ p ∧ p ≤ 255 → Q (some (qI 1)) g M) (h2 : ¬(0 ≤ p ∧ p ≤ 255) → Q (some (qI 0)) g M) : q_S 1 (d + 1) 121 [qI p] g M Q := by
  rw [s_X6_isByte]
  by_cases c : 0 ≤ p ∧ p ≤ 255
  · simp (disch := omega) only [b_X6_isByte_0, x_loadI_0, x_iconst, x_ret1_0, x_ret1_1, q_isL_I, q_isL_R, q_isL_S, true_and, and_true, and_self, List.length_nil, List.length_cons, Nat.zero_add, x_K, x_Kn, Int.reduceToNat, Nat.reduceAdd, Nat.reduceMul, Nat.reduceLeDiff, Nat.reduceLT, Nat.zero_le, Int.reduceAdd, Int.reduceSub, Int.reduceMul, Int.reduceNeg, q_add_e, q_sub_e, q_mul_e, q_neg_e, q_upd_s, q_upd_n, zr_shr0, zr_shr1, zr_shr2, zr_shr3, zr_shr4, zr_and, zr_dyn8, zr_or, zr_shl, q_cpy_n, y_cpy26, c_X6_in, mp_in, c, and_self, if_true]
    exact h1 c
  · simp (disch := omega) only [b_X6_isByte_0, x_loadI_0, x_iconst, x_ret1_0, x_ret1_1, q_isL_I, q_isL_R, q_isL_S, true_and, and_true, and_self, List.length_nil, List.length_cons, Nat.zero_add, x_K, x_Kn, Int.reduceToNat, Nat.reduceAdd, Nat.reduceMul, Nat.reduceLeDiff, Nat.reduceLT, Nat.zero_le, Int.reduceAdd, Int.reduceSub, Int.reduceMul, Int.reduceNeg, q_add_e, q_sub_e, q_mul_e, q_neg_e, q_upd_s, q_upd_n, zr_shr0, zr_shr1, zr_shr2, zr_shr3, zr_shr4, zr_and, zr_dyn8, zr_or, zr_shl, q_cpy_n, y_cpy26, c_X6_in, mp_in, c, if_false]
    exact h2 c
theorem mp_isUnder {d : Nat} {g : q_G} {M : q_M} {k o : Int} (Q : Option q_V → q_G → q_M → Prop) : q_S 1 d 197 [qI k, qI o] g M Q = Q (some (qI (if F_und k o = true then 1 else 0))) g M := by
  refine q_S_eq (fun Q hq => ?_) Q
  rw [s_X6_isUnder]
  unfold F_und at hq
  by_cases c0 : o = 0
  · rw [if_pos (decide_eq_true (by omega))] at hq
    simp (disch := omega) only [b_X6_isUnder_0, x_loadI_1, y_if_eq_t, y_if_eq_f, b_X6_isUnder_4, x_loadI_0, y_ic_eq_t, y_ic_eq_f, b_X6_isUnder_9, x_iconst, y_ic_ne_t, y_ic_ne_f, b_X6_isUnder_14, b_X6_isUnder_19, b_X6_isUnder_24, b_X6_isUnder_29, x_goto, b_X6_isUnder_33, b_X6_isUnder_34, x_ret1_0, x_ret1_1, q_isL_I, q_isL_R, q_isL_S, true_and, and_true, and_self, List.length_nil, List.length_cons, Nat.zero_add, x_K, x_Kn, Int.reduceToNat, Nat.reduceAdd, Nat.reduceMul, Nat.reduceLeDiff, Nat.reduceLT, Nat.zero_le, Int.reduceAdd, Int.reduceSub, Int.reduceMul, Int.reduceNeg, q_add_e, q_sub_e, q_mul_e, q_neg_e, q_upd_s, q_upd_n, zr_shr0, zr_shr1, zr_shr2, zr_shr3, zr_shr4, zr_and, zr_dyn8, zr_or, zr_shl, q_cpy_n, y_cpy26]
    exact hq
  · by_cases c1 : k = o
    · rw [if_pos (decide_eq_true (by omega))] at hq
      simp (disch := omega) only [b_X6_isUnder_0, x_loadI_1, y_if_eq_t, y_if_eq_f, b_X6_isUnder_4, x_loadI_0, y_ic_eq_t, y_ic_eq_f, b_X6_isUnder_9, x_iconst, y_ic_ne_t, y_ic_ne_f, b_X6_isUnder_14, b_X6_isUnder_19, b_X6_isUnder_24, b_X6_isUnder_29, x_goto, b_X6_isUnder_33, b_X6_isUnder_34, x_ret1_0, x_ret1_1, q_isL_I, q_isL_R, q_isL_S, true_and, and_true, and_self, List.length_nil, List.length_cons, Nat.zero_add, x_K, x_Kn, Int.reduceToNat, Nat.reduceAdd, Nat.reduceMul, Nat.reduceLeDiff, Nat.reduceLT, Nat.zero_le, Int.reduceAdd, Int.reduceSub, Int.reduceMul, Int.reduceNeg, q_add_e, q_sub_e, q_mul_e, q_neg_e, q_upd_s, q_upd_n, zr_shr0, zr_shr1, zr_shr2, zr_shr3, zr_shr4, zr_and, zr_dyn8, zr_or, zr_shl, q_cpy_n, y_cpy26]
      exact hq
    · by_cases c2 : o = 1 ∧ k = 3
      · rw [if_pos (decide_eq_true (by omega))] at hq
        simp (disch := omega) only [b_X6_isUnder_0, x_loadI_1, y_if_eq_t, y_if_eq_f, b_X6_isUnder_4, x_loadI_0, y_ic_eq_t, y_ic_eq_f, b_X6_isUnder_9, x_iconst, y_ic_ne_t, y_ic_ne_f, b_X6_isUnder_14, b_X6_isUnder_19, b_X6_isUnder_24, b_X6_isUnder_29, x_goto, b_X6_isUnder_33, b_X6_isUnder_34, x_ret1_0, x_ret1_1, q_isL_I, q_isL_R, q_isL_S, true_and, and_true, and_self, List.length_nil, List.length_cons, Nat.zero_add, x_K, x_Kn, Int.reduceToNat, Nat.reduceAdd, Nat.reduceMul, Nat.reduceLeDiff, Nat.reduceLT, Nat.zero_le, Int.reduceAdd, Int.reduceSub, Int.reduceMul, Int.reduceNeg, q_add_e, q_sub_e, q_mul_e, q_neg_e, q_upd_s, q_upd_n, zr_shr0, zr_shr1, zr_shr2, zr_shr3, zr_shr4, zr_and, zr_dyn8, zr_or, zr_shl, q_cpy_n, y_cpy26]
        exact hq
      · by_cases c3 : o = 2 ∧ k = 4
        · rw [if_pos (decide_eq_true (by omega))] at hq
          simp (disch := omega) only [b_X6_isUnder_0, x_loadI_1, y_if_eq_t, y_if_eq_f, b_X6_isUnder_4, x_loadI_0, y_ic_eq_t, y_ic_eq_f, b_X6_isUnder_9, x_iconst, y_ic_ne_t, y_ic_ne_f, b_X6_isUnder_14, b_X6_isUnder_19, b_X6_isUnder_24, b_X6_isUnder_29, x_goto, b_X6_isUnder_33, b_X6_isUnder_34, x_ret1_0, x_ret1_1, q_isL_I, q_isL_R, q_isL_S, true_and, and_true, and_self, List.length_nil, List.length_cons, Nat.zero_add, x_K, x_Kn, Int.reduceToNat, Nat.reduceAdd, Nat.reduceMul, Nat.reduceLeDiff, Nat.reduceLT, Nat.zero_le, Int.reduceAdd, Int.reduceSub, Int.reduceMul, Int.reduceNeg, q_add_e, q_sub_e, q_mul_e, q_neg_e, q_upd_s, q_upd_n, zr_shr0, zr_shr1, zr_shr2, zr_shr3, zr_shr4, zr_and, zr_dyn8, zr_or, zr_shl, q_cpy_n, y_cpy26]
          exact hq
        · rw [if_neg (fun z => by have := of_decide_eq_true z; omega)] at hq
          by_cases c4 : o = 1
          · simp (disch := omega) only [b_X6_isUnder_0, x_loadI_1, y_if_eq_t, y_if_eq_f, b_X6_isUnder_4, x_loadI_0, y_ic_eq_t, y_ic_eq_f, b_X6_isUnder_9, x_iconst, y_ic_ne_t, y_ic_ne_f, b_X6_isUnder_14, b_X6_isUnder_19, b_X6_isUnder_24, b_X6_isUnder_29, x_goto, b_X6_isUnder_33, b_X6_isUnder_34, x_ret1_0, x_ret1_1, q_isL_I, q_isL_R, q_isL_S, true_and, and_true, and_self, List.length_nil, List.length_cons, Nat.zero_add, x_K, x_Kn, Int.reduceToNat, Nat.reduceAdd, Nat.reduceMul, Nat.reduceLeDiff, Nat.reduceLT, Nat.zero_le, Int.reduceAdd, Int.reduceSub, Int.reduceMul, Int.reduceNeg, q_add_e, q_sub_e, q_mul_e, q_neg_e, q_upd_s, q_upd_n, zr_shr0, zr_shr1, zr_shr2, zr_shr3, zr_shr4, zr_and, zr_dyn8, zr_or, zr_shl, q_cpy_n, y_cpy26]
            exact hq
          · by_cases c5 : o = 2
            · simp (disch := omega) only [b_X6_isUnder_0, x_loadI_1, y_if_eq_t, y_if_eq_f, b_X6_isUnder_4, x_loadI_0, y_ic_eq_t, y_ic_eq_f, b_X6_isUnder_9, x_iconst, y_ic_ne_t, y_ic_ne_f, b_X6_isUnder_14, b_X6_isUnder_19, b_X6_isUnder_24, b_X6_isUnder_29, x_goto, b_X6_isUnder_33, b_X6_isUnder_34, x_ret1_0, x_ret1_1, q_isL_I, q_isL_R, q_isL_S, true_and, and_true, and_self, List.length_nil, List.length_cons, Nat.zero_add, x_K, x_Kn, Int.reduceToNat, Nat.reduceAdd, Nat.reduceMul, Nat.reduceLeDiff, Nat.reduceLT, Nat.zero_le, Int.reduceAdd, Int.reduceSub, Int.reduceMul, Int.reduceNeg, q_add_e, q_sub_e, q_mul_e, q_neg_e, q_upd_s, q_upd_n, zr_shr0, zr_shr1, zr_shr2, zr_shr3, zr_shr4, zr_and, zr_dyn8, zr_or, zr_shl, q_cpy_n, y_cpy26]
              exact hq
            · simp (disch := omega) only [b_X6_isUnder_0, x_loadI_1, y_if_eq_t, y_if_eq_f, b_X6_isUnder_4, x_loadI_0, y_ic_eq_t, y_ic_eq_f, b_X6_isUnder_9, x_iconst, y_ic_ne_t, y_ic_ne_f, b_X6_isUnder_14, b_X6_isUnder_19, b_X6_isUnder_24, b_X6_isUnder_29, x_goto, b_X6_isUnder_33, b_X6_isUnder_34, x_ret1_0, x_ret1_1, q_isL_I, q_isL_R, q_isL_S, true_and, and_true, and_self, List.length_nil, List.length_cons, Nat.zero_add, x_K, x_Kn, Int.reduceToNat, Nat.reduceAdd, Nat.reduceMul, Nat.reduceLeDiff, Nat.reduceLT, Nat.zero_le, Int.reduceAdd, Int.reduceSub, Int.reduceMul, Int.reduceNeg, q_add_e, q_sub_e, q_mul_e, q_neg_e, q_upd_s, q_upd_n, zr_shr0, zr_shr1, zr_shr2, zr_shr3, zr_shr4, zr_and, zr_dyn8, zr_or, zr_shl, q_cpy_n, y_cpy26]
              exact hq
