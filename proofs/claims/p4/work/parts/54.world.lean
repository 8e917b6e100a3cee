/-! THE CLASS'S WORLD, at w: what a stone likes, how it is wanted, how far it goes -/
theorem sp_abs {md d : Nat} {g : q_G} {M : q_M} {x : Int} (Q : Option q_V → q_G → q_M → Prop) : q_S md d 206 [qI x] g M Q = Q (some (qI (if 0 ≤ x then x else q_neg x))) g M := by
  rw [s_J9_abs_0f7a4]
  by_cases h : 0 ≤ x
  · rw [if_pos h]
    simp (disch := omega) only [b_J9_abs_0f7a4_0, x_loadI_0, y_if_ge_t, y_if_ge_f, b_J9_abs_0f7a4_4, x_ineg, x_goto, b_J9_abs_0f7a4_9, b_J9_abs_0f7a4_10, x_ret0, q_isL_I, q_isL_R, q_isL_S, true_and, and_true, and_self, List.length_nil, List.length_cons, Nat.zero_add, x_K, x_Kn, Int.reduceToNat, Nat.reduceAdd, Nat.reduceMul, Nat.reduceLeDiff, Nat.reduceLT, Nat.zero_le, Int.reduceAdd, Int.reduceSub, Int.reduceMul, Int.reduceNeg, q_add_e, q_sub_e, q_mul_e, q_neg_e, q_upd_s, q_upd_n, zr_shr0, zr_shr1, zr_shr2, zr_shr3, zr_shr4, zr_and, zr_dyn8, zr_or, zr_shl, q_cpy_n, y_cpy26]
  · rw [if_neg h]
    simp (disch := omega) only [b_J9_abs_0f7a4_0, b_J9_abs_0f7a4_4, b_J9_abs_0f7a4_9, b_J9_abs_0f7a4_10, x_loadI_0, y_if_ge_f, x_ineg, x_goto, x_ret0, Int.reduceToNat]
theorem sp_max {md d : Nat} {g : q_G} {M : q_M} {x y : Int} (Q : Option q_V → q_G → q_M → Prop) : q_S md d 207 [qI x, qI y] g M Q = Q (some (qI (if x < y then y else x))) g M := by
  rw [s_J9_max_7cf53]
  by_cases h : x < y
  · rw [if_pos h]
    simp (disch := omega) only [b_J9_max_7cf53_0, x_loadI_0, x_loadI_1, y_ic_lt_t, y_ic_lt_f, b_J9_max_7cf53_5, x_goto, b_J9_max_7cf53_9, b_J9_max_7cf53_10, x_ret0, q_isL_I, q_isL_R, q_isL_S, true_and, and_true, and_self, List.length_nil, List.length_cons, Nat.zero_add, x_K, x_Kn, Int.reduceToNat, Nat.reduceAdd, Nat.reduceMul, Nat.reduceLeDiff, Nat.reduceLT, Nat.zero_le, Int.reduceAdd, Int.reduceSub, Int.reduceMul, Int.reduceNeg, q_add_e, q_sub_e, q_mul_e, q_neg_e, q_upd_s, q_upd_n, zr_shr0, zr_shr1, zr_shr2, zr_shr3, zr_shr4, zr_and, zr_dyn8, zr_or, zr_shl, q_cpy_n, y_cpy26]
  · rw [if_neg h]
    simp (disch := omega) only [b_J9_max_7cf53_0, x_loadI_0, x_loadI_1, y_ic_lt_t, y_ic_lt_f, b_J9_max_7cf53_5, x_goto, b_J9_max_7cf53_9, b_J9_max_7cf53_10, x_ret0, q_isL_I, q_isL_R, q_isL_S, true_and, and_true, and_self, List.length_nil, List.length_cons, Nat.zero_add, x_K, x_Kn, Int.reduceToNat, Nat.reduceAdd, Nat.reduceMul, Nat.reduceLeDiff, Nat.reduceLT, Nat.zero_le, Int.reduceAdd, Int.reduceSub, Int.reduceMul, Int.reduceNeg, q_add_e, q_sub_e, q_mul_e, q_neg_e, q_upd_s, q_upd_n, zr_shr0, zr_shr1, zr_shr2, zr_shr3, zr_shr4, zr_and, zr_dyn8, zr_or, zr_shl, q_cpy_n, y_cpy26]
theorem sp_min {md d : Nat} {g : q_G} {M : q_M} {x y : Int} (Q : Option q_V → q_G → q_M → Prop) : q_S md d 208 [qI x, qI y] g M Q = Q (some (qI (if y < x then y else x))) g M := by
  rw [s_J9_min_7cf53]
  by_cases h : y < x
  · rw [if_pos h]
    simp (disch := omega) only [b_J9_min_7cf53_0, x_loadI_0, x_loadI_1, y_ic_gt_t, y_ic_gt_f, b_J9_min_7cf53_5, x_goto, b_J9_min_7cf53_9, b_J9_min_7cf53_10, x_ret0, q_isL_I, q_isL_R, q_isL_S, true_and, and_true, and_self, List.length_nil, List.length_cons, Nat.zero_add, x_K, x_Kn, Int.reduceToNat, Nat.reduceAdd, Nat.reduceMul, Nat.reduceLeDiff, Nat.reduceLT, Nat.zero_le, Int.reduceAdd, Int.reduceSub, Int.reduceMul, Int.reduceNeg, q_add_e, q_sub_e, q_mul_e, q_neg_e, q_upd_s, q_upd_n, zr_shr0, zr_shr1, zr_shr2, zr_shr3, zr_shr4, zr_and, zr_dyn8, zr_or, zr_shl, q_cpy_n, y_cpy26]
  · rw [if_neg h]
    simp (disch := omega) only [b_J9_min_7cf53_0, x_loadI_0, x_loadI_1, y_ic_gt_t, y_ic_gt_f, b_J9_min_7cf53_5, x_goto, b_J9_min_7cf53_9, b_J9_min_7cf53_10, x_ret0, q_isL_I, q_isL_R, q_isL_S, true_and, and_true, and_self, List.length_nil, List.length_cons, Nat.zero_add, x_K, x_Kn, Int.reduceToNat, Nat.reduceAdd, Nat.reduceMul, Nat.reduceLeDiff, Nat.reduceLT, Nat.zero_le, Int.reduceAdd, Int.reduceSub, Int.reduceMul, Int.reduceNeg, q_add_e, q_sub_e, q_mul_e, q_neg_e, q_upd_s, q_upd_n, zr_shr0, zr_shr1, zr_shr2, zr_shr3, zr_shr4, zr_and, zr_dyn8, zr_or, zr_shl, q_cpy_n, y_cpy26]
def cW (M : q_M) (w : Nat) : q_M := fun f i => match f with
  | 0 => if i < (M (w + 1) 5).toNat then M (w + 22) i else 0
  | 1 => if i < (M (w + 1) 5).toNat then M (w + 23) i else 0
  | 2 => if i < (M (w + 1) 5).toNat then M (w + 24) i else 0
  | 3 => if i < (M (w + 1) 5).toNat then M (w + 25) i else 0
  | 4 => if i < (M (w + 1) 5).toNat then M (w + 3) i else 0
  | 5 => if i < 5 then M (w + 19) i else 0
  | 6 => if i < 5 then M (w + 2) i else 0
  | 7 => if i < 5 then M (w + 20) i else 0
  | 8 => if i < 5 then M (w + 21) i else 0
  | 9 => if i = 0 then M (w + 1) 5 else if i = 1 then M w 9 else 0
  | _ => 0
theorem cW_same {M M2 : q_M} {w : Nat} (h : ∀ a i, ((w ≤ a ∧ a ≤ w + 3) ∨ (w + 19 ≤ a ∧ a ≤ w + 25)) → M2 a i = M a i) : cW M2 w = cW M w := by
  have e1 := fun i => h (w + 1) i (by omega)
  have e2 := fun i => h (w + 2) i (by omega)
  have e3 := fun i => h (w + 3) i (by omega)
  have e4 := fun i => h (w + 19) i (by omega)
  have e5 := fun i => h (w + 20) i (by omega)
  have e6 := fun i => h (w + 21) i (by omega)
  have e7 := fun i => h (w + 22) i (by omega)
  have e8 := fun i => h (w + 23) i (by omega)
  have e9 := fun i => h (w + 24) i (by omega)
  have ea := fun i => h (w + 25) i (by omega)
  have eb := fun i => h w i (by omega)
  funext f i
  unfold cW
  split <;> simp only [e1, e2, e3, e4, e5, e6, e7, e8, e9, ea, eb]
/-- a world's numbers are in their bounds, and what may be none is blank -/
def q_rgW (M : q_M) (w : Nat) : Prop := (0 ≤ M (w + 1) 5 ∧ M (w + 1) 5 ≤ 5) ∧ (0 ≤ M w 9 ∧ M w 9 ≤ 2000) ∧ (∀ i, 0 ≤ M (w + 22) i ∧ M (w + 22) i ≤ 5) ∧ (∀ i, 0 ≤ M (w + 23) i ∧ M (w + 23) i ≤ 9) ∧ (∀ i, 0 ≤ M (w + 24) i ∧ M (w + 24) i ≤ 99) ∧ (∀ i, 0 ≤ M (w + 25) i ∧ M (w + 25) i ≤ 99) ∧ (∀ i, 0 ≤ M (w + 3) i ∧ M (w + 3) i ≤ 5) ∧
  (∀ i, 0 ≤ M (w + 19) i ∧ M (w + 19) i ≤ 99) ∧ (∀ i, 0 ≤ M (w + 2) i ∧ M (w + 2) i ≤ 6) ∧ (∀ i, 0 ≤ M (w + 20) i ∧ M (w + 20) i ≤ 99) ∧ (∀ i, 0 ≤ M (w + 21) i ∧ M (w + 21) i ≤ 99) ∧ M (w + 20) 5 = 0 ∧ M (w + 21) 5 = 0
/-- a law: V is what the text at ta says, as long as its own rows stay -/
def q_lawC (V : Nat → (Nat → Int) → Int) (ta : Nat) (M : q_M) : Prop := ∀ M' : q_M, (∀ a i, (a + 1 = ta ∨ a = ta ∨ a = ta + 1) → M' a i = M a i) → ∀ (d : Nat) (g : q_G) (Q : Option q_V → q_G → q_M → Prop) (part na : Nat), part < 3 → na ≠ ta + 2 → (∀ M2 : q_M, (∀ a i, a ≠ ta + 2 → M2 a i = M' a i) → Q (some (qI (V part (M' na)))) g M2) → q_S 1 d 47 [qR 3 ta, qI part, qR 26 na] g M' Q
def q_lawV (V : Nat → (Nat → Int) → Int) : Prop := ∀ part (f f' : Nat → Int), (∀ i, i < 6 → f i = f' i) → V part f = V part f'
/-- the world at w goes by the law V of the text at ta -/
def q_wl (V : Nat → (Nat → Int) → Int) (M : q_M) (w ta : Nat) : Prop := q_rgW M w ∧ q_lawV V ∧ q_lawC V ta M ∧ M w 10 = ta ∧ ta < 2147483648 ∧ (w + 27 < ta ∨ ta + 2 < w)
def q_fwd (w ta : Nat) (M M2 : q_M) : Prop := ∀ a i, a ≠ w + 26 → a ≠ ta + 2 → M2 a i = M a i
theorem q_fwd_rf {w ta : Nat} {M : q_M} : q_fwd w ta M M := fun _ _ _ _ => rfl
theorem q_fwd_tr {w ta : Nat} {M M2 M3 : q_M} (h : q_fwd w ta M M2) (h2 : q_fwd w ta M2 M3) : q_fwd w ta M M3 := fun a i h3 h4 => (h2 a i h3 h4).trans (h a i h3 h4)
theorem q_fwd_cW {w ta : Nat} {M M2 : q_M} (h : q_fwd w ta M M2) (hd : w + 27 < ta ∨ ta + 2 < w) : cW M2 w = cW M w := cW_same (fun a i ha => h a i (by omega) (by omega))
theorem q_fwd_wl {V : Nat → (Nat → Int) → Int} {w ta : Nat} {M M2 : q_M} (h : q_fwd w ta M M2) (hw : q_wl V M w ta) : q_wl V M2 w ta := by
  obtain ⟨h1, h2, h3, h4, h5, h6⟩ := hw
  have e : ∀ a i, w ≤ a → a ≤ w + 25 → M2 a i = M a i := fun a i q1 q2 => h a i (by omega) (by omega)
  refine ⟨?_, h2, fun M' hM => h3 M' (fun a i ha => (hM a i ha).trans (h a i (by omega) (by omega))), (e w 10 (by omega) (by omega)).trans h4, h5, h6⟩
  unfold q_rgW at h1 ⊢
  simp only [fun i => e w i (by omega) (by omega), fun i => e (w + 1) i (by omega) (by omega), fun i => e (w + 2) i (by omega) (by omega), fun i => e (w + 3) i (by omega) (by omega), fun i => e (w + 19) i (by omega) (by omega), fun i => e (w + 20) i (by omega) (by omega), fun i => e (w + 21) i (by omega) (by omega), fun i => e (w + 22) i (by omega) (by omega), fun i => e (w + 23) i (by omega) (by omega), fun i => e (w + 24) i (by omega) (by omega), fun i => e (w + 25) i (by omega) (by omega)]
  exact h1
theorem q_dynT {k a : Nat} {M : q_M} {w i : Nat} (h : M w i = (a : Int)) : q_dyn k (M w i) = qR k a := q_dyn_of a h
theorem cW_0 {M : q_M} {w i : Nat} (h : i < (M (w + 1) 5).toNat) : cW M w 0 i = M (w + 22) i := if_pos h
theorem cW_1 {M : q_M} {w i : Nat} (h : i < (M (w + 1) 5).toNat) : cW M w 1 i = M (w + 23) i := if_pos h
theorem cW_2 {M : q_M} {w i : Nat} (h : i < (M (w + 1) 5).toNat) : cW M w 2 i = M (w + 24) i := if_pos h
theorem cW_3 {M : q_M} {w i : Nat} (h : i < (M (w + 1) 5).toNat) : cW M w 3 i = M (w + 25) i := if_pos h
theorem cW_4 {M : q_M} {w i : Nat} (h : i < (M (w + 1) 5).toNat) : cW M w 4 i = M (w + 3) i := if_pos h
theorem cW_5 {M : q_M} {w i : Nat} (h : i < 5) : cW M w 5 i = M (w + 19) i := if_pos h
theorem cW_6 {M : q_M} {w i : Nat} (h : i < 5) : cW M w 6 i = M (w + 2) i := if_pos h
theorem cW_7 {M : q_M} {w i : Nat} (h : i < 5) : cW M w 7 i = M (w + 20) i := if_pos h
theorem cW_8 {M : q_M} {w i : Nat} (h : i < 5) : cW M w 8 i = M (w + 21) i := if_pos h
theorem cW_90 {M : q_M} {w : Nat} : cW M w 9 0 = M (w + 1) 5 := rfl
theorem cW_91 {M : q_M} {w : Nat} : cW M w 9 1 = M w 9 := rfl
set_option maxHeartbeats 4000000 in
theorem sp_says {V : Nat → (Nat → Int) → Int} {d : Nat} {g : q_G} {M : q_M} {w ta part p b : Nat} {Q : Option q_V → q_G → q_M → Prop} (hw : q_wl V M w ta) (hpt : part < 3) (hp : p < (M (w + 1) 5).toNat) (hb : b < 6) (hq : ∀ M2 : q_M, q_fwd w ta M M2 → Q (some (qI (F_says V (cW M w) part p b))) g M2) : q_S 1 (d + 1) 53 [qR 4 w, qI part, qI p, qI b] g M Q := by
  obtain ⟨⟨r0, r1, r2, r3, r4, r5, r6, r7, r8, r9, ra, rb, rc⟩, hV, hl, hla, hta, hds⟩ := hw
  have hat := r4 p
  have hpl := r7 b
  have hy := q_dynT (k := 3) hla
  rw [s_X4_says]
  have fin : ∀ (M' : q_M), (∀ a i, a ≠ w + 26 → M' a i = M a i) → (∀ i, i < 6 → M' (w + 26) i = F_nm (cW M w) p b i) → ∀ lo : Int, lo = (if part = 2 then 0 else -99) → q_T 1 (d + 1) qP_X4_says 125 [.iload 4, .iconst (99), .aload 0, .getfield 410, .iload 1, .aload 0, .getfield 408, .invokestatic 47, .invokestatic 208, .invokestatic 207, .ret 0] [qR 4 w, qI part, qI p, qI b, qI lo] [] g M' Q := by
    intro M' h1 h2 lo hlo
    have h10 : M' w 10 = ta := (h1 w 10 (by omega)).trans hla
    have hy' := q_dynT (k := 3) h10
    simp (disch := omega) only [b_X4_says_0, x_loadR_0, x_loadS_0, f_4_8, x_iconst, x_loadI_3, y_ic_ne_t, y_ic_ne_f, b_X4_says_10, x_goto, b_X4_says_14, f_4_6, x_loadI_2, y_iald_26, f_4_1, x_isub, b_X4_says_30, y_iast_26, f_4_2, f_4_3, f_4_7, f_4_9, f_4_5, x_loadI_1, b_X4_says_94, b_X4_says_98, b_X4_says_100, x_storeI_4, x_loadI_4, f_4_10, x_ret0, q_isL_I, q_isL_R, q_isL_S, true_and, and_true, and_self, List.length_nil, List.length_cons, Nat.zero_add, x_K, x_Kn, Int.reduceToNat, Nat.reduceAdd, Nat.reduceMul, Nat.reduceLeDiff, Nat.reduceLT, Nat.zero_le, Int.reduceAdd, Int.reduceSub, Int.reduceMul, Int.reduceNeg, q_add_e, q_sub_e, q_mul_e, q_neg_e, q_upd_s, q_upd_n, zr_shr0, zr_shr1, zr_shr2, zr_shr3, zr_shr4, zr_and, zr_dyn8, zr_or, zr_shl, q_cpy_n, y_cpy26, c_X3_value, hy']
    refine hl M' (fun a i ha => h1 a i (by omega)) _ _ _ part (w + 26) hpt (by omega) (fun M2 hM2 => ?_)
    simp (disch := omega) only [b_X4_says_0, x_loadR_0, x_loadS_0, f_4_8, x_iconst, x_loadI_3, y_ic_ne_t, y_ic_ne_f, b_X4_says_10, x_goto, b_X4_says_14, f_4_6, x_loadI_2, y_iald_26, f_4_1, x_isub, b_X4_says_30, y_iast_26, f_4_2, f_4_3, f_4_7, f_4_9, f_4_5, x_loadI_1, b_X4_says_94, b_X4_says_98, b_X4_says_100, x_storeI_4, x_loadI_4, f_4_10, x_ret0, q_isL_I, q_isL_R, q_isL_S, true_and, and_true, and_self, List.length_nil, List.length_cons, Nat.zero_add, x_K, x_Kn, Int.reduceToNat, Nat.reduceAdd, Nat.reduceMul, Nat.reduceLeDiff, Nat.reduceLT, Nat.zero_le, Int.reduceAdd, Int.reduceSub, Int.reduceMul, Int.reduceNeg, q_add_e, q_sub_e, q_mul_e, q_neg_e, q_upd_s, q_upd_n, zr_shr0, zr_shr1, zr_shr2, zr_shr3, zr_shr4, zr_and, zr_dyn8, zr_or, zr_shl, q_cpy_n, y_cpy26, c_J9_min_7cf53, c_J9_max_7cf53, sp_min, sp_max]
    have e1 : V part (M' (w + 26)) = V part (F_nm (cW M w) p b) := hV part _ _ h2
    rw [e1]
    have h9 := hq M2 (fun a i q1 q2 => (hM2 a i q2).trans (h1 a i q1))
    unfold F_says F_cl at h9
    rw [← hlo] at h9
    generalize V part (F_nm (cW M w) p b) = x at h9 ⊢
    have e2 : (if lo < (if x < 99 then x else 99) then (if x < 99 then x else 99) else lo) = (if x < lo then lo else if 99 < x then 99 else x) := by
      have : lo = 0 ∨ lo = -99 := by rw [hlo]; split <;> omega
      (repeat' split) <;> omega
    rw [e2]
    exact h9
  have fin2 : ∀ far : Int, far = F_nm (cW M w) p b 0 → ∀ lo : Int, lo = (if part = 2 then 0 else -99) → q_T 1 (d + 1) qP_X4_says 125 [.iload 4, .iconst (99), .aload 0, .getfield 410, .iload 1, .aload 0, .getfield 408, .invokestatic 47, .invokestatic 208, .invokestatic 207, .ret 0] [qR 4 w, qI part, qI p, qI b, qI lo] [] g (q_upd (q_upd (q_upd (q_upd (q_upd (q_upd M (w + 26) 0 far) (w + 26) 1 (M (w + 20) b)) (w + 26) 2 (M (w + 21) b)) (w + 26) 3 (M (w + 25) p)) (w + 26) 4 (M w 9)) (w + 26) 5 (M (w + 23) p)) Q := by
    intro far hfar lo hlo
    refine fin _ (fun a i ha => by simp (disch := omega) only [q_upd_n]) (fun i hi => ?_) lo hlo
    have e7 : cW M w 7 b = M (w + 20) b := by
      by_cases h5 : b < 5
      · exact cW_7 h5
      · have e : b = 5 := by omega
        subst e
        exact rb.symm
    have e8 : cW M w 8 b = M (w + 21) b := by
      by_cases h5 : b < 5
      · exact cW_8 h5
      · have e : b = 5 := by omega
        subst e
        exact rc.symm
    rcases (show i = 0 ∨ i = 1 ∨ i = 2 ∨ i = 3 ∨ i = 4 ∨ i = 5 by omega) with rfl | rfl | rfl | rfl | rfl | rfl
    · simp (disch := omega) only [q_upd_n, q_upd_s]
      exact hfar
    · simp (disch := omega) only [q_upd_n, q_upd_s]
      exact e7.symm
    · simp (disch := omega) only [q_upd_n, q_upd_s]
      exact e8.symm
    · simp (disch := omega) only [q_upd_n, q_upd_s]
      exact (cW_3 hp).symm
    · simp (disch := omega) only [q_upd_n, q_upd_s]
      exact cW_91.symm
    · simp (disch := omega) only [q_upd_n, q_upd_s]
      exact (cW_1 hp).symm
  by_cases h5 : b = 5
  · have hfar : (0 : Int) = F_nm (cW M w) p b 0 := (if_pos h5).symm
    by_cases h2 : part = 2
    · simp (disch := omega) only [b_X4_says_0, x_loadR_0, x_loadS_0, f_4_8, x_iconst, x_loadI_3, y_ic_ne_t, y_ic_ne_f, b_X4_says_10, x_goto, b_X4_says_14, f_4_6, x_loadI_2, y_iald_26, f_4_1, x_isub, b_X4_says_30, y_iast_26, f_4_2, f_4_3, f_4_7, f_4_9, f_4_5, x_loadI_1, b_X4_says_94, b_X4_says_98, b_X4_says_100, x_storeI_4, f_4_10, x_ret0, q_isL_I, q_isL_R, q_isL_S, true_and, and_true, and_self, List.length_nil, List.length_cons, Nat.zero_add, x_K, x_Kn, Int.reduceToNat, Nat.reduceAdd, Nat.reduceMul, Nat.reduceLeDiff, Nat.reduceLT, Nat.zero_le, Int.reduceAdd, Int.reduceSub, Int.reduceMul, Int.reduceNeg, q_add_e, q_sub_e, q_mul_e, q_neg_e, q_upd_s, q_upd_n, zr_shr0, zr_shr1, zr_shr2, zr_shr3, zr_shr4, zr_and, zr_dyn8, zr_or, zr_shl, q_cpy_n, y_cpy26, Int.toNat_natCast]
      exact fin2 0 hfar 0 (by rw [if_pos h2])
    · simp (disch := omega) only [b_X4_says_0, x_loadR_0, x_loadS_0, f_4_8, x_iconst, x_loadI_3, y_ic_ne_t, y_ic_ne_f, b_X4_says_10, x_goto, b_X4_says_14, f_4_6, x_loadI_2, y_iald_26, f_4_1, x_isub, b_X4_says_30, y_iast_26, f_4_2, f_4_3, f_4_7, f_4_9, f_4_5, x_loadI_1, b_X4_says_94, b_X4_says_98, b_X4_says_100, x_storeI_4, f_4_10, x_ret0, q_isL_I, q_isL_R, q_isL_S, true_and, and_true, and_self, List.length_nil, List.length_cons, Nat.zero_add, x_K, x_Kn, Int.reduceToNat, Nat.reduceAdd, Nat.reduceMul, Nat.reduceLeDiff, Nat.reduceLT, Nat.zero_le, Int.reduceAdd, Int.reduceSub, Int.reduceMul, Int.reduceNeg, q_add_e, q_sub_e, q_mul_e, q_neg_e, q_upd_s, q_upd_n, zr_shr0, zr_shr1, zr_shr2, zr_shr3, zr_shr4, zr_and, zr_dyn8, zr_or, zr_shl, q_cpy_n, y_cpy26, Int.toNat_natCast]
      exact fin2 0 hfar (-99) (by rw [if_neg h2])
  · have hb5 : b < 5 := by omega
    have e1 : F_nm (cW M w) p b 0 = if M (w + 24) p - M (w + 19) b < 0 then -(M (w + 24) p - M (w + 19) b) else M (w + 24) p - M (w + 19) b := by
      show (if b = 5 then 0 else if cW M w 2 p - cW M w 5 b < 0 then -(cW M w 2 p - cW M w 5 b) else cW M w 2 p - cW M w 5 b) = _
      rw [if_neg h5, cW_2 hp, cW_5 hb5]
    by_cases hs : M (w + 24) p - M (w + 19) b < 0
    · rw [if_pos hs] at e1
      by_cases h2 : part = 2
      · simp (disch := omega) only [b_X4_says_0, x_loadR_0, x_loadS_0, f_4_8, x_iconst, x_loadI_3, y_ic_ne_t, y_ic_ne_f, b_X4_says_10, x_goto, b_X4_says_14, f_4_6, x_loadI_2, y_iald_26, f_4_1, x_isub, b_X4_says_30, y_iast_26, f_4_2, f_4_3, f_4_7, f_4_9, f_4_5, x_loadI_1, b_X4_says_94, b_X4_says_98, b_X4_says_100, x_storeI_4, f_4_10, x_ret0, q_isL_I, q_isL_R, q_isL_S, true_and, and_true, and_self, List.length_nil, List.length_cons, Nat.zero_add, x_K, x_Kn, Int.reduceToNat, Nat.reduceAdd, Nat.reduceMul, Nat.reduceLeDiff, Nat.reduceLT, Nat.zero_le, Int.reduceAdd, Int.reduceSub, Int.reduceMul, Int.reduceNeg, q_add_e, q_sub_e, q_mul_e, q_neg_e, q_upd_s, q_upd_n, zr_shr0, zr_shr1, zr_shr2, zr_shr3, zr_shr4, zr_and, zr_dyn8, zr_or, zr_shl, q_cpy_n, y_cpy26, Int.toNat_natCast, c_J9_abs_0f7a4, sp_abs, if_neg, if_pos]
        exact fin2 _ e1.symm 0 (by rw [if_pos h2])
      · simp (disch := omega) only [b_X4_says_0, x_loadR_0, x_loadS_0, f_4_8, x_iconst, x_loadI_3, y_ic_ne_t, y_ic_ne_f, b_X4_says_10, x_goto, b_X4_says_14, f_4_6, x_loadI_2, y_iald_26, f_4_1, x_isub, b_X4_says_30, y_iast_26, f_4_2, f_4_3, f_4_7, f_4_9, f_4_5, x_loadI_1, b_X4_says_94, b_X4_says_98, b_X4_says_100, x_storeI_4, f_4_10, x_ret0, q_isL_I, q_isL_R, q_isL_S, true_and, and_true, and_self, List.length_nil, List.length_cons, Nat.zero_add, x_K, x_Kn, Int.reduceToNat, Nat.reduceAdd, Nat.reduceMul, Nat.reduceLeDiff, Nat.reduceLT, Nat.zero_le, Int.reduceAdd, Int.reduceSub, Int.reduceMul, Int.reduceNeg, q_add_e, q_sub_e, q_mul_e, q_neg_e, q_upd_s, q_upd_n, zr_shr0, zr_shr1, zr_shr2, zr_shr3, zr_shr4, zr_and, zr_dyn8, zr_or, zr_shl, q_cpy_n, y_cpy26, Int.toNat_natCast, c_J9_abs_0f7a4, sp_abs, if_neg, if_pos]
        exact fin2 _ e1.symm (-99) (by rw [if_neg h2])
    · rw [if_neg hs] at e1
      by_cases h2 : part = 2
      · simp (disch := omega) only [b_X4_says_0, x_loadR_0, x_loadS_0, f_4_8, x_iconst, x_loadI_3, y_ic_ne_t, y_ic_ne_f, b_X4_says_10, x_goto, b_X4_says_14, f_4_6, x_loadI_2, y_iald_26, f_4_1, x_isub, b_X4_says_30, y_iast_26, f_4_2, f_4_3, f_4_7, f_4_9, f_4_5, x_loadI_1, b_X4_says_94, b_X4_says_98, b_X4_says_100, x_storeI_4, f_4_10, x_ret0, q_isL_I, q_isL_R, q_isL_S, true_and, and_true, and_self, List.length_nil, List.length_cons, Nat.zero_add, x_K, x_Kn, Int.reduceToNat, Nat.reduceAdd, Nat.reduceMul, Nat.reduceLeDiff, Nat.reduceLT, Nat.zero_le, Int.reduceAdd, Int.reduceSub, Int.reduceMul, Int.reduceNeg, q_add_e, q_sub_e, q_mul_e, q_neg_e, q_upd_s, q_upd_n, zr_shr0, zr_shr1, zr_shr2, zr_shr3, zr_shr4, zr_and, zr_dyn8, zr_or, zr_shl, q_cpy_n, y_cpy26, Int.toNat_natCast, c_J9_abs_0f7a4, sp_abs, if_neg, if_pos]
        exact fin2 _ e1.symm 0 (by rw [if_pos h2])
      · simp (disch := omega) only [b_X4_says_0, x_loadR_0, x_loadS_0, f_4_8, x_iconst, x_loadI_3, y_ic_ne_t, y_ic_ne_f, b_X4_says_10, x_goto, b_X4_says_14, f_4_6, x_loadI_2, y_iald_26, f_4_1, x_isub, b_X4_says_30, y_iast_26, f_4_2, f_4_3, f_4_7, f_4_9, f_4_5, x_loadI_1, b_X4_says_94, b_X4_says_98, b_X4_says_100, x_storeI_4, f_4_10, x_ret0, q_isL_I, q_isL_R, q_isL_S, true_and, and_true, and_self, List.length_nil, List.length_cons, Nat.zero_add, x_K, x_Kn, Int.reduceToNat, Nat.reduceAdd, Nat.reduceMul, Nat.reduceLeDiff, Nat.reduceLT, Nat.zero_le, Int.reduceAdd, Int.reduceSub, Int.reduceMul, Int.reduceNeg, q_add_e, q_sub_e, q_mul_e, q_neg_e, q_upd_s, q_upd_n, zr_shr0, zr_shr1, zr_shr2, zr_shr3, zr_shr4, zr_and, zr_dyn8, zr_or, zr_shl, q_cpy_n, y_cpy26, Int.toNat_natCast, c_J9_abs_0f7a4, sp_abs, if_neg, if_pos]
        exact fin2 _ e1.symm (-99) (by rw [if_neg h2])
