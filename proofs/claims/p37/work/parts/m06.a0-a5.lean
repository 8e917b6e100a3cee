section
/-! THE CLASS'S ENTRIES: all, annex -/
/-- a thought as now, all told -/
def q_td (V : Nat → (Nat → Int) → Int) (M M2 : q_M) (ta : Nat) : Prop := q_wl V M2 38 ta ∧ cW M2 38 = cW M 11 ∧ q_z5 M2 38 ∧ M2 39 5 = M 12 5 ∧ q_tq M M2 ∧ (∀ p b, p < (M 12 5).toNat → b < 5 → q_tld V 38 (cW M 11) M2 p b) ∧ (∀ p b, p < (M2 (38 + 1) 5).toNat → b < 6 → -1000 ≤ M2 (38 + 1 + 3 + (1 + p)) b ∧ M2 (38 + 1 + 3 + (1 + p)) b ≤ 1000) ∧ (∀ p b, p < (M2 (38 + 1) 5).toNat → b < 6 → -1000 ≤ M2 (38 + 1 + 10 + (1 + p)) b ∧ M2 (38 + 1 + 10 + (1 + p)) b ≤ 1000)
theorem sp_tellT {V : Nat → (Nat → Int) → Int} {d dd : Nat} {g : q_G} {M M1 : q_M} {ta : Nat} {P : q_P} {nx : Nat} {ops : List Instr} {ls st : List q_V} {Q : Option q_V → q_G → q_M → Prop} (C : q_ci V M ta) (h1 : q_tk V M M1 ta) (hq : ∀ M2 : q_M, q_td V M M2 ta → q_T 1 dd P nx ops ls st g M2 Q) : q_S 1 (d + 3) 57 [qR 4 38] g M1 (q_K 1 dd P nx ops ls st Q) := by
  obtain ⟨t1, t2, t3, t4, t5, t6⟩ := h1
  refine sp_tellAll t1 (fun M2 h2 h3 => ?_)
  have h4 := C.1
  unfold q_tas at h4
  have e5 : M2 (38 + 1) 5 = M1 (38 + 1) 5 := h2 _ 5 (by omega) (by omega) (by omega)
  refine hq M2 ⟨q_tel_wl h2 t1, (q_tel_cW h2 t1.2.2.2.2.2).trans t2, q_z5_eq (fun a q1 q2 => h2 a 5 (by omega) (by omega) (by omega)) t3, e5.trans t5, q_tq_tr t6 (fun a i q1 q2 q3 q4 => h2 a i (by omega) (by omega) (by omega)), ?_, q_tld_L h2 t1.1.1.2 t1.2.2.2.2.2 t3.1 h3, q_tld_W t1 h2 t3.2 h3⟩
  intro p b hp hb
  rw [← t2]
  exact h3 p b (by rw [t5]; exact hp) hb
/-- the ways one after another: how many, the best, how much -/
def F_alS (L W : Nat → Nat → Int) (R : Nat → Int) (n : Nat) (pe : Bool) (f : Nat → Int) (x : Int × Int × Int) : Int × Int × Int :=
  if F_fits f R n 5 = true ∧ (pe = true → F_cmp L (fun p b => F_takes1 f (fun q => W q b) (R b) b n p) f n 0 < 0) then (x.1 + 1, if x.1 = 0 ∨ x.2.2 < F_sum L f n then (F_dig f n, F_sum L f n) else x.2) else x
def F_al (L W : Nat → Nat → Int) (R : Nat → Int) (n : Nat) (pe : Bool) : Nat → (Nat → Int) → Int × Int × Int → Int × Int × Int
  | 0, _, x => x
  | k + 1, f, x => if (F_next f n).1 = true then F_al L W R n pe k (F_next f n).2 (F_alS L W R n pe f x) else F_alS L W R n pe f x
def F_f0 (f : Nat → Int) : Nat → Int := F_u (F_u (F_u (F_u (F_u f 0 5) 1 5) 2 5) 3 5) 4 5
def A_all (L W : Nat → Nat → Int) (R : Nat → Int) (n : Nat) (f : Nat → Int) (wt : Int) : Int := if wt = 0 then (F_al L W R n (decide (wt < 3)) 7776 f (0, -1, 0)).1 else if wt = 1 ∨ wt = 3 then (F_al L W R n (decide (wt < 3)) 7776 f (0, -1, 0)).2.1 else (F_al L W R n (decide (wt < 3)) 7776 f (0, -1, 0)).2.2
theorem q_sM_self {M : q_M} {a : Nat} : q_sM M a (M a) = M := by
  funext b i
  unfold q_sM
  by_cases c : b = a
  · rw [if_pos c, c]
  · rw [if_neg c]
theorem q_sM_r {M : q_M} {sa a : Nat} {st : Nat → Int} (h : a ≠ sa) : q_sM M sa st a = M a := funext (fun _ => q_sM_n h)
theorem q_sM_o {M : q_M} {sa : Nat} {st : Nat → Int} : q_sM M sa st sa = st := funext (fun _ => q_sM_s)
theorem q_f0_b {f : Nat → Int} (h : q_f5 f) : q_f5 (F_f0 f) := F_u_b (F_u_b (F_u_b (F_u_b (F_u_b h (by omega) (by omega)) (by omega) (by omega)) (by omega) (by omega)) (by omega) (by omega)) (by omega) (by omega)
theorem sp_allF {d : Nat} {g : q_G} {M : q_M} {wt : Int} {Q : Option q_V → q_G → q_M → Prop} (h : wt < 0 ∨ 4 < wt) (hq : Q (some (qI (-100000))) g M) : q_S 1 d 79 [qR 5 0, qI wt] g M Q := by
  rw [s_X5_all]
  rcases h with h | h
  · simp (disch := omega) only [b_X5_all_0, x_loadI_1, y_if_lt_t, y_if_lt_f, b_X5_all_4, x_iconst, y_ic_le_t, y_ic_le_f, b_X5_all_9, x_ret0, b_X5_all_12, x_loadR_0, x_loadS_0, f_5_4, f_5_3, f_4_0, x_storeR_2, x_loadR_2, x_loadS_2, y_ic_ge_t, y_ic_ge_f, b_X5_all_47, x_goto, b_X5_all_51, b_X5_all_52, x_storeI_3, x_storeI_4, x_storeI_5, x_storeI_6, x_storeI_7, x_storeI_8, x_loadI_7, y_if_eq_t, y_if_eq_f, b_X5_all_73, x_loadI_8, b_X5_all_81, b_X5_all_88, x_loadI_3, b_X5_all_92, y_if_ge_t, y_if_ge_f, b_X5_all_99, x_storeI_9, x_loadI_4, b_X5_all_110, x_loadI_9, x_loadI_6, b_X5_all_117, b_X5_all_127, x_iinc_4, b_X5_all_130, x_iinc_8, b_X5_all_142, y_if_ne_t, y_if_ne_f, b_X5_all_146, b_X5_all_149, y_ic_eq_t, y_ic_eq_f, b_X5_all_154, y_ic_ne_t, y_ic_ne_f, b_X5_all_159, x_loadI_5, b_X5_all_164, b_X5_all_166, q_isL_I, q_isL_R, q_isL_S, true_and, and_true, and_self, List.length_nil, List.length_cons, Nat.zero_add, x_K, x_Kn, Int.reduceToNat, Nat.reduceAdd, Nat.reduceMul, Nat.reduceLeDiff, Nat.reduceLT, Nat.zero_le, Int.reduceAdd, Int.reduceSub, Int.reduceMul, Int.reduceNeg, q_add_e, q_sub_e, q_mul_e, q_neg_e, q_upd_s, q_upd_n, zr_shr0, zr_shr1, zr_shr2, zr_shr3, zr_shr4, zr_and, zr_dyn8, zr_or, zr_shl, q_cpy_n, y_cpy26]
    exact hq
  · simp (disch := omega) only [b_X5_all_0, x_loadI_1, y_if_lt_t, y_if_lt_f, b_X5_all_4, x_iconst, y_ic_le_t, y_ic_le_f, b_X5_all_9, x_ret0, b_X5_all_12, x_loadR_0, x_loadS_0, f_5_4, f_5_3, f_4_0, x_storeR_2, x_loadR_2, x_loadS_2, y_ic_ge_t, y_ic_ge_f, b_X5_all_47, x_goto, b_X5_all_51, b_X5_all_52, x_storeI_3, x_storeI_4, x_storeI_5, x_storeI_6, x_storeI_7, x_storeI_8, x_loadI_7, y_if_eq_t, y_if_eq_f, b_X5_all_73, x_loadI_8, b_X5_all_81, b_X5_all_88, x_loadI_3, b_X5_all_92, y_if_ge_t, y_if_ge_f, b_X5_all_99, x_storeI_9, x_loadI_4, b_X5_all_110, x_loadI_9, x_loadI_6, b_X5_all_117, b_X5_all_127, x_iinc_4, b_X5_all_130, x_iinc_8, b_X5_all_142, y_if_ne_t, y_if_ne_f, b_X5_all_146, b_X5_all_149, y_ic_eq_t, y_ic_eq_f, b_X5_all_154, y_ic_ne_t, y_ic_ne_f, b_X5_all_159, x_loadI_5, b_X5_all_164, b_X5_all_166, q_isL_I, q_isL_R, q_isL_S, true_and, and_true, and_self, List.length_nil, List.length_cons, Nat.zero_add, x_K, x_Kn, Int.reduceToNat, Nat.reduceAdd, Nat.reduceMul, Nat.reduceLeDiff, Nat.reduceLT, Nat.zero_le, Int.reduceAdd, Int.reduceSub, Int.reduceMul, Int.reduceNeg, q_add_e, q_sub_e, q_mul_e, q_neg_e, q_upd_s, q_upd_n, zr_shr0, zr_shr1, zr_shr2, zr_shr3, zr_shr4, zr_and, zr_dyn8, zr_or, zr_shl, q_cpy_n, y_cpy26]
    exact hq
theorem F_next_hi : ∀ (p : Nat) (f : Nat → Int), p ≤ 5 → ∀ i, 5 ≤ i → (F_next f p).2 i = f i
  | 0, f, _, i, _ => rfl
  | p + 1, f, hp, i, hi => by
    rw [F_next]
    have hu : ∀ v, F_u f p v i = f i := fun v => if_neg (by omega)
    split
    · exact hu _
    · split
      · rw [F_next_hi p _ (by omega) i hi]
        exact hu _
      · exact hu _
theorem q_tq_sM {M M2 : q_M} {f : Nat → Int} (h : q_tq M M2) (hf : ∀ i, 5 ≤ i → f i = M2 41 i) : q_tq M (q_sM M2 41 f) := by
  intro a i h1 h2 h3 h4
  by_cases c : a = 41
  · subst c
    rw [q_sM_s, hf i (by omega)]
    exact h 41 i h1 h2 h3 h4
  · rw [q_sM_n c]
    exact h a i h1 h2 h3 h4
set_option maxHeartbeats 8000000 in
theorem sp_all {V : Nat → (Nat → Int) → Int} {d : Nat} {g : q_G} {M : q_M} {ta : Nat} {wt : Int} {Q : Option q_V → q_G → q_M → Prop} (C : q_ci V M ta) (hwt : 0 ≤ wt ∧ wt ≤ 4) (hq : ∀ M2 M3 : q_M, q_td V M M2 ta → q_tq M M3 → Q (some (qI (A_all (q_Lk M2 39) (q_Wn M2 39) (M2 40) (M2 39 5).toNat (F_f0 (M2 41)) wt))) g M3) : q_S 1 (d + 6) 79 [qR 5 0, qI wt] g M Q := by
  have h12 := q_ci_n C
  rw [s_X5_all]
  simp (disch := omega) only [b_X5_all_0, x_loadI_1, y_if_lt_t, y_if_lt_f, b_X5_all_4, x_iconst, y_ic_le_t, y_ic_le_f, b_X5_all_9, x_ret0, b_X5_all_12, x_loadR_0, x_loadS_0, f_5_4, f_5_3, f_4_0, x_storeR_2, x_loadR_2, x_loadS_2, y_ic_ge_t, y_ic_ge_f, b_X5_all_47, x_goto, b_X5_all_51, b_X5_all_52, x_storeI_3, x_storeI_4, x_storeI_5, x_storeI_6, x_storeI_7, x_storeI_8, x_loadI_7, y_if_eq_t, y_if_eq_f, b_X5_all_73, x_loadI_8, b_X5_all_81, b_X5_all_88, x_loadI_3, b_X5_all_92, y_if_ge_t, y_if_ge_f, b_X5_all_99, x_storeI_9, x_loadI_4, b_X5_all_110, x_loadI_9, x_loadI_6, b_X5_all_117, b_X5_all_127, x_iinc_4, b_X5_all_130, x_iinc_8, b_X5_all_142, y_if_ne_t, y_if_ne_f, b_X5_all_146, b_X5_all_149, y_ic_eq_t, y_ic_eq_f, b_X5_all_154, y_ic_ne_t, y_ic_ne_f, b_X5_all_159, x_loadI_5, b_X5_all_164, b_X5_all_166, q_isL_I, q_isL_R, q_isL_S, true_and, and_true, and_self, List.length_nil, List.length_cons, Nat.zero_add, x_K, x_Kn, Int.reduceToNat, Nat.reduceAdd, Nat.reduceMul, Nat.reduceLeDiff, Nat.reduceLT, Nat.zero_le, Int.reduceAdd, Int.reduceSub, Int.reduceMul, Int.reduceNeg, q_add_e, q_sub_e, q_mul_e, q_neg_e, q_upd_s, q_upd_n, zr_shr0, zr_shr1, zr_shr2, zr_shr3, zr_shr4, zr_and, zr_dyn8, zr_or, zr_shl, q_cpy_n, y_cpy26, c_X4_copyFrom]
  refine sp_think C q_tq_rf (fun M1 h1 => ?_)
  simp (disch := omega) only [b_X5_all_0, x_loadI_1, y_if_lt_t, y_if_lt_f, b_X5_all_4, x_iconst, y_ic_le_t, y_ic_le_f, b_X5_all_9, x_ret0, b_X5_all_12, x_loadR_0, x_loadS_0, f_5_4, f_5_3, f_4_0, x_storeR_2, x_loadR_2, x_loadS_2, y_ic_ge_t, y_ic_ge_f, b_X5_all_47, x_goto, b_X5_all_51, b_X5_all_52, x_storeI_3, x_storeI_4, x_storeI_5, x_storeI_6, x_storeI_7, x_storeI_8, x_loadI_7, y_if_eq_t, y_if_eq_f, b_X5_all_73, x_loadI_8, b_X5_all_81, b_X5_all_88, x_loadI_3, b_X5_all_92, y_if_ge_t, y_if_ge_f, b_X5_all_99, x_storeI_9, x_loadI_4, b_X5_all_110, x_loadI_9, x_loadI_6, b_X5_all_117, b_X5_all_127, x_iinc_4, b_X5_all_130, x_iinc_8, b_X5_all_142, y_if_ne_t, y_if_ne_f, b_X5_all_146, b_X5_all_149, y_ic_eq_t, y_ic_eq_f, b_X5_all_154, y_ic_ne_t, y_ic_ne_f, b_X5_all_159, x_loadI_5, b_X5_all_164, b_X5_all_166, q_isL_I, q_isL_R, q_isL_S, true_and, and_true, and_self, List.length_nil, List.length_cons, Nat.zero_add, x_K, x_Kn, Int.reduceToNat, Nat.reduceAdd, Nat.reduceMul, Nat.reduceLeDiff, Nat.reduceLT, Nat.zero_le, Int.reduceAdd, Int.reduceSub, Int.reduceMul, Int.reduceNeg, q_add_e, q_sub_e, q_mul_e, q_neg_e, q_upd_s, q_upd_n, zr_shr0, zr_shr1, zr_shr2, zr_shr3, zr_shr4, zr_and, zr_dyn8, zr_or, zr_shl, q_cpy_n, y_cpy26, c_X4_tellAll]
  refine sp_tellT C h1 (fun M2 h2 => ?_)
  have hq2 := hq M2
  obtain ⟨w2, c2, z2, n2, f2, td2, bL, bW⟩ := h2
  have h2 : q_td V M M2 ta := ⟨w2, c2, z2, n2, f2, td2, bL, bW⟩
  have n0 : 0 ≤ M2 39 5 := w2.1.1.1
  have n5 : M2 39 5 ≤ 5 := w2.1.1.2
  have hin : q_f5 (M2 41) := w2.1.2.2.2.2.2.2.1
  have e0 : q_upd (q_upd (q_upd (q_upd (q_upd M2 (39 + 2) 0 5) (39 + 2) 1 5) (39 + 2) 2 5) (39 + 2) 3 5) (39 + 2) 4 5 = q_sM M2 41 (F_f0 (M2 41)) := by
    conv => lhs; rw [← q_sM_self (M := M2) (a := 41)]
    rw [q_sM_u, q_sM_u, q_sM_u, q_sM_u, q_sM_u]
    rfl
  have hf0 : ∀ i, 5 ≤ i → F_f0 (M2 41) i = M2 41 i := fun i hi => by
    unfold F_f0 F_u
    rw [if_neg (by omega), if_neg (by omega), if_neg (by omega), if_neg (by omega), if_neg (by omega)]
  have key : ∀ pe : Bool, pe = decide (wt < 3) → q_T 1 (d + 6) qP_X5_all 68 [] [qR 5 0, qI wt, qR 0 39, qI (if pe = true then 1 else 0), qI 0, qI (-1), qI 0, qI 1, qI 0, qS 0] [] g (q_sM M2 41 (F_f0 (M2 41))) Q := by
    intro pe hpe
    unfold A_all at hq2
    rw [← hpe] at hq2
    have loop : ∀ j k : Nat, k + j = 7776 → ∀ (f : Nat → Int) (x : Int × Int × Int) (mo : Int) (l9 : q_V), q_isL l9 = false → q_f5 f → (∀ i, 5 ≤ i → f i = M2 41 i) → 0 ≤ x.1 → x.1 ≤ k → mo = 1 → (∀ M3 : q_M, q_tq M M3 → Q (some (qI (if wt = 0 then (F_al (q_Lk M2 39) (q_Wn M2 39) (M2 40) (M2 39 5).toNat pe j f x).1 else if wt = 1 ∨ wt = 3 then (F_al (q_Lk M2 39) (q_Wn M2 39) (M2 40) (M2 39 5).toNat pe j f x).2.1 else (F_al (q_Lk M2 39) (q_Wn M2 39) (M2 40) (M2 39 5).toNat pe j f x).2.2))) g M3) → q_T 1 (d + 6) qP_X5_all 68 [] [qR 5 0, qI wt, qR 0 39, qI (if pe = true then 1 else 0), qI x.1, qI x.2.1, qI x.2.2, qI mo, qI k, l9] [] g (q_sM M2 41 f) Q := by
      have fin : ∀ (x : Int × Int × Int) (mo k : Int) (l9 : q_V) (M3 : q_M), q_tq M M3 → (∀ M3 : q_M, q_tq M M3 → Q (some (qI (if wt = 0 then x.1 else if wt = 1 ∨ wt = 3 then x.2.1 else x.2.2))) g M3) → q_T 1 (d + 6) qP_X5_all 142 [] [qR 5 0, qI wt, qR 0 39, qI (if pe = true then 1 else 0), qI x.1, qI x.2.1, qI x.2.2, qI mo, qI k, l9] [] g M3 Q := by
        intro x mo k l9 M3 h3 hq
        rcases (show wt = 0 ∨ wt = 1 ∨ wt = 3 ∨ wt = 2 ∨ wt = 4 by omega) with e | e | e | e | e
        · subst e
          rw [if_pos rfl] at hq
          simp (disch := omega) only [b_X5_all_0, x_loadI_1, y_if_lt_t, y_if_lt_f, b_X5_all_4, x_iconst, y_ic_le_t, y_ic_le_f, b_X5_all_9, x_ret0, b_X5_all_12, x_loadR_0, x_loadS_0, f_5_4, f_5_3, f_4_0, x_storeR_2, x_loadR_2, x_loadS_2, y_ic_ge_t, y_ic_ge_f, b_X5_all_47, x_goto, b_X5_all_51, b_X5_all_52, x_storeI_3, x_storeI_4, x_storeI_5, x_storeI_6, x_storeI_7, x_storeI_8, x_loadI_7, y_if_eq_t, y_if_eq_f, b_X5_all_73, x_loadI_8, b_X5_all_81, b_X5_all_88, x_loadI_3, b_X5_all_92, y_if_ge_t, y_if_ge_f, b_X5_all_99, x_storeI_9, x_loadI_4, b_X5_all_110, x_loadI_9, x_loadI_6, b_X5_all_117, b_X5_all_127, x_iinc_4, b_X5_all_130, x_iinc_8, b_X5_all_142, y_if_ne_t, y_if_ne_f, b_X5_all_146, b_X5_all_149, y_ic_eq_t, y_ic_eq_f, b_X5_all_154, y_ic_ne_t, y_ic_ne_f, b_X5_all_159, x_loadI_5, b_X5_all_164, b_X5_all_166, q_isL_I, q_isL_R, q_isL_S, true_and, and_true, and_self, List.length_nil, List.length_cons, Nat.zero_add, x_K, x_Kn, Int.reduceToNat, Nat.reduceAdd, Nat.reduceMul, Nat.reduceLeDiff, Nat.reduceLT, Nat.zero_le, Int.reduceAdd, Int.reduceSub, Int.reduceMul, Int.reduceNeg, q_add_e, q_sub_e, q_mul_e, q_neg_e, q_upd_s, q_upd_n, zr_shr0, zr_shr1, zr_shr2, zr_shr3, zr_shr4, zr_and, zr_dyn8, zr_or, zr_shl, q_cpy_n, y_cpy26]
          exact hq M3 h3
        · subst e
          rw [if_neg (by omega), if_pos (by omega)] at hq
          simp (disch := omega) only [b_X5_all_0, x_loadI_1, y_if_lt_t, y_if_lt_f, b_X5_all_4, x_iconst, y_ic_le_t, y_ic_le_f, b_X5_all_9, x_ret0, b_X5_all_12, x_loadR_0, x_loadS_0, f_5_4, f_5_3, f_4_0, x_storeR_2, x_loadR_2, x_loadS_2, y_ic_ge_t, y_ic_ge_f, b_X5_all_47, x_goto, b_X5_all_51, b_X5_all_52, x_storeI_3, x_storeI_4, x_storeI_5, x_storeI_6, x_storeI_7, x_storeI_8, x_loadI_7, y_if_eq_t, y_if_eq_f, b_X5_all_73, x_loadI_8, b_X5_all_81, b_X5_all_88, x_loadI_3, b_X5_all_92, y_if_ge_t, y_if_ge_f, b_X5_all_99, x_storeI_9, x_loadI_4, b_X5_all_110, x_loadI_9, x_loadI_6, b_X5_all_117, b_X5_all_127, x_iinc_4, b_X5_all_130, x_iinc_8, b_X5_all_142, y_if_ne_t, y_if_ne_f, b_X5_all_146, b_X5_all_149, y_ic_eq_t, y_ic_eq_f, b_X5_all_154, y_ic_ne_t, y_ic_ne_f, b_X5_all_159, x_loadI_5, b_X5_all_164, b_X5_all_166, q_isL_I, q_isL_R, q_isL_S, true_and, and_true, and_self, List.length_nil, List.length_cons, Nat.zero_add, x_K, x_Kn, Int.reduceToNat, Nat.reduceAdd, Nat.reduceMul, Nat.reduceLeDiff, Nat.reduceLT, Nat.zero_le, Int.reduceAdd, Int.reduceSub, Int.reduceMul, Int.reduceNeg, q_add_e, q_sub_e, q_mul_e, q_neg_e, q_upd_s, q_upd_n, zr_shr0, zr_shr1, zr_shr2, zr_shr3, zr_shr4, zr_and, zr_dyn8, zr_or, zr_shl, q_cpy_n, y_cpy26]
          exact hq M3 h3
        · subst e
          rw [if_neg (by omega), if_pos (by omega)] at hq
          simp (disch := omega) only [b_X5_all_0, x_loadI_1, y_if_lt_t, y_if_lt_f, b_X5_all_4, x_iconst, y_ic_le_t, y_ic_le_f, b_X5_all_9, x_ret0, b_X5_all_12, x_loadR_0, x_loadS_0, f_5_4, f_5_3, f_4_0, x_storeR_2, x_loadR_2, x_loadS_2, y_ic_ge_t, y_ic_ge_f, b_X5_all_47, x_goto, b_X5_all_51, b_X5_all_52, x_storeI_3, x_storeI_4, x_storeI_5, x_storeI_6, x_storeI_7, x_storeI_8, x_loadI_7, y_if_eq_t, y_if_eq_f, b_X5_all_73, x_loadI_8, b_X5_all_81, b_X5_all_88, x_loadI_3, b_X5_all_92, y_if_ge_t, y_if_ge_f, b_X5_all_99, x_storeI_9, x_loadI_4, b_X5_all_110, x_loadI_9, x_loadI_6, b_X5_all_117, b_X5_all_127, x_iinc_4, b_X5_all_130, x_iinc_8, b_X5_all_142, y_if_ne_t, y_if_ne_f, b_X5_all_146, b_X5_all_149, y_ic_eq_t, y_ic_eq_f, b_X5_all_154, y_ic_ne_t, y_ic_ne_f, b_X5_all_159, x_loadI_5, b_X5_all_164, b_X5_all_166, q_isL_I, q_isL_R, q_isL_S, true_and, and_true, and_self, List.length_nil, List.length_cons, Nat.zero_add, x_K, x_Kn, Int.reduceToNat, Nat.reduceAdd, Nat.reduceMul, Nat.reduceLeDiff, Nat.reduceLT, Nat.zero_le, Int.reduceAdd, Int.reduceSub, Int.reduceMul, Int.reduceNeg, q_add_e, q_sub_e, q_mul_e, q_neg_e, q_upd_s, q_upd_n, zr_shr0, zr_shr1, zr_shr2, zr_shr3, zr_shr4, zr_and, zr_dyn8, zr_or, zr_shl, q_cpy_n, y_cpy26]
          exact hq M3 h3
        · subst e
          rw [if_neg (by omega), if_neg (by omega)] at hq
          simp (disch := omega) only [b_X5_all_0, x_loadI_1, y_if_lt_t, y_if_lt_f, b_X5_all_4, x_iconst, y_ic_le_t, y_ic_le_f, b_X5_all_9, x_ret0, b_X5_all_12, x_loadR_0, x_loadS_0, f_5_4, f_5_3, f_4_0, x_storeR_2, x_loadR_2, x_loadS_2, y_ic_ge_t, y_ic_ge_f, b_X5_all_47, x_goto, b_X5_all_51, b_X5_all_52, x_storeI_3, x_storeI_4, x_storeI_5, x_storeI_6, x_storeI_7, x_storeI_8, x_loadI_7, y_if_eq_t, y_if_eq_f, b_X5_all_73, x_loadI_8, b_X5_all_81, b_X5_all_88, x_loadI_3, b_X5_all_92, y_if_ge_t, y_if_ge_f, b_X5_all_99, x_storeI_9, x_loadI_4, b_X5_all_110, x_loadI_9, x_loadI_6, b_X5_all_117, b_X5_all_127, x_iinc_4, b_X5_all_130, x_iinc_8, b_X5_all_142, y_if_ne_t, y_if_ne_f, b_X5_all_146, b_X5_all_149, y_ic_eq_t, y_ic_eq_f, b_X5_all_154, y_ic_ne_t, y_ic_ne_f, b_X5_all_159, x_loadI_5, b_X5_all_164, b_X5_all_166, q_isL_I, q_isL_R, q_isL_S, true_and, and_true, and_self, List.length_nil, List.length_cons, Nat.zero_add, x_K, x_Kn, Int.reduceToNat, Nat.reduceAdd, Nat.reduceMul, Nat.reduceLeDiff, Nat.reduceLT, Nat.zero_le, Int.reduceAdd, Int.reduceSub, Int.reduceMul, Int.reduceNeg, q_add_e, q_sub_e, q_mul_e, q_neg_e, q_upd_s, q_upd_n, zr_shr0, zr_shr1, zr_shr2, zr_shr3, zr_shr4, zr_and, zr_dyn8, zr_or, zr_shl, q_cpy_n, y_cpy26]
          exact hq M3 h3
        · subst e
          rw [if_neg (by omega), if_neg (by omega)] at hq
          simp (disch := omega) only [b_X5_all_0, x_loadI_1, y_if_lt_t, y_if_lt_f, b_X5_all_4, x_iconst, y_ic_le_t, y_ic_le_f, b_X5_all_9, x_ret0, b_X5_all_12, x_loadR_0, x_loadS_0, f_5_4, f_5_3, f_4_0, x_storeR_2, x_loadR_2, x_loadS_2, y_ic_ge_t, y_ic_ge_f, b_X5_all_47, x_goto, b_X5_all_51, b_X5_all_52, x_storeI_3, x_storeI_4, x_storeI_5, x_storeI_6, x_storeI_7, x_storeI_8, x_loadI_7, y_if_eq_t, y_if_eq_f, b_X5_all_73, x_loadI_8, b_X5_all_81, b_X5_all_88, x_loadI_3, b_X5_all_92, y_if_ge_t, y_if_ge_f, b_X5_all_99, x_storeI_9, x_loadI_4, b_X5_all_110, x_loadI_9, x_loadI_6, b_X5_all_117, b_X5_all_127, x_iinc_4, b_X5_all_130, x_iinc_8, b_X5_all_142, y_if_ne_t, y_if_ne_f, b_X5_all_146, b_X5_all_149, y_ic_eq_t, y_ic_eq_f, b_X5_all_154, y_ic_ne_t, y_ic_ne_f, b_X5_all_159, x_loadI_5, b_X5_all_164, b_X5_all_166, q_isL_I, q_isL_R, q_isL_S, true_and, and_true, and_self, List.length_nil, List.length_cons, Nat.zero_add, x_K, x_Kn, Int.reduceToNat, Nat.reduceAdd, Nat.reduceMul, Nat.reduceLeDiff, Nat.reduceLT, Nat.zero_le, Int.reduceAdd, Int.reduceSub, Int.reduceMul, Int.reduceNeg, q_add_e, q_sub_e, q_mul_e, q_neg_e, q_upd_s, q_upd_n, zr_shr0, zr_shr1, zr_shr2, zr_shr3, zr_shr4, zr_and, zr_dyn8, zr_or, zr_shl, q_cpy_n, y_cpy26]
          exact hq M3 h3
      intro j
      induction j with
      | zero =>
        intro k hk f x mo l9 hl9 hf5 hfh hx0 hxk hmo hq
        have e : k = 7776 := by omega
        subst e
        rw [F_al] at hq
        rw [b_X5_all_68]
        simp (disch := omega) only [b_X5_all_0, x_loadI_1, y_if_lt_t, y_if_lt_f, b_X5_all_4, x_iconst, y_ic_le_t, y_ic_le_f, b_X5_all_9, x_ret0, b_X5_all_12, x_loadR_0, x_loadS_0, f_5_4, f_5_3, f_4_0, x_storeR_2, x_loadR_2, x_loadS_2, y_ic_ge_t, y_ic_ge_f, b_X5_all_47, x_goto, b_X5_all_51, b_X5_all_52, x_storeI_3, x_storeI_4, x_storeI_5, x_storeI_6, x_storeI_7, x_storeI_8, x_loadI_7, y_if_eq_t, y_if_eq_f, b_X5_all_73, x_loadI_8, b_X5_all_81, b_X5_all_88, x_loadI_3, b_X5_all_92, y_if_ge_t, y_if_ge_f, b_X5_all_99, x_storeI_9, x_loadI_4, b_X5_all_110, x_loadI_9, x_loadI_6, b_X5_all_117, b_X5_all_127, x_iinc_4, b_X5_all_130, x_iinc_8, y_if_ne_t, y_if_ne_f, b_X5_all_146, b_X5_all_149, y_ic_eq_t, y_ic_eq_f, b_X5_all_154, y_ic_ne_t, y_ic_ne_f, b_X5_all_159, x_loadI_5, b_X5_all_164, b_X5_all_166, q_isL_I, q_isL_R, q_isL_S, true_and, and_true, and_self, List.length_nil, List.length_cons, Nat.zero_add, x_K, x_Kn, Int.reduceToNat, Nat.reduceAdd, Nat.reduceMul, Nat.reduceLeDiff, Nat.reduceLT, Nat.zero_le, Int.reduceAdd, Int.reduceSub, Int.reduceMul, Int.reduceNeg, q_add_e, q_sub_e, q_mul_e, q_neg_e, q_upd_s, q_upd_n, zr_shr0, zr_shr1, zr_shr2, zr_shr3, zr_shr4, zr_and, zr_dyn8, zr_or, zr_shl, q_cpy_n, y_cpy26]
        exact fin x mo 7776 l9 _ (q_tq_sM f2 hfh) hq
      | succ j ih =>
        intro k hk f x mo l9 hl9 hf5 hfh hx0 hxk hmo hq
        subst hmo
        rw [F_al] at hq
        have m5 : q_sM M2 41 f 39 5 = M2 39 5 := q_sM_n (by omega)
        have mi : q_sM M2 41 f (39 + 2) = f := q_sM_o
        have mR : q_sM M2 41 f (39 + 1) = M2 40 := q_sM_r (by omega)
        have mL : q_Lk (q_sM M2 41 f) 39 = q_Lk M2 39 := funext (fun p => q_sM_r (by omega))
        have mL2 : (fun p => q_sM M2 41 f (39 + 3 + (1 + p))) = q_Lk M2 39 := funext (fun p => q_sM_r (by omega))
        have mT : q_Tk (q_sM M2 41 f) 39 = (fun p b => F_takes1 f (fun q => q_Wn M2 39 q b) (M2 40 b) b (M2 39 5).toNat p) := by
          funext p b
          unfold q_Tk
          rw [mi, m5, mR]
          exact congrArg (fun w => F_takes1 f w (M2 40 b) b (M2 39 5).toNat p) (funext (fun q => q_sM_n (by omega)))
        have nxt : ∀ (y : Int × Int × Int) (l9 : q_V), q_isL l9 = false → 0 ≤ y.1 → y.1 ≤ (k : Int) + 1 → y = F_alS (q_Lk M2 39) (q_Wn M2 39) (M2 40) (M2 39 5).toNat pe f x → q_T 1 (d + 6) qP_X5_all 130 [] [qR 5 0, qI wt, qR 0 39, qI (if pe = true then 1 else 0), qI y.1, qI y.2.1, qI y.2.2, qI 1, qI k, l9] [] g (q_sM M2 41 f) Q := by
          intro y l9 hl9 hy0 hy1 hy
          rw [← hy] at hq
          have nw : ∀ (nx : Nat) (ops : List Instr) (ls st : List q_V), q_T 1 (d + 6) qP_X5_all nx ops ls (qI (if (F_next f (M2 39 5).toNat).1 = true then 1 else 0) :: st) g (q_sM M2 41 (F_next f (M2 39 5).toNat).2) Q → q_S 1 (d + 5) 19 [qR 0 39] g (q_sM M2 41 f) (q_K 1 (d + 6) qP_X5_all nx ops ls st Q) := fun nx ops ls st h => sp_nextWay (c := 39) n0 n5 hf5 h
          rw [b_X5_all_130]
          simp (disch := omega) only [b_X5_all_0, x_loadI_1, y_if_lt_t, y_if_lt_f, b_X5_all_4, x_iconst, y_ic_le_t, y_ic_le_f, b_X5_all_9, x_ret0, b_X5_all_12, x_loadR_0, x_loadS_0, f_5_4, f_5_3, f_4_0, x_storeR_2, x_loadR_2, x_loadS_2, y_ic_ge_t, y_ic_ge_f, b_X5_all_47, x_goto, b_X5_all_51, b_X5_all_52, x_storeI_3, x_storeI_4, x_storeI_5, x_storeI_6, x_storeI_7, x_storeI_8, x_loadI_7, y_if_eq_t, y_if_eq_f, b_X5_all_73, x_loadI_8, b_X5_all_81, b_X5_all_88, x_loadI_3, b_X5_all_92, y_if_ge_t, y_if_ge_f, b_X5_all_99, x_storeI_9, x_loadI_4, b_X5_all_110, x_loadI_9, x_loadI_6, b_X5_all_117, b_X5_all_127, x_iinc_4, x_iinc_8, y_if_ne_t, y_if_ne_f, b_X5_all_146, b_X5_all_149, y_ic_eq_t, y_ic_eq_f, b_X5_all_154, y_ic_ne_t, y_ic_ne_f, b_X5_all_159, x_loadI_5, b_X5_all_164, b_X5_all_166, q_isL_I, q_isL_R, q_isL_S, true_and, and_true, and_self, List.length_nil, List.length_cons, Nat.zero_add, x_K, x_Kn, Int.reduceToNat, Nat.reduceAdd, Nat.reduceMul, Nat.reduceLeDiff, Nat.reduceLT, Nat.zero_le, Int.reduceAdd, Int.reduceSub, Int.reduceMul, Int.reduceNeg, q_add_e, q_sub_e, q_mul_e, q_neg_e, q_upd_s, q_upd_n, zr_shr0, zr_shr1, zr_shr2, zr_shr3, zr_shr4, zr_and, zr_dyn8, zr_or, zr_shl, q_cpy_n, y_cpy26, c_X0_nextWay]
          refine nw _ _ _ _ ?_
          have hb := F_next_b (M2 39 5).toNat f hf5
          have hh := F_next_hi (M2 39 5).toNat f (by omega)
          generalize F_next f (M2 39 5).toNat = N at hq hb hh ⊢
          by_cases c1 : N.1 = true
          · rw [if_pos c1] at hq
            simp (disch := omega) only [b_X5_all_0, x_loadI_1, y_if_lt_t, y_if_lt_f, b_X5_all_4, x_iconst, y_ic_le_t, y_ic_le_f, b_X5_all_9, x_ret0, b_X5_all_12, x_loadR_0, x_loadS_0, f_5_4, f_5_3, f_4_0, x_storeR_2, x_loadR_2, x_loadS_2, y_ic_ge_t, y_ic_ge_f, b_X5_all_47, x_goto, b_X5_all_51, b_X5_all_52, x_storeI_3, x_storeI_4, x_storeI_5, x_storeI_6, x_storeI_7, x_storeI_8, x_loadI_7, y_if_eq_t, y_if_eq_f, b_X5_all_73, x_loadI_8, b_X5_all_81, b_X5_all_88, x_loadI_3, b_X5_all_92, y_if_ge_t, y_if_ge_f, b_X5_all_99, x_storeI_9, x_loadI_4, b_X5_all_110, x_loadI_9, x_loadI_6, b_X5_all_117, b_X5_all_127, x_iinc_4, b_X5_all_130, x_iinc_8, y_if_ne_t, y_if_ne_f, b_X5_all_146, b_X5_all_149, y_ic_eq_t, y_ic_eq_f, b_X5_all_154, y_ic_ne_t, y_ic_ne_f, b_X5_all_159, x_loadI_5, b_X5_all_164, b_X5_all_166, q_isL_I, q_isL_R, q_isL_S, true_and, and_true, and_self, List.length_nil, List.length_cons, Nat.zero_add, x_K, x_Kn, Int.reduceToNat, Nat.reduceAdd, Nat.reduceMul, Nat.reduceLeDiff, Nat.reduceLT, Nat.zero_le, Int.reduceAdd, Int.reduceSub, Int.reduceMul, Int.reduceNeg, q_add_e, q_sub_e, q_mul_e, q_neg_e, q_upd_s, q_upd_n, zr_shr0, zr_shr1, zr_shr2, zr_shr3, zr_shr4, zr_and, zr_dyn8, zr_or, zr_shl, q_cpy_n, y_cpy26, c1, if_true, hl9]
            exact ih (k + 1) (by omega) N.2 y 1 l9 hl9 hb (fun i hi => (hh i hi).trans (hfh i hi)) hy0 (by omega) rfl hq
          · rw [if_neg c1] at hq
            simp (disch := omega) only [b_X5_all_0, x_loadI_1, y_if_lt_t, y_if_lt_f, b_X5_all_4, x_iconst, y_ic_le_t, y_ic_le_f, b_X5_all_9, x_ret0, b_X5_all_12, x_loadR_0, x_loadS_0, f_5_4, f_5_3, f_4_0, x_storeR_2, x_loadR_2, x_loadS_2, y_ic_ge_t, y_ic_ge_f, b_X5_all_47, x_goto, b_X5_all_51, b_X5_all_52, x_storeI_3, x_storeI_4, x_storeI_5, x_storeI_6, x_storeI_7, x_storeI_8, b_X5_all_68, x_loadI_7, y_if_eq_t, y_if_eq_f, b_X5_all_73, x_loadI_8, b_X5_all_81, b_X5_all_88, x_loadI_3, b_X5_all_92, y_if_ge_t, y_if_ge_f, b_X5_all_99, x_storeI_9, x_loadI_4, b_X5_all_110, x_loadI_9, x_loadI_6, b_X5_all_117, b_X5_all_127, x_iinc_4, b_X5_all_130, x_iinc_8, y_if_ne_t, y_if_ne_f, b_X5_all_146, b_X5_all_149, y_ic_eq_t, y_ic_eq_f, b_X5_all_154, y_ic_ne_t, y_ic_ne_f, b_X5_all_159, x_loadI_5, b_X5_all_164, b_X5_all_166, q_isL_I, q_isL_R, q_isL_S, true_and, and_true, and_self, List.length_nil, List.length_cons, Nat.zero_add, x_K, x_Kn, Int.reduceToNat, Nat.reduceAdd, Nat.reduceMul, Nat.reduceLeDiff, Nat.reduceLT, Nat.zero_le, Int.reduceAdd, Int.reduceSub, Int.reduceMul, Int.reduceNeg, q_add_e, q_sub_e, q_mul_e, q_neg_e, q_upd_s, q_upd_n, zr_shr0, zr_shr1, zr_shr2, zr_shr3, zr_shr4, zr_and, zr_dyn8, zr_or, zr_shl, q_cpy_n, y_cpy26, c1, Bool.false_eq_true, if_false, hl9]
            exact fin y _ _ _ _ (q_tq_sM f2 (fun i hi => (hh i hi).trans (hfh i hi))) hq
        have fits : ∀ (nx : Nat) (ops : List Instr) (ls st : List q_V), q_T 1 (d + 6) qP_X5_all nx ops ls (qI (if F_fits f (M2 40) (M2 39 5).toNat 5 = true then 1 else 0) :: st) g (q_sM M2 41 f) Q → q_S 1 (d + 5) 18 [qR 0 39] g (q_sM M2 41 f) (q_K 1 (d + 6) qP_X5_all nx ops ls st Q) := fun nx ops ls st h => sp_fits (by rw [m5]; exact n0) (by rw [m5]; exact n5) (by rw [mi, mR, m5]; exact h)
        have comp : ∀ (nx : Nat) (ops : List Instr) (ls st : List q_V), q_T 1 (d + 6) qP_X5_all nx ops ls (qI (F_cmp (q_Lk M2 39) (fun p b => F_takes1 f (fun q => q_Wn M2 39 q b) (M2 40 b) b (M2 39 5).toNat p) f (M2 39 5).toNat 0) :: st) g (q_sM M2 41 f) Q → q_S 1 (d + 5) 17 [qR 0 39] g (q_sM M2 41 f) (q_K 1 (d + 6) qP_X5_all nx ops ls st Q) := fun nx ops ls st h => sp_complaint (by rw [m5]; exact n0) (by rw [m5]; exact n5) (by rw [mi]; exact hf5) (by rw [mL, mT, mi, m5]; exact h)
        have liked : ∀ (nx : Nat) (ops : List Instr) (ls st : List q_V), q_T 1 (d + 6) qP_X5_all nx ops ls (qI (F_sum (q_Lk M2 39) f (M2 39 5).toNat) :: st) g (q_sM M2 41 f) Q → q_S 1 (d + 5) 7 [qR 0 39] g (q_sM M2 41 f) (q_K 1 (d + 6) qP_X5_all nx ops ls st Q) := fun nx ops ls st h => by
          rw [sp_liked2 (by rw [m5]; exact n0) (by rw [m5]; exact n5) (by rw [mi]; exact hf5) (fun p b q1 q2 => by rw [m5] at q1; rw [q_sM_n (by omega)]; exact bL p b q1 q2), mL2, mi, m5]
          exact h
        have digits : ∀ (nx : Nat) (ops : List Instr) (ls st : List q_V), q_T 1 (d + 6) qP_X5_all nx ops ls (qI (F_dig f (M2 39 5).toNat) :: st) g (q_sM M2 41 f) Q → q_S 1 (d + 5) 6 [qR 0 39] g (q_sM M2 41 f) (q_K 1 (d + 6) qP_X5_all nx ops ls st Q) := fun nx ops ls st h => by
          rw [sp_digits (by rw [m5]; exact n0) (by rw [m5]; exact n5) (by rw [mi]; exact hf5), mi, m5]
          exact h
        have sB := F_sum_le2 (N := (M2 39 5).toNat) (L := q_Lk M2 39) (f := f) hf5 bL (M2 39 5).toNat (Nat.le_refl _)
        have nxt2 := fun y l9 h9 q0 q1 => nxt y l9 h9 q0 q1
        unfold F_alS at nxt
        rw [b_X5_all_68]
        simp (disch := omega) only [b_X5_all_0, x_loadI_1, y_if_lt_t, y_if_lt_f, b_X5_all_4, x_iconst, y_ic_le_t, y_ic_le_f, b_X5_all_9, x_ret0, b_X5_all_12, x_loadR_0, x_loadS_0, f_5_4, f_5_3, f_4_0, x_storeR_2, x_loadR_2, x_loadS_2, y_ic_ge_t, y_ic_ge_f, b_X5_all_47, x_goto, b_X5_all_51, b_X5_all_52, x_storeI_3, x_storeI_4, x_storeI_5, x_storeI_6, x_storeI_7, x_storeI_8, x_loadI_7, y_if_eq_t, y_if_eq_f, b_X5_all_73, x_loadI_8, b_X5_all_81, b_X5_all_88, x_loadI_3, b_X5_all_92, y_if_ge_t, y_if_ge_f, b_X5_all_99, x_storeI_9, x_loadI_4, b_X5_all_110, x_loadI_9, x_loadI_6, b_X5_all_117, b_X5_all_127, x_iinc_4, x_iinc_8, y_if_ne_t, y_if_ne_f, b_X5_all_146, b_X5_all_149, y_ic_eq_t, y_ic_eq_f, b_X5_all_154, y_ic_ne_t, y_ic_ne_f, b_X5_all_159, x_loadI_5, b_X5_all_164, b_X5_all_166, q_isL_I, q_isL_R, q_isL_S, true_and, and_true, and_self, List.length_nil, List.length_cons, Nat.zero_add, x_K, x_Kn, Int.reduceToNat, Nat.reduceAdd, Nat.reduceMul, Nat.reduceLeDiff, Nat.reduceLT, Nat.zero_le, Int.reduceAdd, Int.reduceSub, Int.reduceMul, Int.reduceNeg, q_add_e, q_sub_e, q_mul_e, q_neg_e, q_upd_s, q_upd_n, zr_shr0, zr_shr1, zr_shr2, zr_shr3, zr_shr4, zr_and, zr_dyn8, zr_or, zr_shl, q_cpy_n, y_cpy26, c_X0_fits]
        refine fits _ _ _ _ ?_
        by_cases k1 : F_fits f (M2 40) (M2 39 5).toNat 5 = true
        · have body : (pe = true → F_cmp (q_Lk M2 39) (fun p b => F_takes1 f (fun q => q_Wn M2 39 q b) (M2 40 b) b (M2 39 5).toNat p) f (M2 39 5).toNat 0 < 0) → q_T 1 (d + 6) qP_X5_all 99 [] [qR 5 0, qI wt, qR 0 39, qI (if pe = true then 1 else 0), qI x.1, qI x.2.1, qI x.2.2, qI 1, qI k, l9] [] g (q_sM M2 41 f) Q := by
            intro k2
            rw [if_pos ⟨k1, k2⟩] at nxt
            rw [b_X5_all_99]
            simp (disch := omega) only [b_X5_all_0, x_loadI_1, y_if_lt_t, y_if_lt_f, b_X5_all_4, x_iconst, y_ic_le_t, y_ic_le_f, b_X5_all_9, x_ret0, b_X5_all_12, x_loadR_0, x_loadS_0, f_5_4, f_5_3, f_4_0, x_storeR_2, x_loadR_2, x_loadS_2, y_ic_ge_t, y_ic_ge_f, b_X5_all_47, x_goto, b_X5_all_51, b_X5_all_52, x_storeI_3, x_storeI_4, x_storeI_5, x_storeI_6, x_storeI_7, x_storeI_8, x_loadI_7, y_if_eq_t, y_if_eq_f, b_X5_all_73, x_loadI_8, b_X5_all_81, b_X5_all_88, x_loadI_3, b_X5_all_92, y_if_ge_t, y_if_ge_f, b_X5_all_99, x_storeI_9, x_loadI_4, b_X5_all_110, x_loadI_9, x_loadI_6, b_X5_all_117, b_X5_all_127, x_iinc_4, x_iinc_8, y_if_ne_t, y_if_ne_f, b_X5_all_146, b_X5_all_149, y_ic_eq_t, y_ic_eq_f, b_X5_all_154, y_ic_ne_t, y_ic_ne_f, b_X5_all_159, x_loadI_5, b_X5_all_164, b_X5_all_166, q_isL_I, q_isL_R, q_isL_S, true_and, and_true, and_self, List.length_nil, List.length_cons, Nat.zero_add, x_K, x_Kn, Int.reduceToNat, Nat.reduceAdd, Nat.reduceMul, Nat.reduceLeDiff, Nat.reduceLT, Nat.zero_le, Int.reduceAdd, Int.reduceSub, Int.reduceMul, Int.reduceNeg, q_add_e, q_sub_e, q_mul_e, q_neg_e, q_upd_s, q_upd_n, zr_shr0, zr_shr1, zr_shr2, zr_shr3, zr_shr4, zr_and, zr_dyn8, zr_or, zr_shl, q_cpy_n, y_cpy26, c_X0_liked, hl9]
            refine liked _ _ _ _ ?_
            by_cases k3 : x.1 = 0 ∨ x.2.2 < F_sum (q_Lk M2 39) f (M2 39 5).toNat
            · rw [if_pos k3] at nxt
              rcases (show x.1 = 0 ∨ (x.1 ≠ 0 ∧ x.2.2 < F_sum (q_Lk M2 39) f (M2 39 5).toNat) by omega) with k4 | k4
              · simp (disch := omega) only [b_X5_all_0, x_loadI_1, y_if_lt_t, y_if_lt_f, b_X5_all_4, x_iconst, y_ic_le_t, y_ic_le_f, b_X5_all_9, x_ret0, b_X5_all_12, x_loadR_0, x_loadS_0, f_5_4, f_5_3, f_4_0, x_storeR_2, x_loadR_2, x_loadS_2, y_ic_ge_t, y_ic_ge_f, b_X5_all_47, x_goto, b_X5_all_51, b_X5_all_52, x_storeI_3, x_storeI_4, x_storeI_5, x_storeI_6, x_storeI_7, x_storeI_8, x_loadI_7, y_if_eq_t, y_if_eq_f, b_X5_all_73, x_loadI_8, b_X5_all_81, b_X5_all_88, x_loadI_3, b_X5_all_92, y_if_ge_t, y_if_ge_f, b_X5_all_99, x_storeI_9, x_loadI_4, b_X5_all_110, x_loadI_9, x_loadI_6, b_X5_all_117, b_X5_all_127, x_iinc_4, x_iinc_8, y_if_ne_t, y_if_ne_f, b_X5_all_146, b_X5_all_149, y_ic_eq_t, y_ic_eq_f, b_X5_all_154, y_ic_ne_t, y_ic_ne_f, b_X5_all_159, x_loadI_5, b_X5_all_164, b_X5_all_166, q_isL_I, q_isL_R, q_isL_S, true_and, and_true, and_self, List.length_nil, List.length_cons, Nat.zero_add, x_K, x_Kn, Int.reduceToNat, Nat.reduceAdd, Nat.reduceMul, Nat.reduceLeDiff, Nat.reduceLT, Nat.zero_le, Int.reduceAdd, Int.reduceSub, Int.reduceMul, Int.reduceNeg, q_add_e, q_sub_e, q_mul_e, q_neg_e, q_upd_s, q_upd_n, zr_shr0, zr_shr1, zr_shr2, zr_shr3, zr_shr4, zr_and, zr_dyn8, zr_or, zr_shl, q_cpy_n, y_cpy26, c_X0_digits, hl9]
                refine digits _ _ _ _ ?_
                simp (disch := omega) only [b_X5_all_0, x_loadI_1, y_if_lt_t, y_if_lt_f, b_X5_all_4, x_iconst, y_ic_le_t, y_ic_le_f, b_X5_all_9, x_ret0, b_X5_all_12, x_loadR_0, x_loadS_0, f_5_4, f_5_3, f_4_0, x_storeR_2, x_loadR_2, x_loadS_2, y_ic_ge_t, y_ic_ge_f, b_X5_all_47, x_goto, b_X5_all_51, b_X5_all_52, x_storeI_3, x_storeI_4, x_storeI_5, x_storeI_6, x_storeI_7, x_storeI_8, x_loadI_7, y_if_eq_t, y_if_eq_f, b_X5_all_73, x_loadI_8, b_X5_all_81, b_X5_all_88, x_loadI_3, b_X5_all_92, y_if_ge_t, y_if_ge_f, b_X5_all_99, x_storeI_9, x_loadI_4, b_X5_all_110, x_loadI_9, x_loadI_6, b_X5_all_117, b_X5_all_127, x_iinc_4, x_iinc_8, y_if_ne_t, y_if_ne_f, b_X5_all_146, b_X5_all_149, y_ic_eq_t, y_ic_eq_f, b_X5_all_154, y_ic_ne_t, y_ic_ne_f, b_X5_all_159, x_loadI_5, b_X5_all_164, b_X5_all_166, q_isL_I, q_isL_R, q_isL_S, true_and, and_true, and_self, List.length_nil, List.length_cons, Nat.zero_add, x_K, x_Kn, Int.reduceToNat, Nat.reduceAdd, Nat.reduceMul, Nat.reduceLeDiff, Nat.reduceLT, Nat.zero_le, Int.reduceAdd, Int.reduceSub, Int.reduceMul, Int.reduceNeg, q_add_e, q_sub_e, q_mul_e, q_neg_e, q_upd_s, q_upd_n, zr_shr0, zr_shr1, zr_shr2, zr_shr3, zr_shr4, zr_and, zr_dyn8, zr_or, zr_shl, q_cpy_n, y_cpy26, hl9]
                exact nxt (x.1 + 1, F_dig f (M2 39 5).toNat, F_sum (q_Lk M2 39) f (M2 39 5).toNat) _ rfl (by show 0 ≤ x.1 + 1; omega) (by show x.1 + 1 ≤ (k : Int) + 1; omega) rfl
              · simp (disch := omega) only [b_X5_all_0, x_loadI_1, y_if_lt_t, y_if_lt_f, b_X5_all_4, x_iconst, y_ic_le_t, y_ic_le_f, b_X5_all_9, x_ret0, b_X5_all_12, x_loadR_0, x_loadS_0, f_5_4, f_5_3, f_4_0, x_storeR_2, x_loadR_2, x_loadS_2, y_ic_ge_t, y_ic_ge_f, b_X5_all_47, x_goto, b_X5_all_51, b_X5_all_52, x_storeI_3, x_storeI_4, x_storeI_5, x_storeI_6, x_storeI_7, x_storeI_8, x_loadI_7, y_if_eq_t, y_if_eq_f, b_X5_all_73, x_loadI_8, b_X5_all_81, b_X5_all_88, x_loadI_3, b_X5_all_92, y_if_ge_t, y_if_ge_f, b_X5_all_99, x_storeI_9, x_loadI_4, b_X5_all_110, x_loadI_9, x_loadI_6, b_X5_all_117, b_X5_all_127, x_iinc_4, x_iinc_8, y_if_ne_t, y_if_ne_f, b_X5_all_146, b_X5_all_149, y_ic_eq_t, y_ic_eq_f, b_X5_all_154, y_ic_ne_t, y_ic_ne_f, b_X5_all_159, x_loadI_5, b_X5_all_164, b_X5_all_166, q_isL_I, q_isL_R, q_isL_S, true_and, and_true, and_self, List.length_nil, List.length_cons, Nat.zero_add, x_K, x_Kn, Int.reduceToNat, Nat.reduceAdd, Nat.reduceMul, Nat.reduceLeDiff, Nat.reduceLT, Nat.zero_le, Int.reduceAdd, Int.reduceSub, Int.reduceMul, Int.reduceNeg, q_add_e, q_sub_e, q_mul_e, q_neg_e, q_upd_s, q_upd_n, zr_shr0, zr_shr1, zr_shr2, zr_shr3, zr_shr4, zr_and, zr_dyn8, zr_or, zr_shl, q_cpy_n, y_cpy26, c_X0_digits, hl9]
                refine digits _ _ _ _ ?_
                simp (disch := omega) only [b_X5_all_0, x_loadI_1, y_if_lt_t, y_if_lt_f, b_X5_all_4, x_iconst, y_ic_le_t, y_ic_le_f, b_X5_all_9, x_ret0, b_X5_all_12, x_loadR_0, x_loadS_0, f_5_4, f_5_3, f_4_0, x_storeR_2, x_loadR_2, x_loadS_2, y_ic_ge_t, y_ic_ge_f, b_X5_all_47, x_goto, b_X5_all_51, b_X5_all_52, x_storeI_3, x_storeI_4, x_storeI_5, x_storeI_6, x_storeI_7, x_storeI_8, x_loadI_7, y_if_eq_t, y_if_eq_f, b_X5_all_73, x_loadI_8, b_X5_all_81, b_X5_all_88, x_loadI_3, b_X5_all_92, y_if_ge_t, y_if_ge_f, b_X5_all_99, x_storeI_9, x_loadI_4, b_X5_all_110, x_loadI_9, x_loadI_6, b_X5_all_117, b_X5_all_127, x_iinc_4, x_iinc_8, y_if_ne_t, y_if_ne_f, b_X5_all_146, b_X5_all_149, y_ic_eq_t, y_ic_eq_f, b_X5_all_154, y_ic_ne_t, y_ic_ne_f, b_X5_all_159, x_loadI_5, b_X5_all_164, b_X5_all_166, q_isL_I, q_isL_R, q_isL_S, true_and, and_true, and_self, List.length_nil, List.length_cons, Nat.zero_add, x_K, x_Kn, Int.reduceToNat, Nat.reduceAdd, Nat.reduceMul, Nat.reduceLeDiff, Nat.reduceLT, Nat.zero_le, Int.reduceAdd, Int.reduceSub, Int.reduceMul, Int.reduceNeg, q_add_e, q_sub_e, q_mul_e, q_neg_e, q_upd_s, q_upd_n, zr_shr0, zr_shr1, zr_shr2, zr_shr3, zr_shr4, zr_and, zr_dyn8, zr_or, zr_shl, q_cpy_n, y_cpy26, hl9]
                exact nxt (x.1 + 1, F_dig f (M2 39 5).toNat, F_sum (q_Lk M2 39) f (M2 39 5).toNat) _ rfl (by show 0 ≤ x.1 + 1; omega) (by show x.1 + 1 ≤ (k : Int) + 1; omega) rfl
            · rw [if_neg k3] at nxt
              simp (disch := omega) only [b_X5_all_0, x_loadI_1, y_if_lt_t, y_if_lt_f, b_X5_all_4, x_iconst, y_ic_le_t, y_ic_le_f, b_X5_all_9, x_ret0, b_X5_all_12, x_loadR_0, x_loadS_0, f_5_4, f_5_3, f_4_0, x_storeR_2, x_loadR_2, x_loadS_2, y_ic_ge_t, y_ic_ge_f, b_X5_all_47, x_goto, b_X5_all_51, b_X5_all_52, x_storeI_3, x_storeI_4, x_storeI_5, x_storeI_6, x_storeI_7, x_storeI_8, x_loadI_7, y_if_eq_t, y_if_eq_f, b_X5_all_73, x_loadI_8, b_X5_all_81, b_X5_all_88, x_loadI_3, b_X5_all_92, y_if_ge_t, y_if_ge_f, b_X5_all_99, x_storeI_9, x_loadI_4, b_X5_all_110, x_loadI_9, x_loadI_6, b_X5_all_117, b_X5_all_127, x_iinc_4, x_iinc_8, y_if_ne_t, y_if_ne_f, b_X5_all_146, b_X5_all_149, y_ic_eq_t, y_ic_eq_f, b_X5_all_154, y_ic_ne_t, y_ic_ne_f, b_X5_all_159, x_loadI_5, b_X5_all_164, b_X5_all_166, q_isL_I, q_isL_R, q_isL_S, true_and, and_true, and_self, List.length_nil, List.length_cons, Nat.zero_add, x_K, x_Kn, Int.reduceToNat, Nat.reduceAdd, Nat.reduceMul, Nat.reduceLeDiff, Nat.reduceLT, Nat.zero_le, Int.reduceAdd, Int.reduceSub, Int.reduceMul, Int.reduceNeg, q_add_e, q_sub_e, q_mul_e, q_neg_e, q_upd_s, q_upd_n, zr_shr0, zr_shr1, zr_shr2, zr_shr3, zr_shr4, zr_and, zr_dyn8, zr_or, zr_shl, q_cpy_n, y_cpy26, hl9]
              exact nxt (x.1 + 1, x.2) _ rfl (by show 0 ≤ x.1 + 1; omega) (by show x.1 + 1 ≤ (k : Int) + 1; omega) rfl
          by_cases k5 : pe = true
          · by_cases k6 : F_cmp (q_Lk M2 39) (fun p b => F_takes1 f (fun q => q_Wn M2 39 q b) (M2 40 b) b (M2 39 5).toNat p) f (M2 39 5).toNat 0 < 0
            · have b2 := body (fun _ => k6)
              simp only [k5, if_true] at b2
              simp (disch := omega) only [b_X5_all_0, x_loadI_1, y_if_lt_t, y_if_lt_f, b_X5_all_4, x_iconst, y_ic_le_t, y_ic_le_f, b_X5_all_9, x_ret0, b_X5_all_12, x_loadR_0, x_loadS_0, f_5_4, f_5_3, f_4_0, x_storeR_2, x_loadR_2, x_loadS_2, y_ic_ge_t, y_ic_ge_f, b_X5_all_47, x_goto, b_X5_all_51, b_X5_all_52, x_storeI_3, x_storeI_4, x_storeI_5, x_storeI_6, x_storeI_7, x_storeI_8, x_loadI_7, y_if_eq_t, y_if_eq_f, b_X5_all_73, x_loadI_8, b_X5_all_81, b_X5_all_88, x_loadI_3, b_X5_all_92, y_if_ge_t, y_if_ge_f, x_storeI_9, x_loadI_4, b_X5_all_110, x_loadI_9, x_loadI_6, b_X5_all_117, b_X5_all_127, x_iinc_4, x_iinc_8, y_if_ne_t, y_if_ne_f, b_X5_all_146, b_X5_all_149, y_ic_eq_t, y_ic_eq_f, b_X5_all_154, y_ic_ne_t, y_ic_ne_f, b_X5_all_159, x_loadI_5, b_X5_all_164, b_X5_all_166, q_isL_I, q_isL_R, q_isL_S, true_and, and_true, and_self, List.length_nil, List.length_cons, Nat.zero_add, x_K, x_Kn, Int.reduceToNat, Nat.reduceAdd, Nat.reduceMul, Nat.reduceLeDiff, Nat.reduceLT, Nat.zero_le, Int.reduceAdd, Int.reduceSub, Int.reduceMul, Int.reduceNeg, q_add_e, q_sub_e, q_mul_e, q_neg_e, q_upd_s, q_upd_n, zr_shr0, zr_shr1, zr_shr2, zr_shr3, zr_shr4, zr_and, zr_dyn8, zr_or, zr_shl, q_cpy_n, y_cpy26, k1, k5, if_true, c_X0_complaint]
              refine comp _ _ _ _ ?_
              simp (disch := omega) only [b_X5_all_0, x_loadI_1, y_if_lt_t, y_if_lt_f, b_X5_all_4, x_iconst, y_ic_le_t, y_ic_le_f, b_X5_all_9, x_ret0, b_X5_all_12, x_loadR_0, x_loadS_0, f_5_4, f_5_3, f_4_0, x_storeR_2, x_loadR_2, x_loadS_2, y_ic_ge_t, y_ic_ge_f, b_X5_all_47, x_goto, b_X5_all_51, b_X5_all_52, x_storeI_3, x_storeI_4, x_storeI_5, x_storeI_6, x_storeI_7, x_storeI_8, x_loadI_7, y_if_eq_t, y_if_eq_f, b_X5_all_73, x_loadI_8, b_X5_all_81, b_X5_all_88, x_loadI_3, b_X5_all_92, y_if_ge_t, y_if_ge_f, x_storeI_9, x_loadI_4, b_X5_all_110, x_loadI_9, x_loadI_6, b_X5_all_117, b_X5_all_127, x_iinc_4, x_iinc_8, y_if_ne_t, y_if_ne_f, b_X5_all_146, b_X5_all_149, y_ic_eq_t, y_ic_eq_f, b_X5_all_154, y_ic_ne_t, y_ic_ne_f, b_X5_all_159, x_loadI_5, b_X5_all_164, b_X5_all_166, q_isL_I, q_isL_R, q_isL_S, true_and, and_true, and_self, List.length_nil, List.length_cons, Nat.zero_add, x_K, x_Kn, Int.reduceToNat, Nat.reduceAdd, Nat.reduceMul, Nat.reduceLeDiff, Nat.reduceLT, Nat.zero_le, Int.reduceAdd, Int.reduceSub, Int.reduceMul, Int.reduceNeg, q_add_e, q_sub_e, q_mul_e, q_neg_e, q_upd_s, q_upd_n, zr_shr0, zr_shr1, zr_shr2, zr_shr3, zr_shr4, zr_and, zr_dyn8, zr_or, zr_shl, q_cpy_n, y_cpy26]
              exact b2
            · rw [if_neg (fun z => k6 (z.2 k5))] at nxt
              have n9 := nxt x l9 hl9 hx0 (by omega) rfl
              simp only [k5, if_true] at n9
              simp (disch := omega) only [b_X5_all_0, x_loadI_1, y_if_lt_t, y_if_lt_f, b_X5_all_4, x_iconst, y_ic_le_t, y_ic_le_f, b_X5_all_9, x_ret0, b_X5_all_12, x_loadR_0, x_loadS_0, f_5_4, f_5_3, f_4_0, x_storeR_2, x_loadR_2, x_loadS_2, y_ic_ge_t, y_ic_ge_f, b_X5_all_47, x_goto, b_X5_all_51, b_X5_all_52, x_storeI_3, x_storeI_4, x_storeI_5, x_storeI_6, x_storeI_7, x_storeI_8, x_loadI_7, y_if_eq_t, y_if_eq_f, b_X5_all_73, x_loadI_8, b_X5_all_81, b_X5_all_88, x_loadI_3, b_X5_all_92, y_if_ge_t, y_if_ge_f, x_storeI_9, x_loadI_4, b_X5_all_110, x_loadI_9, x_loadI_6, b_X5_all_117, b_X5_all_127, x_iinc_4, x_iinc_8, y_if_ne_t, y_if_ne_f, b_X5_all_146, b_X5_all_149, y_ic_eq_t, y_ic_eq_f, b_X5_all_154, y_ic_ne_t, y_ic_ne_f, b_X5_all_159, x_loadI_5, b_X5_all_164, b_X5_all_166, q_isL_I, q_isL_R, q_isL_S, true_and, and_true, and_self, List.length_nil, List.length_cons, Nat.zero_add, x_K, x_Kn, Int.reduceToNat, Nat.reduceAdd, Nat.reduceMul, Nat.reduceLeDiff, Nat.reduceLT, Nat.zero_le, Int.reduceAdd, Int.reduceSub, Int.reduceMul, Int.reduceNeg, q_add_e, q_sub_e, q_mul_e, q_neg_e, q_upd_s, q_upd_n, zr_shr0, zr_shr1, zr_shr2, zr_shr3, zr_shr4, zr_and, zr_dyn8, zr_or, zr_shl, q_cpy_n, y_cpy26, k1, k5, if_true, c_X0_complaint]
              refine comp _ _ _ _ ?_
              simp (disch := omega) only [b_X5_all_0, x_loadI_1, y_if_lt_t, y_if_lt_f, b_X5_all_4, x_iconst, y_ic_le_t, y_ic_le_f, b_X5_all_9, x_ret0, b_X5_all_12, x_loadR_0, x_loadS_0, f_5_4, f_5_3, f_4_0, x_storeR_2, x_loadR_2, x_loadS_2, y_ic_ge_t, y_ic_ge_f, b_X5_all_47, x_goto, b_X5_all_51, b_X5_all_52, x_storeI_3, x_storeI_4, x_storeI_5, x_storeI_6, x_storeI_7, x_storeI_8, x_loadI_7, y_if_eq_t, y_if_eq_f, b_X5_all_73, x_loadI_8, b_X5_all_81, b_X5_all_88, x_loadI_3, b_X5_all_92, y_if_ge_t, y_if_ge_f, x_storeI_9, x_loadI_4, b_X5_all_110, x_loadI_9, x_loadI_6, b_X5_all_117, b_X5_all_127, x_iinc_4, x_iinc_8, y_if_ne_t, y_if_ne_f, b_X5_all_146, b_X5_all_149, y_ic_eq_t, y_ic_eq_f, b_X5_all_154, y_ic_ne_t, y_ic_ne_f, b_X5_all_159, x_loadI_5, b_X5_all_164, b_X5_all_166, q_isL_I, q_isL_R, q_isL_S, true_and, and_true, and_self, List.length_nil, List.length_cons, Nat.zero_add, x_K, x_Kn, Int.reduceToNat, Nat.reduceAdd, Nat.reduceMul, Nat.reduceLeDiff, Nat.reduceLT, Nat.zero_le, Int.reduceAdd, Int.reduceSub, Int.reduceMul, Int.reduceNeg, q_add_e, q_sub_e, q_mul_e, q_neg_e, q_upd_s, q_upd_n, zr_shr0, zr_shr1, zr_shr2, zr_shr3, zr_shr4, zr_and, zr_dyn8, zr_or, zr_shl, q_cpy_n, y_cpy26]
              exact n9
          · have b2 := body (fun z => absurd z k5)
            simp only [k5, Bool.false_eq_true, if_false] at b2
            simp (disch := omega) only [b_X5_all_0, x_loadI_1, y_if_lt_t, y_if_lt_f, b_X5_all_4, x_iconst, y_ic_le_t, y_ic_le_f, b_X5_all_9, x_ret0, b_X5_all_12, x_loadR_0, x_loadS_0, f_5_4, f_5_3, f_4_0, x_storeR_2, x_loadR_2, x_loadS_2, y_ic_ge_t, y_ic_ge_f, b_X5_all_47, x_goto, b_X5_all_51, b_X5_all_52, x_storeI_3, x_storeI_4, x_storeI_5, x_storeI_6, x_storeI_7, x_storeI_8, x_loadI_7, y_if_eq_t, y_if_eq_f, b_X5_all_73, x_loadI_8, b_X5_all_81, b_X5_all_88, x_loadI_3, b_X5_all_92, y_if_ge_t, y_if_ge_f, x_storeI_9, x_loadI_4, b_X5_all_110, x_loadI_9, x_loadI_6, b_X5_all_117, b_X5_all_127, x_iinc_4, x_iinc_8, y_if_ne_t, y_if_ne_f, b_X5_all_146, b_X5_all_149, y_ic_eq_t, y_ic_eq_f, b_X5_all_154, y_ic_ne_t, y_ic_ne_f, b_X5_all_159, x_loadI_5, b_X5_all_164, b_X5_all_166, q_isL_I, q_isL_R, q_isL_S, true_and, and_true, and_self, List.length_nil, List.length_cons, Nat.zero_add, x_K, x_Kn, Int.reduceToNat, Nat.reduceAdd, Nat.reduceMul, Nat.reduceLeDiff, Nat.reduceLT, Nat.zero_le, Int.reduceAdd, Int.reduceSub, Int.reduceMul, Int.reduceNeg, q_add_e, q_sub_e, q_mul_e, q_neg_e, q_upd_s, q_upd_n, zr_shr0, zr_shr1, zr_shr2, zr_shr3, zr_shr4, zr_and, zr_dyn8, zr_or, zr_shl, q_cpy_n, y_cpy26, k1, k5, if_true, Bool.false_eq_true, if_false]
            exact b2
        · rw [if_neg (fun z => k1 z.1)] at nxt
          have n9 := nxt x l9 hl9 hx0 (by omega) rfl
          simp (disch := omega) only [b_X5_all_0, x_loadI_1, y_if_lt_t, y_if_lt_f, b_X5_all_4, x_iconst, y_ic_le_t, y_ic_le_f, b_X5_all_9, x_ret0, b_X5_all_12, x_loadR_0, x_loadS_0, f_5_4, f_5_3, f_4_0, x_storeR_2, x_loadR_2, x_loadS_2, y_ic_ge_t, y_ic_ge_f, b_X5_all_47, x_goto, b_X5_all_51, b_X5_all_52, x_storeI_3, x_storeI_4, x_storeI_5, x_storeI_6, x_storeI_7, x_storeI_8, x_loadI_7, y_if_eq_t, y_if_eq_f, b_X5_all_73, x_loadI_8, b_X5_all_81, b_X5_all_88, x_loadI_3, b_X5_all_92, y_if_ge_t, y_if_ge_f, x_storeI_9, x_loadI_4, b_X5_all_110, x_loadI_9, x_loadI_6, b_X5_all_117, b_X5_all_127, x_iinc_4, x_iinc_8, y_if_ne_t, y_if_ne_f, b_X5_all_146, b_X5_all_149, y_ic_eq_t, y_ic_eq_f, b_X5_all_154, y_ic_ne_t, y_ic_ne_f, b_X5_all_159, x_loadI_5, b_X5_all_164, b_X5_all_166, q_isL_I, q_isL_R, q_isL_S, true_and, and_true, and_self, List.length_nil, List.length_cons, Nat.zero_add, x_K, x_Kn, Int.reduceToNat, Nat.reduceAdd, Nat.reduceMul, Nat.reduceLeDiff, Nat.reduceLT, Nat.zero_le, Int.reduceAdd, Int.reduceSub, Int.reduceMul, Int.reduceNeg, q_add_e, q_sub_e, q_mul_e, q_neg_e, q_upd_s, q_upd_n, zr_shr0, zr_shr1, zr_shr2, zr_shr3, zr_shr4, zr_and, zr_dyn8, zr_or, zr_shl, q_cpy_n, y_cpy26, k1, Bool.false_eq_true, if_false]
          exact n9
    exact loop 7776 0 rfl _ (0, -1, 0) 1 _ rfl (q_f0_b hin) hf0 (by show (0 : Int) ≤ 0; omega) (by show (0 : Int) ≤ ((0 : Nat) : Int); omega) rfl (fun M3 h3 => hq2 M3 h2 h3)
  have emp : ∀ (nx : Nat) (ops : List Instr) (ls st : List q_V), q_T 1 (d + 6) qP_X5_all nx ops ls st g (q_sM M2 41 (F_f0 (M2 41))) Q → q_S 1 (d + 5) 2 [qR 0 39] g M2 (q_K 1 (d + 6) qP_X5_all nx ops ls st Q) := fun nx ops ls st h => by
    rw [sp_emptyAll, e0]
    exact h
  by_cases k0 : wt < 3
  · have key1 := key true (decide_eq_true k0).symm
    simp (disch := omega) only [b_X5_all_0, x_loadI_1, y_if_lt_t, y_if_lt_f, b_X5_all_4, x_iconst, y_ic_le_t, y_ic_le_f, b_X5_all_9, x_ret0, b_X5_all_12, x_loadR_0, x_loadS_0, f_5_4, f_5_3, f_4_0, x_storeR_2, x_loadR_2, x_loadS_2, y_ic_ge_t, y_ic_ge_f, b_X5_all_47, x_goto, b_X5_all_51, b_X5_all_52, x_storeI_3, x_storeI_4, x_storeI_5, x_storeI_6, x_storeI_7, x_storeI_8, x_loadI_7, y_if_eq_t, y_if_eq_f, b_X5_all_73, x_loadI_8, b_X5_all_81, b_X5_all_88, x_loadI_3, b_X5_all_92, y_if_ge_t, y_if_ge_f, b_X5_all_99, x_storeI_9, x_loadI_4, b_X5_all_110, x_loadI_9, x_loadI_6, b_X5_all_117, b_X5_all_127, x_iinc_4, b_X5_all_130, x_iinc_8, b_X5_all_142, y_if_ne_t, y_if_ne_f, b_X5_all_146, b_X5_all_149, y_ic_eq_t, y_ic_eq_f, b_X5_all_154, y_ic_ne_t, y_ic_ne_f, b_X5_all_159, x_loadI_5, b_X5_all_164, b_X5_all_166, q_isL_I, q_isL_R, q_isL_S, true_and, and_true, and_self, List.length_nil, List.length_cons, Nat.zero_add, x_K, x_Kn, Int.reduceToNat, Nat.reduceAdd, Nat.reduceMul, Nat.reduceLeDiff, Nat.reduceLT, Nat.zero_le, Int.reduceAdd, Int.reduceSub, Int.reduceMul, Int.reduceNeg, q_add_e, q_sub_e, q_mul_e, q_neg_e, q_upd_s, q_upd_n, zr_shr0, zr_shr1, zr_shr2, zr_shr3, zr_shr4, zr_and, zr_dyn8, zr_or, zr_shl, q_cpy_n, y_cpy26, c_X0_emptyAll]
    refine emp _ _ _ _ ?_
    simp (disch := omega) only [b_X5_all_0, x_loadI_1, y_if_lt_t, y_if_lt_f, b_X5_all_4, x_iconst, y_ic_le_t, y_ic_le_f, b_X5_all_9, x_ret0, b_X5_all_12, x_loadR_0, x_loadS_0, f_5_4, f_5_3, f_4_0, x_storeR_2, x_loadR_2, x_loadS_2, y_ic_ge_t, y_ic_ge_f, b_X5_all_47, x_goto, b_X5_all_51, b_X5_all_52, x_storeI_3, x_storeI_4, x_storeI_5, x_storeI_6, x_storeI_7, x_storeI_8, x_loadI_7, y_if_eq_t, y_if_eq_f, b_X5_all_73, x_loadI_8, b_X5_all_81, b_X5_all_88, x_loadI_3, b_X5_all_92, y_if_ge_t, y_if_ge_f, b_X5_all_99, x_storeI_9, x_loadI_4, b_X5_all_110, x_loadI_9, x_loadI_6, b_X5_all_117, b_X5_all_127, x_iinc_4, b_X5_all_130, x_iinc_8, b_X5_all_142, y_if_ne_t, y_if_ne_f, b_X5_all_146, b_X5_all_149, y_ic_eq_t, y_ic_eq_f, b_X5_all_154, y_ic_ne_t, y_ic_ne_f, b_X5_all_159, x_loadI_5, b_X5_all_164, b_X5_all_166, q_isL_I, q_isL_R, q_isL_S, true_and, and_true, and_self, List.length_nil, List.length_cons, Nat.zero_add, x_K, x_Kn, Int.reduceToNat, Nat.reduceAdd, Nat.reduceMul, Nat.reduceLeDiff, Nat.reduceLT, Nat.zero_le, Int.reduceAdd, Int.reduceSub, Int.reduceMul, Int.reduceNeg, q_add_e, q_sub_e, q_mul_e, q_neg_e, q_upd_s, q_upd_n, zr_shr0, zr_shr1, zr_shr2, zr_shr3, zr_shr4, zr_and, zr_dyn8, zr_or, zr_shl, q_cpy_n, y_cpy26]
    exact key1
  · have key1 := key false (decide_eq_false k0).symm
    simp (disch := omega) only [b_X5_all_0, x_loadI_1, y_if_lt_t, y_if_lt_f, b_X5_all_4, x_iconst, y_ic_le_t, y_ic_le_f, b_X5_all_9, x_ret0, b_X5_all_12, x_loadR_0, x_loadS_0, f_5_4, f_5_3, f_4_0, x_storeR_2, x_loadR_2, x_loadS_2, y_ic_ge_t, y_ic_ge_f, b_X5_all_47, x_goto, b_X5_all_51, b_X5_all_52, x_storeI_3, x_storeI_4, x_storeI_5, x_storeI_6, x_storeI_7, x_storeI_8, x_loadI_7, y_if_eq_t, y_if_eq_f, b_X5_all_73, x_loadI_8, b_X5_all_81, b_X5_all_88, x_loadI_3, b_X5_all_92, y_if_ge_t, y_if_ge_f, b_X5_all_99, x_storeI_9, x_loadI_4, b_X5_all_110, x_loadI_9, x_loadI_6, b_X5_all_117, b_X5_all_127, x_iinc_4, b_X5_all_130, x_iinc_8, b_X5_all_142, y_if_ne_t, y_if_ne_f, b_X5_all_146, b_X5_all_149, y_ic_eq_t, y_ic_eq_f, b_X5_all_154, y_ic_ne_t, y_ic_ne_f, b_X5_all_159, x_loadI_5, b_X5_all_164, b_X5_all_166, q_isL_I, q_isL_R, q_isL_S, true_and, and_true, and_self, List.length_nil, List.length_cons, Nat.zero_add, x_K, x_Kn, Int.reduceToNat, Nat.reduceAdd, Nat.reduceMul, Nat.reduceLeDiff, Nat.reduceLT, Nat.zero_le, Int.reduceAdd, Int.reduceSub, Int.reduceMul, Int.reduceNeg, q_add_e, q_sub_e, q_mul_e, q_neg_e, q_upd_s, q_upd_n, zr_shr0, zr_shr1, zr_shr2, zr_shr3, zr_shr4, zr_and, zr_dyn8, zr_or, zr_shl, q_cpy_n, y_cpy26, c_X0_emptyAll]
    refine emp _ _ _ _ ?_
    simp (disch := omega) only [b_X5_all_0, x_loadI_1, y_if_lt_t, y_if_lt_f, b_X5_all_4, x_iconst, y_ic_le_t, y_ic_le_f, b_X5_all_9, x_ret0, b_X5_all_12, x_loadR_0, x_loadS_0, f_5_4, f_5_3, f_4_0, x_storeR_2, x_loadR_2, x_loadS_2, y_ic_ge_t, y_ic_ge_f, b_X5_all_47, x_goto, b_X5_all_51, b_X5_all_52, x_storeI_3, x_storeI_4, x_storeI_5, x_storeI_6, x_storeI_7, x_storeI_8, x_loadI_7, y_if_eq_t, y_if_eq_f, b_X5_all_73, x_loadI_8, b_X5_all_81, b_X5_all_88, x_loadI_3, b_X5_all_92, y_if_ge_t, y_if_ge_f, b_X5_all_99, x_storeI_9, x_loadI_4, b_X5_all_110, x_loadI_9, x_loadI_6, b_X5_all_117, b_X5_all_127, x_iinc_4, b_X5_all_130, x_iinc_8, b_X5_all_142, y_if_ne_t, y_if_ne_f, b_X5_all_146, b_X5_all_149, y_ic_eq_t, y_ic_eq_f, b_X5_all_154, y_ic_ne_t, y_ic_ne_f, b_X5_all_159, x_loadI_5, b_X5_all_164, b_X5_all_166, q_isL_I, q_isL_R, q_isL_S, true_and, and_true, and_self, List.length_nil, List.length_cons, Nat.zero_add, x_K, x_Kn, Int.reduceToNat, Nat.reduceAdd, Nat.reduceMul, Nat.reduceLeDiff, Nat.reduceLT, Nat.zero_le, Int.reduceAdd, Int.reduceSub, Int.reduceMul, Int.reduceNeg, q_add_e, q_sub_e, q_mul_e, q_neg_e, q_upd_s, q_upd_n, zr_shr0, zr_shr1, zr_shr2, zr_shr3, zr_shr4, zr_and, zr_dyn8, zr_or, zr_shl, q_cpy_n, y_cpy26]
    exact key1
end
section
/-! THE CLASS'S ENTRIES: annex -/
theorem q_cM_up {M : q_M} {c a i : Nat} {v : Int} {x : (Nat → Int) × (Nat → Int)} (h : a ≠ c + 2) (h2 : a ≠ c + 17) : q_upd (q_cM M c x) a i v = q_cM (q_upd M a i v) c x := by
  funext b j
  by_cases e : b = a ∧ j = i
  · obtain ⟨rfl, rfl⟩ := e
    rw [q_upd_s, q_cM_n h h2, q_upd_s]
  · rw [q_upd_n (by omega)]
    unfold q_cM
    by_cases k1 : b = c + 2
    · rw [if_pos k1, if_pos k1]
    · rw [if_neg k1, if_neg k1]
      by_cases k2 : b = c + 17
      · rw [if_pos k2, if_pos k2]
      · rw [if_neg k2, if_neg k2, q_upd_n (by omega)]
theorem q_upd_bk {M : q_M} {a i : Nat} {u v : Int} (h : M a i = v) : q_upd (q_upd M a i u) a i v = M := by
  funext b j
  by_cases e : b = a ∧ j = i
  · obtain ⟨rfl, rfl⟩ := e
    rw [q_upd_s, h]
  · rw [q_upd_n (by omega), q_upd_n (by omega)]
/-- one asking in turn more, with room for one more in building b -/
def F_anX (L W : Nat → Nat → Int) (R : Nat → Int) (n b : Nat) (x : (Nat → Int) × (Nat → Int)) : (Nat → Int) × (Nat → Int) := F_turn L W (F_u R b (R b + 1)) n 1000 (F_fr x)
def F_an (L W : Nat → Nat → Int) (R : Nat → Int) (n : Nat) (x : (Nat → Int) × (Nat → Int)) : Nat → (Int × Int) × ((Nat → Int) × (Nat → Int))
  | 0 => ((-1, 0), x)
  | b + 1 => (if (F_an L W R n x b).1.1 = -1 ∨ (F_an L W R n x b).1.2 < F_sum L (F_anX L W R n b (F_an L W R n x b).2).1 n then ((b : Int), F_sum L (F_anX L W R n b (F_an L W R n x b).2).1 n) else (F_an L W R n x b).1, F_anX L W R n b (F_an L W R n x b).2)
theorem F_an_b {L W : Nat → Nat → Int} {R : Nat → Int} {n : Nat} {x : (Nat → Int) × (Nat → Int)} (h : q_f5 x.1) : ∀ b : Nat, q_f5 (F_an L W R n x b).2.1
  | 0 => h
  | b + 1 => by
    rw [F_an]
    exact F_turn_b 1000 _ (F_fr_b (F_an_b h b))
/-- what lies behind the fifth place stays -/
def q_hi (x y : (Nat → Int) × (Nat → Int)) : Prop := ∀ i, 5 ≤ i → y.1 i = x.1 i ∧ y.2 i = x.2 i
theorem q_hi_tr {x y z : (Nat → Int) × (Nat → Int)} (h : q_hi x y) (h2 : q_hi y z) : q_hi x z := fun i hi => ⟨(h2 i hi).1.trans (h i hi).1, (h2 i hi).2.trans (h i hi).2⟩
theorem q_hi_u1 {x y : (Nat → Int) × (Nat → Int)} {p : Nat} {v : Int} (hp : p < 5) (h : q_hi x y) : q_hi x (F_u y.1 p v, y.2) := fun i hi => ⟨(if_neg (by omega)).trans (h i hi).1, (h i hi).2⟩
theorem q_hi_u2 {x y : (Nat → Int) × (Nat → Int)} {p : Nat} {v : Int} (hp : p < 5) (h : q_hi x y) : q_hi x (y.1, F_u y.2 p v) := fun i hi => ⟨(h i hi).1, (if_neg (by omega)).trans (h i hi).2⟩
theorem F_ask_hi {W : Nat → Nat → Int} {R : Nat → Int} {n p b : Nat} {x : (Nat → Int) × (Nat → Int)} (hp : p < 5) (hn : n ≤ 5) : q_hi x (F_ask W R n p b x) := by
  have h0 : q_hi x x := fun _ _ => ⟨rfl, rfl⟩
  have ho : F_askO W R n b x.1 = 5 ∨ F_askO W R n b x.1 < 5 := by
    unfold F_askO F_cast
    split
    · exact Or.inl rfl
    · rcases F_last_1 x.1 (fun q => W q b) b n with h | h
      · exact Or.inr (by omega)
      · exact Or.inl h
  unfold F_ask
  split
  · split
    · exact q_hi_u1 hp h0
    · next c =>
      exact q_hi_u2 (y := (F_u (F_u x.1 (F_askO W R n b x.1) 5) p b, x.2)) (by omega) (q_hi_u1 (y := (F_u x.1 (F_askO W R n b x.1) 5, x.2)) hp (q_hi_u1 (by omega) h0))
  · exact q_hi_u2 hp h0
theorem F_rd_hi {L W : Nat → Nat → Int} {R : Nat → Int} {n : Nat} {x : (Nat → Int) × (Nat → Int)} (hn : n ≤ 5) : ∀ p : Nat, p ≤ 5 → q_hi x (F_rd L W R n x p).2
  | 0, _ => fun _ _ => ⟨rfl, rfl⟩
  | p + 1, hp => by
    have h1 := F_rd_hi (L := L) (W := W) (R := R) (x := x) hn p (by omega)
    rw [F_rd]
    split
    · exact q_hi_tr h1 (F_ask_hi (by omega) hn)
    · exact h1
theorem F_turn_hi {L W : Nat → Nat → Int} {R : Nat → Int} {n : Nat} (hn : n ≤ 5) : ∀ (k : Nat) (x : (Nat → Int) × (Nat → Int)), q_hi x (F_turn L W R n k x)
  | 0, _ => fun _ _ => ⟨rfl, rfl⟩
  | k + 1, x => by
    rw [F_turn]
    split
    · exact q_hi_tr (F_rd_hi hn n hn) (F_turn_hi hn k _)
    · exact F_rd_hi hn n hn
theorem F_fr_hi {x : (Nat → Int) × (Nat → Int)} : q_hi x (F_fr x) := by
  intro i hi
  unfold F_fr F_u
  simp only
  rw [if_neg (by omega), if_neg (by omega), if_neg (by omega), if_neg (by omega), if_neg (by omega), if_neg (by omega), if_neg (by omega), if_neg (by omega), if_neg (by omega), if_neg (by omega)]
  exact ⟨rfl, rfl⟩
theorem F_an_hi {L W : Nat → Nat → Int} {R : Nat → Int} {n : Nat} {x : (Nat → Int) × (Nat → Int)} (hn : n ≤ 5) : ∀ b : Nat, q_hi x (F_an L W R n x b).2
  | 0 => fun _ _ => ⟨rfl, rfl⟩
  | b + 1 => by
    rw [F_an]
    exact q_hi_tr (q_hi_tr (F_an_hi hn b) F_fr_hi) (F_turn_hi hn 1000 _)
theorem q_tq_cM {M M2 : q_M} {x : (Nat → Int) × (Nat → Int)} (h : q_tq M M2) (hx : q_hi (M2 41, M2 56) x) : q_tq M (q_cM M2 39 x) := by
  intro a i h1 h2 h3 h4
  unfold q_cM
  by_cases c : a = 39 + 2
  · rw [if_pos c, (hx i (by omega)).1, c]
    exact h 41 i (by omega) (by omega) (by omega) (by omega)
  · rw [if_neg c]
    by_cases c2 : a = 39 + 17
    · rw [if_pos c2, (hx i (by omega)).2, c2]
      exact h 56 i (by omega) (by omega) (by omega) (by omega)
    · rw [if_neg c2]
      exact h a i h1 h2 h3 h4
def A_annex (L W : Nat → Nat → Int) (R : Nat → Int) (n : Nat) (x : (Nat → Int) × (Nat → Int)) (wt : Int) : Int := if wt = 0 then (F_an L W R n x 5).1.1 else (F_an L W R n x 5).1.2
theorem sp_annexF {d : Nat} {g : q_G} {M : q_M} {wt : Int} {Q : Option q_V → q_G → q_M → Prop} (h : wt < 0 ∨ 1 < wt) (hq : Q (some (qI (-100000))) g M) : q_S 1 d 80 [qR 5 0, qI wt] g M Q := by
  rw [s_X5_annex]
  rcases h with h | h
  · simp (disch := omega) only [b_X5_annex_0, x_loadI_1, y_if_lt_t, y_if_lt_f, b_X5_annex_4, x_iconst, y_ic_le_t, y_ic_le_f, b_X5_annex_9, x_ret0, b_X5_annex_12, x_loadR_0, x_loadS_0, f_5_4, f_5_3, x_storeI_2, x_storeI_3, x_storeI_4, x_loadI_4, y_ic_ge_t, y_ic_ge_f, b_X5_annex_43, f_4_0, f_0_0, x_dup2, y_iald_26, x_iadd, y_iast_26, x_isub, x_storeI_5, x_loadI_2, y_ic_eq_t, y_ic_eq_f, b_X5_annex_104, x_loadI_5, x_loadI_3, b_X5_annex_110, b_X5_annex_116, x_iinc_4, x_goto, b_X5_annex_122, y_if_ne_t, y_if_ne_f, b_X5_annex_126, b_X5_annex_130, b_X5_annex_131, q_isL_I, q_isL_R, q_isL_S, true_and, and_true, and_self, List.length_nil, List.length_cons, Nat.zero_add, x_K, x_Kn, Int.reduceToNat, Nat.reduceAdd, Nat.reduceMul, Nat.reduceLeDiff, Nat.reduceLT, Nat.zero_le, Int.reduceAdd, Int.reduceSub, Int.reduceMul, Int.reduceNeg, q_add_e, q_sub_e, q_mul_e, q_neg_e, q_upd_s, q_upd_n, zr_shr0, zr_shr1, zr_shr2, zr_shr3, zr_shr4, zr_and, zr_dyn8, zr_or, zr_shl, q_cpy_n, y_cpy26]
    exact hq
  · simp (disch := omega) only [b_X5_annex_0, x_loadI_1, y_if_lt_t, y_if_lt_f, b_X5_annex_4, x_iconst, y_ic_le_t, y_ic_le_f, b_X5_annex_9, x_ret0, b_X5_annex_12, x_loadR_0, x_loadS_0, f_5_4, f_5_3, x_storeI_2, x_storeI_3, x_storeI_4, x_loadI_4, y_ic_ge_t, y_ic_ge_f, b_X5_annex_43, f_4_0, f_0_0, x_dup2, y_iald_26, x_iadd, y_iast_26, x_isub, x_storeI_5, x_loadI_2, y_ic_eq_t, y_ic_eq_f, b_X5_annex_104, x_loadI_5, x_loadI_3, b_X5_annex_110, b_X5_annex_116, x_iinc_4, x_goto, b_X5_annex_122, y_if_ne_t, y_if_ne_f, b_X5_annex_126, b_X5_annex_130, b_X5_annex_131, q_isL_I, q_isL_R, q_isL_S, true_and, and_true, and_self, List.length_nil, List.length_cons, Nat.zero_add, x_K, x_Kn, Int.reduceToNat, Nat.reduceAdd, Nat.reduceMul, Nat.reduceLeDiff, Nat.reduceLT, Nat.zero_le, Int.reduceAdd, Int.reduceSub, Int.reduceMul, Int.reduceNeg, q_add_e, q_sub_e, q_mul_e, q_neg_e, q_upd_s, q_upd_n, zr_shr0, zr_shr1, zr_shr2, zr_shr3, zr_shr4, zr_and, zr_dyn8, zr_or, zr_shl, q_cpy_n, y_cpy26]
    exact hq
set_option maxHeartbeats 8000000 in
theorem sp_annex {V : Nat → (Nat → Int) → Int} {d : Nat} {g : q_G} {M : q_M} {ta : Nat} {wt : Int} {Q : Option q_V → q_G → q_M → Prop} (C : q_ci V M ta) (hwt : 0 ≤ wt ∧ wt ≤ 1) (hq : ∀ M2 M3 : q_M, q_td V M M2 ta → q_tq M M3 → Q (some (qI (A_annex (q_Lk M2 39) (q_Wn M2 39) (M2 40) (M2 39 5).toNat (M2 41, M2 56) wt))) g M3) : q_S 1 (d + 6) 80 [qR 5 0, qI wt] g M Q := by
  have h12 := q_ci_n C
  rw [s_X5_annex]
  simp (disch := omega) only [b_X5_annex_0, x_loadI_1, y_if_lt_t, y_if_lt_f, b_X5_annex_4, x_iconst, y_ic_le_t, y_ic_le_f, b_X5_annex_9, x_ret0, b_X5_annex_12, x_loadR_0, x_loadS_0, f_5_4, f_5_3, x_storeI_2, x_storeI_3, x_storeI_4, x_loadI_4, y_ic_ge_t, y_ic_ge_f, b_X5_annex_43, f_4_0, f_0_0, x_dup2, y_iald_26, x_iadd, y_iast_26, x_isub, x_storeI_5, x_loadI_2, y_ic_eq_t, y_ic_eq_f, b_X5_annex_104, x_loadI_5, x_loadI_3, b_X5_annex_110, b_X5_annex_116, x_iinc_4, x_goto, b_X5_annex_122, y_if_ne_t, y_if_ne_f, b_X5_annex_126, b_X5_annex_130, b_X5_annex_131, q_isL_I, q_isL_R, q_isL_S, true_and, and_true, and_self, List.length_nil, List.length_cons, Nat.zero_add, x_K, x_Kn, Int.reduceToNat, Nat.reduceAdd, Nat.reduceMul, Nat.reduceLeDiff, Nat.reduceLT, Nat.zero_le, Int.reduceAdd, Int.reduceSub, Int.reduceMul, Int.reduceNeg, q_add_e, q_sub_e, q_mul_e, q_neg_e, q_upd_s, q_upd_n, zr_shr0, zr_shr1, zr_shr2, zr_shr3, zr_shr4, zr_and, zr_dyn8, zr_or, zr_shl, q_cpy_n, y_cpy26, c_X4_copyFrom]
  refine sp_think C q_tq_rf (fun M1 h1 => ?_)
  simp (disch := omega) only [b_X5_annex_0, x_loadI_1, y_if_lt_t, y_if_lt_f, b_X5_annex_4, x_iconst, y_ic_le_t, y_ic_le_f, b_X5_annex_9, x_ret0, b_X5_annex_12, x_loadR_0, x_loadS_0, f_5_4, f_5_3, x_storeI_2, x_storeI_3, x_storeI_4, x_loadI_4, y_ic_ge_t, y_ic_ge_f, b_X5_annex_43, f_4_0, f_0_0, x_dup2, y_iald_26, x_iadd, y_iast_26, x_isub, x_storeI_5, x_loadI_2, y_ic_eq_t, y_ic_eq_f, b_X5_annex_104, x_loadI_5, x_loadI_3, b_X5_annex_110, b_X5_annex_116, x_iinc_4, x_goto, b_X5_annex_122, y_if_ne_t, y_if_ne_f, b_X5_annex_126, b_X5_annex_130, b_X5_annex_131, q_isL_I, q_isL_R, q_isL_S, true_and, and_true, and_self, List.length_nil, List.length_cons, Nat.zero_add, x_K, x_Kn, Int.reduceToNat, Nat.reduceAdd, Nat.reduceMul, Nat.reduceLeDiff, Nat.reduceLT, Nat.zero_le, Int.reduceAdd, Int.reduceSub, Int.reduceMul, Int.reduceNeg, q_add_e, q_sub_e, q_mul_e, q_neg_e, q_upd_s, q_upd_n, zr_shr0, zr_shr1, zr_shr2, zr_shr3, zr_shr4, zr_and, zr_dyn8, zr_or, zr_shl, q_cpy_n, y_cpy26, c_X4_tellAll]
  refine sp_tellT C h1 (fun M2 h2 => ?_)
  have hq2 := fun M3 => hq M2 M3 h2
  obtain ⟨w2, c2, z2, n2, f2, td2, bL, bW⟩ := h2
  have n0 : 0 ≤ M2 39 5 := w2.1.1.1
  have n5 : M2 39 5 ≤ 5 := w2.1.1.2
  have hin : q_f5 (M2 41) := w2.1.2.2.2.2.2.2.1
  have hrm : ∀ b, 0 ≤ M2 40 b ∧ M2 40 b ≤ 6 := w2.1.2.2.2.2.2.2.2.2.1
  have hfb := F_an_b (L := q_Lk M2 39) (W := q_Wn M2 39) (R := M2 40) (n := (M2 39 5).toNat) (x := (M2 41, M2 56)) hin
  have hfh := F_an_hi (L := q_Lk M2 39) (W := q_Wn M2 39) (R := M2 40) (n := (M2 39 5).toNat) (x := (M2 41, M2 56)) (by omega)
  simp (disch := omega) only [b_X5_annex_0, x_loadI_1, y_if_lt_t, y_if_lt_f, b_X5_annex_4, x_iconst, y_ic_le_t, y_ic_le_f, b_X5_annex_9, x_ret0, b_X5_annex_12, x_loadR_0, x_loadS_0, f_5_4, f_5_3, x_storeI_2, x_storeI_3, x_storeI_4, x_loadI_4, y_ic_ge_t, y_ic_ge_f, b_X5_annex_43, f_4_0, f_0_0, x_dup2, y_iald_26, x_iadd, y_iast_26, x_isub, x_storeI_5, x_loadI_2, y_ic_eq_t, y_ic_eq_f, b_X5_annex_104, x_loadI_5, x_loadI_3, b_X5_annex_110, b_X5_annex_116, x_iinc_4, x_goto, b_X5_annex_122, y_if_ne_t, y_if_ne_f, b_X5_annex_126, b_X5_annex_130, b_X5_annex_131, q_isL_I, q_isL_R, q_isL_S, true_and, and_true, and_self, List.length_nil, List.length_cons, Nat.zero_add, x_K, x_Kn, Int.reduceToNat, Nat.reduceAdd, Nat.reduceMul, Nat.reduceLeDiff, Nat.reduceLT, Nat.zero_le, Int.reduceAdd, Int.reduceSub, Int.reduceMul, Int.reduceNeg, q_add_e, q_sub_e, q_mul_e, q_neg_e, q_upd_s, q_upd_n, zr_shr0, zr_shr1, zr_shr2, zr_shr3, zr_shr4, zr_and, zr_dyn8, zr_or, zr_shl, q_cpy_n, y_cpy26]
  have loop : ∀ j b : Nat, b + j = 5 → ∀ l5 : q_V, q_isL l5 = false → q_T 1 (d + 6) qP_X5_annex 37 [] [qR 5 0, qI wt, qI (F_an (q_Lk M2 39) (q_Wn M2 39) (M2 40) (M2 39 5).toNat (M2 41, M2 56) b).1.1, qI (F_an (q_Lk M2 39) (q_Wn M2 39) (M2 40) (M2 39 5).toNat (M2 41, M2 56) b).1.2, qI b, l5] [] g (q_cM M2 39 (F_an (q_Lk M2 39) (q_Wn M2 39) (M2 40) (M2 39 5).toNat (M2 41, M2 56) b).2) Q := by
    intro j
    induction j with
    | zero =>
      intro b hb l5 hl5
      have e : b = 5 := by omega
      subst e
      have q3 := hq2 (q_cM M2 39 (F_an (q_Lk M2 39) (q_Wn M2 39) (M2 40) (M2 39 5).toNat (M2 41, M2 56) 5).2) (q_tq_cM f2 (hfh 5))
      unfold A_annex at q3
      rw [b_X5_annex_37]
      rcases (show wt = 0 ∨ wt = 1 by omega) with k | k
      · rw [if_pos k] at q3
        simp (disch := omega) only [b_X5_annex_0, x_loadI_1, y_if_lt_t, y_if_lt_f, b_X5_annex_4, x_iconst, y_ic_le_t, y_ic_le_f, b_X5_annex_9, x_ret0, b_X5_annex_12, x_loadR_0, x_loadS_0, f_5_4, f_5_3, x_storeI_2, x_storeI_3, x_storeI_4, x_loadI_4, y_ic_ge_t, y_ic_ge_f, b_X5_annex_43, f_4_0, f_0_0, x_dup2, y_iald_26, x_iadd, y_iast_26, x_isub, x_storeI_5, x_loadI_2, y_ic_eq_t, y_ic_eq_f, b_X5_annex_104, x_loadI_5, x_loadI_3, b_X5_annex_110, b_X5_annex_116, x_iinc_4, x_goto, b_X5_annex_122, y_if_ne_t, y_if_ne_f, b_X5_annex_126, b_X5_annex_130, b_X5_annex_131, q_isL_I, q_isL_R, q_isL_S, true_and, and_true, and_self, List.length_nil, List.length_cons, Nat.zero_add, x_K, x_Kn, Int.reduceToNat, Nat.reduceAdd, Nat.reduceMul, Nat.reduceLeDiff, Nat.reduceLT, Nat.zero_le, Int.reduceAdd, Int.reduceSub, Int.reduceMul, Int.reduceNeg, q_add_e, q_sub_e, q_mul_e, q_neg_e, q_upd_s, q_upd_n, zr_shr0, zr_shr1, zr_shr2, zr_shr3, zr_shr4, zr_and, zr_dyn8, zr_or, zr_shl, q_cpy_n, y_cpy26]
        exact q3
      · rw [if_neg (by omega)] at q3
        simp (disch := omega) only [b_X5_annex_0, x_loadI_1, y_if_lt_t, y_if_lt_f, b_X5_annex_4, x_iconst, y_ic_le_t, y_ic_le_f, b_X5_annex_9, x_ret0, b_X5_annex_12, x_loadR_0, x_loadS_0, f_5_4, f_5_3, x_storeI_2, x_storeI_3, x_storeI_4, x_loadI_4, y_ic_ge_t, y_ic_ge_f, b_X5_annex_43, f_4_0, f_0_0, x_dup2, y_iald_26, x_iadd, y_iast_26, x_isub, x_storeI_5, x_loadI_2, y_ic_eq_t, y_ic_eq_f, b_X5_annex_104, x_loadI_5, x_loadI_3, b_X5_annex_110, b_X5_annex_116, x_iinc_4, x_goto, b_X5_annex_122, y_if_ne_t, y_if_ne_f, b_X5_annex_126, b_X5_annex_130, b_X5_annex_131, q_isL_I, q_isL_R, q_isL_S, true_and, and_true, and_self, List.length_nil, List.length_cons, Nat.zero_add, x_K, x_Kn, Int.reduceToNat, Nat.reduceAdd, Nat.reduceMul, Nat.reduceLeDiff, Nat.reduceLT, Nat.zero_le, Int.reduceAdd, Int.reduceSub, Int.reduceMul, Int.reduceNeg, q_add_e, q_sub_e, q_mul_e, q_neg_e, q_upd_s, q_upd_n, zr_shr0, zr_shr1, zr_shr2, zr_shr3, zr_shr4, zr_and, zr_dyn8, zr_or, zr_shl, q_cpy_n, y_cpy26]
        exact q3
    | succ j ih =>
      intro b hb l5 hl5
      have ih2 := ih (b + 1) (by omega)
      have hfb1 := hfb (b + 1)
      rw [F_an] at ih2 hfb1
      generalize F_an (q_Lk M2 39) (q_Wn M2 39) (M2 40) (M2 39 5).toNat (M2 41, M2 56) b = Y at ih2 hfb1 ⊢
      have hR := hrm b
      have r1 : q_cM M2 39 Y.2 40 b = M2 40 b := q_cM_n (by omega) (by omega)
      have u1 : ∀ v, q_upd (q_cM M2 39 Y.2) 40 b v = q_cM (q_upd M2 40 b v) 39 Y.2 := fun v => q_cM_up (by omega) (by omega)
      have eR : q_upd M2 40 b (M2 40 b + 1) 40 = F_u (M2 40) b (M2 40 b + 1) := by
        funext i
        unfold F_u
        by_cases k : i = b
        · rw [if_pos k, k, q_upd_s]
        · rw [if_neg k, q_upd_n (by omega)]
      have eL : q_Lk (q_upd M2 40 b (M2 40 b + 1)) 39 = q_Lk M2 39 := by
        funext p i
        exact q_upd_n (by omega)
      have eW : q_Wn (q_upd M2 40 b (M2 40 b + 1)) 39 = q_Wn M2 39 := by
        funext p i
        exact q_upd_n (by omega)
      have e5 : q_upd M2 40 b (M2 40 b + 1) 39 5 = M2 39 5 := q_upd_n (by omega)
      have turn : ∀ (nx : Nat) (ops : List Instr) (ls st : List q_V), q_T 1 (d + 6) qP_X5_annex nx ops ls st g (q_cM (q_upd M2 40 b (M2 40 b + 1)) 39 (F_anX (q_Lk M2 39) (q_Wn M2 39) (M2 40) (M2 39 5).toNat b Y.2)) Q → q_S 1 (d + 5) 15 [qR 0 39] g (q_cM (q_upd M2 40 b (M2 40 b + 1)) 39 Y.2) (q_K 1 (d + 6) qP_X5_annex nx ops ls st Q) := fun nx ops ls st h => sp_askInTurn (by rw [e5]; exact n0) (by rw [e5]; exact n5) (fun p hp => (q_upd_n (by omega)).trans (z2.1 p hp)) (by rw [eL, eW, eR, e5]; exact h)
      rw [b_X5_annex_37]
      simp (disch := omega) only [b_X5_annex_0, x_loadI_1, y_if_lt_t, y_if_lt_f, b_X5_annex_4, x_iconst, y_ic_le_t, y_ic_le_f, b_X5_annex_9, x_ret0, b_X5_annex_12, x_loadR_0, x_loadS_0, f_5_4, f_5_3, x_storeI_2, x_storeI_3, x_storeI_4, x_loadI_4, y_ic_ge_t, y_ic_ge_f, b_X5_annex_43, f_4_0, f_0_0, x_dup2, y_iald_26, x_iadd, y_iast_26, x_isub, x_storeI_5, x_loadI_2, y_ic_eq_t, y_ic_eq_f, b_X5_annex_104, x_loadI_5, x_loadI_3, b_X5_annex_110, b_X5_annex_116, x_iinc_4, x_goto, b_X5_annex_122, y_if_ne_t, y_if_ne_f, b_X5_annex_126, b_X5_annex_130, b_X5_annex_131, q_isL_I, q_isL_R, q_isL_S, true_and, and_true, and_self, List.length_nil, List.length_cons, Nat.zero_add, x_K, x_Kn, Int.reduceToNat, Nat.reduceAdd, Nat.reduceMul, Nat.reduceLeDiff, Nat.reduceLT, Nat.zero_le, Int.reduceAdd, Int.reduceSub, Int.reduceMul, Int.reduceNeg, q_add_e, q_sub_e, q_mul_e, q_neg_e, q_upd_s, q_upd_n, zr_shr0, zr_shr1, zr_shr2, zr_shr3, zr_shr4, zr_and, zr_dyn8, zr_or, zr_shl, q_cpy_n, y_cpy26, Int.toNat_natCast, r1, u1, c_X0_askInTurn]
      refine turn _ _ _ _ ?_
      unfold F_anX at hfb1
      unfold F_anX at ih2
      unfold F_anX
      generalize F_turn (q_Lk M2 39) (q_Wn M2 39) (F_u (M2 40) b (M2 40 b + 1)) (M2 39 5).toNat 1000 (F_fr Y.2) = X at hfb1 ih2 ⊢
      have r2 : q_cM (q_upd M2 40 b (M2 40 b + 1)) 39 X 40 b = M2 40 b + 1 := (q_cM_n (by omega) (by omega)).trans q_upd_s
      have r3 : M2 40 b + 1 - 1 = M2 40 b := by omega
      have u2 : q_upd (q_cM (q_upd M2 40 b (M2 40 b + 1)) 39 X) 40 b (M2 40 b) = q_cM M2 39 X := by rw [q_cM_up (by omega) (by omega), q_upd_bk rfl]
      have m5 : q_cM M2 39 X 39 5 = M2 39 5 := q_cM_n (by omega) (by omega)
      have min5 : ∀ i, 0 ≤ q_cM M2 39 X (39 + 2) i ∧ q_cM M2 39 X (39 + 2) i ≤ 5 := fun i => by rw [q_cM_f]; exact hfb1 i
      have mL : ∀ p b, p < (q_cM M2 39 X 39 5).toNat → b < 6 → -1000 ≤ q_cM M2 39 X (39 + 3 + (1 + p)) b ∧ q_cM M2 39 X (39 + 3 + (1 + p)) b ≤ 1000 := fun p b q1 q2 => by
        rw [m5] at q1
        rw [q_cM_n (by omega) (by omega)]
        exact bL p b q1 q2
      have mL2 : F_sum (fun p => q_cM M2 39 X (39 + 3 + (1 + p))) (q_cM M2 39 X (39 + 2)) (q_cM M2 39 X 39 5).toNat = F_sum (q_Lk M2 39) X.1 (M2 39 5).toNat := by
        rw [m5, show q_cM M2 39 X (39 + 2) = X.1 from funext (fun i => q_cM_f)]
        have go : ∀ n : Nat, n ≤ 5 → F_sum (fun p => q_cM M2 39 X (39 + 3 + (1 + p))) X.1 n = F_sum (q_Lk M2 39) X.1 n := by
          intro n
          induction n with
          | zero => intro _; rfl
          | succ n ihn =>
            intro hn
            rw [F_sum, F_sum, ihn (by omega), q_cM_n (by omega) (by omega)]
            rfl
        exact go _ (by omega)
      have liked : ∀ (nx : Nat) (ops : List Instr) (ls st : List q_V), q_T 1 (d + 6) qP_X5_annex nx ops ls (qI (F_sum (q_Lk M2 39) X.1 (M2 39 5).toNat) :: st) g (q_cM M2 39 X) Q → q_S 1 (d + 5) 7 [qR 0 39] g (q_cM M2 39 X) (q_K 1 (d + 6) qP_X5_annex nx ops ls st Q) := fun nx ops ls st h => by
        rw [sp_liked2 (by rw [m5]; exact n0) (by rw [m5]; exact n5) min5 mL, mL2]
        exact h
      simp (disch := omega) only [b_X5_annex_0, x_loadI_1, y_if_lt_t, y_if_lt_f, b_X5_annex_4, x_iconst, y_ic_le_t, y_ic_le_f, b_X5_annex_9, x_ret0, b_X5_annex_12, x_loadR_0, x_loadS_0, f_5_4, f_5_3, x_storeI_2, x_storeI_3, x_storeI_4, x_loadI_4, y_ic_ge_t, y_ic_ge_f, b_X5_annex_43, f_4_0, f_0_0, x_dup2, y_iald_26, x_iadd, y_iast_26, x_isub, x_storeI_5, x_loadI_2, y_ic_eq_t, y_ic_eq_f, b_X5_annex_104, x_loadI_5, x_loadI_3, b_X5_annex_110, b_X5_annex_116, x_iinc_4, x_goto, b_X5_annex_122, y_if_ne_t, y_if_ne_f, b_X5_annex_126, b_X5_annex_130, b_X5_annex_131, q_isL_I, q_isL_R, q_isL_S, true_and, and_true, and_self, List.length_nil, List.length_cons, Nat.zero_add, x_K, x_Kn, Int.reduceToNat, Nat.reduceAdd, Nat.reduceMul, Nat.reduceLeDiff, Nat.reduceLT, Nat.zero_le, Int.reduceAdd, Int.reduceSub, Int.reduceMul, Int.reduceNeg, q_add_e, q_sub_e, q_mul_e, q_neg_e, q_upd_s, q_upd_n, zr_shr0, zr_shr1, zr_shr2, zr_shr3, zr_shr4, zr_and, zr_dyn8, zr_or, zr_shl, q_cpy_n, y_cpy26, Int.toNat_natCast, r2, r3, u2, c_X0_liked]
      refine liked _ _ _ _ ?_
      by_cases k : Y.1.1 = -1 ∨ Y.1.2 < F_sum (q_Lk M2 39) X.1 (M2 39 5).toNat
      · rw [if_pos k] at ih2
        rcases (show Y.1.1 = -1 ∨ (Y.1.1 ≠ -1 ∧ Y.1.2 < F_sum (q_Lk M2 39) X.1 (M2 39 5).toNat) by omega) with k2 | k2
        · simp (disch := omega) only [b_X5_annex_0, x_loadI_1, y_if_lt_t, y_if_lt_f, b_X5_annex_4, x_iconst, y_ic_le_t, y_ic_le_f, b_X5_annex_9, x_ret0, b_X5_annex_12, x_loadR_0, x_loadS_0, f_5_4, f_5_3, x_storeI_2, x_storeI_3, x_storeI_4, x_loadI_4, y_ic_ge_t, y_ic_ge_f, b_X5_annex_43, f_4_0, f_0_0, x_dup2, y_iald_26, x_iadd, y_iast_26, x_isub, x_storeI_5, x_loadI_2, y_ic_eq_t, y_ic_eq_f, b_X5_annex_104, x_loadI_5, x_loadI_3, b_X5_annex_110, b_X5_annex_116, x_iinc_4, x_goto, b_X5_annex_122, y_if_ne_t, y_if_ne_f, b_X5_annex_126, b_X5_annex_130, b_X5_annex_131, q_isL_I, q_isL_R, q_isL_S, true_and, and_true, and_self, List.length_nil, List.length_cons, Nat.zero_add, x_K, x_Kn, Int.reduceToNat, Nat.reduceAdd, Nat.reduceMul, Nat.reduceLeDiff, Nat.reduceLT, Nat.zero_le, Int.reduceAdd, Int.reduceSub, Int.reduceMul, Int.reduceNeg, q_add_e, q_sub_e, q_mul_e, q_neg_e, q_upd_s, q_upd_n, zr_shr0, zr_shr1, zr_shr2, zr_shr3, zr_shr4, zr_and, zr_dyn8, zr_or, zr_shl, q_cpy_n, y_cpy26, hl5]
          exact ih2 _ rfl
        · simp (disch := omega) only [b_X5_annex_0, x_loadI_1, y_if_lt_t, y_if_lt_f, b_X5_annex_4, x_iconst, y_ic_le_t, y_ic_le_f, b_X5_annex_9, x_ret0, b_X5_annex_12, x_loadR_0, x_loadS_0, f_5_4, f_5_3, x_storeI_2, x_storeI_3, x_storeI_4, x_loadI_4, y_ic_ge_t, y_ic_ge_f, b_X5_annex_43, f_4_0, f_0_0, x_dup2, y_iald_26, x_iadd, y_iast_26, x_isub, x_storeI_5, x_loadI_2, y_ic_eq_t, y_ic_eq_f, b_X5_annex_104, x_loadI_5, x_loadI_3, b_X5_annex_110, b_X5_annex_116, x_iinc_4, x_goto, b_X5_annex_122, y_if_ne_t, y_if_ne_f, b_X5_annex_126, b_X5_annex_130, b_X5_annex_131, q_isL_I, q_isL_R, q_isL_S, true_and, and_true, and_self, List.length_nil, List.length_cons, Nat.zero_add, x_K, x_Kn, Int.reduceToNat, Nat.reduceAdd, Nat.reduceMul, Nat.reduceLeDiff, Nat.reduceLT, Nat.zero_le, Int.reduceAdd, Int.reduceSub, Int.reduceMul, Int.reduceNeg, q_add_e, q_sub_e, q_mul_e, q_neg_e, q_upd_s, q_upd_n, zr_shr0, zr_shr1, zr_shr2, zr_shr3, zr_shr4, zr_and, zr_dyn8, zr_or, zr_shl, q_cpy_n, y_cpy26, hl5]
          exact ih2 _ rfl
      · rw [if_neg k] at ih2
        simp (disch := omega) only [b_X5_annex_0, x_loadI_1, y_if_lt_t, y_if_lt_f, b_X5_annex_4, x_iconst, y_ic_le_t, y_ic_le_f, b_X5_annex_9, x_ret0, b_X5_annex_12, x_loadR_0, x_loadS_0, f_5_4, f_5_3, x_storeI_2, x_storeI_3, x_storeI_4, x_loadI_4, y_ic_ge_t, y_ic_ge_f, b_X5_annex_43, f_4_0, f_0_0, x_dup2, y_iald_26, x_iadd, y_iast_26, x_isub, x_storeI_5, x_loadI_2, y_ic_eq_t, y_ic_eq_f, b_X5_annex_104, x_loadI_5, x_loadI_3, b_X5_annex_110, b_X5_annex_116, x_iinc_4, x_goto, b_X5_annex_122, y_if_ne_t, y_if_ne_f, b_X5_annex_126, b_X5_annex_130, b_X5_annex_131, q_isL_I, q_isL_R, q_isL_S, true_and, and_true, and_self, List.length_nil, List.length_cons, Nat.zero_add, x_K, x_Kn, Int.reduceToNat, Nat.reduceAdd, Nat.reduceMul, Nat.reduceLeDiff, Nat.reduceLT, Nat.zero_le, Int.reduceAdd, Int.reduceSub, Int.reduceMul, Int.reduceNeg, q_add_e, q_sub_e, q_mul_e, q_neg_e, q_upd_s, q_upd_n, zr_shr0, zr_shr1, zr_shr2, zr_shr3, zr_shr4, zr_and, zr_dyn8, zr_or, zr_shl, q_cpy_n, y_cpy26, hl5]
        exact ih2 _ rfl
  have l := loop 5 0 rfl (qS 0) rfl
  rw [show (F_an (q_Lk M2 39) (q_Wn M2 39) (M2 40) (M2 39 5).toNat (M2 41, M2 56) 0).2 = (M2 (39 + 2), M2 (39 + 17)) from rfl, q_cM_self] at l
  exact l
end
section
/-! THE CLASS'S READER: its words' letters -/
theorem q_ln_1 {d : Nat} {g : q_G} {M : q_M} {Q : Option q_V → q_G → q_M → Prop} (hq : Q (some (qI 5)) g M) : q_S 1 (d + 1) 199 [qS 17] g M Q := ⟨30, (some (qI 5), g, M), rfl, hq⟩
theorem q_ch_1_0 {d : Nat} {g : q_G} {M : q_M} {Q : Option q_V → q_G → q_M → Prop} (hq : Q (some (qI 108)) g M) : q_S 1 (d + 4) 200 [qS 17, qI 0] g M Q := ⟨60, (some (qI 108), g, M), rfl, hq⟩
theorem q_ch_1_1 {d : Nat} {g : q_G} {M : q_M} {Q : Option q_V → q_G → q_M → Prop} (hq : Q (some (qI 105)) g M) : q_S 1 (d + 4) 200 [qS 17, qI 1] g M Q := ⟨60, (some (qI 105), g, M), rfl, hq⟩
theorem q_ch_1_2 {d : Nat} {g : q_G} {M : q_M} {Q : Option q_V → q_G → q_M → Prop} (hq : Q (some (qI 107)) g M) : q_S 1 (d + 4) 200 [qS 17, qI 2] g M Q := ⟨60, (some (qI 107), g, M), rfl, hq⟩
theorem q_ch_1_3 {d : Nat} {g : q_G} {M : q_M} {Q : Option q_V → q_G → q_M → Prop} (hq : Q (some (qI 101)) g M) : q_S 1 (d + 4) 200 [qS 17, qI 3] g M Q := ⟨60, (some (qI 101), g, M), rfl, hq⟩
theorem q_ch_1_4 {d : Nat} {g : q_G} {M : q_M} {Q : Option q_V → q_G → q_M → Prop} (hq : Q (some (qI 115)) g M) : q_S 1 (d + 4) 200 [qS 17, qI 4] g M Q := ⟨60, (some (qI 115), g, M), rfl, hq⟩
theorem q_ln_2 {d : Nat} {g : q_G} {M : q_M} {Q : Option q_V → q_G → q_M → Prop} (hq : Q (some (qI 5)) g M) : q_S 1 (d + 1) 199 [qS 18] g M Q := ⟨30, (some (qI 5), g, M), rfl, hq⟩
theorem q_ch_2_0 {d : Nat} {g : q_G} {M : q_M} {Q : Option q_V → q_G → q_M → Prop} (hq : Q (some (qI 119)) g M) : q_S 1 (d + 4) 200 [qS 18, qI 0] g M Q := ⟨60, (some (qI 119), g, M), rfl, hq⟩
theorem q_ch_2_1 {d : Nat} {g : q_G} {M : q_M} {Q : Option q_V → q_G → q_M → Prop} (hq : Q (some (qI 97)) g M) : q_S 1 (d + 4) 200 [qS 18, qI 1] g M Q := ⟨60, (some (qI 97), g, M), rfl, hq⟩
theorem q_ch_2_2 {d : Nat} {g : q_G} {M : q_M} {Q : Option q_V → q_G → q_M → Prop} (hq : Q (some (qI 110)) g M) : q_S 1 (d + 4) 200 [qS 18, qI 2] g M Q := ⟨60, (some (qI 110), g, M), rfl, hq⟩
theorem q_ch_2_3 {d : Nat} {g : q_G} {M : q_M} {Q : Option q_V → q_G → q_M → Prop} (hq : Q (some (qI 116)) g M) : q_S 1 (d + 4) 200 [qS 18, qI 3] g M Q := ⟨60, (some (qI 116), g, M), rfl, hq⟩
theorem q_ch_2_4 {d : Nat} {g : q_G} {M : q_M} {Q : Option q_V → q_G → q_M → Prop} (hq : Q (some (qI 115)) g M) : q_S 1 (d + 4) 200 [qS 18, qI 4] g M Q := ⟨60, (some (qI 115), g, M), rfl, hq⟩
theorem q_ln_3 {d : Nat} {g : q_G} {M : q_M} {Q : Option q_V → q_G → q_M → Prop} (hq : Q (some (qI 4)) g M) : q_S 1 (d + 1) 199 [qS 19] g M Q := ⟨30, (some (qI 4), g, M), rfl, hq⟩
theorem q_ch_3_0 {d : Nat} {g : q_G} {M : q_M} {Q : Option q_V → q_G → q_M → Prop} (hq : Q (some (qI 103)) g M) : q_S 1 (d + 4) 200 [qS 19, qI 0] g M Q := ⟨60, (some (qI 103), g, M), rfl, hq⟩
theorem q_ch_3_1 {d : Nat} {g : q_G} {M : q_M} {Q : Option q_V → q_G → q_M → Prop} (hq : Q (some (qI 111)) g M) : q_S 1 (d + 4) 200 [qS 19, qI 1] g M Q := ⟨60, (some (qI 111), g, M), rfl, hq⟩
theorem q_ch_3_2 {d : Nat} {g : q_G} {M : q_M} {Q : Option q_V → q_G → q_M → Prop} (hq : Q (some (qI 101)) g M) : q_S 1 (d + 4) 200 [qS 19, qI 2] g M Q := ⟨60, (some (qI 101), g, M), rfl, hq⟩
theorem q_ch_3_3 {d : Nat} {g : q_G} {M : q_M} {Q : Option q_V → q_G → q_M → Prop} (hq : Q (some (qI 115)) g M) : q_S 1 (d + 4) 200 [qS 19, qI 3] g M Q := ⟨60, (some (qI 115), g, M), rfl, hq⟩
theorem q_ln_4 {d : Nat} {g : q_G} {M : q_M} {Q : Option q_V → q_G → q_M → Prop} (hq : Q (some (qI 2)) g M) : q_S 1 (d + 1) 199 [qS 20] g M Q := ⟨30, (some (qI 2), g, M), rfl, hq⟩
theorem q_ch_4_0 {d : Nat} {g : q_G} {M : q_M} {Q : Option q_V → q_G → q_M → Prop} (hq : Q (some (qI 111)) g M) : q_S 1 (d + 4) 200 [qS 20, qI 0] g M Q := ⟨60, (some (qI 111), g, M), rfl, hq⟩
theorem q_ch_4_1 {d : Nat} {g : q_G} {M : q_M} {Q : Option q_V → q_G → q_M → Prop} (hq : Q (some (qI 114)) g M) : q_S 1 (d + 4) 200 [qS 20, qI 1] g M Q := ⟨60, (some (qI 114), g, M), rfl, hq⟩
theorem q_ln_5 {d : Nat} {g : q_G} {M : q_M} {Q : Option q_V → q_G → q_M → Prop} (hq : Q (some (qI 3)) g M) : q_S 1 (d + 1) 199 [qS 21] g M Q := ⟨30, (some (qI 3), g, M), rfl, hq⟩
theorem q_ch_5_0 {d : Nat} {g : q_G} {M : q_M} {Q : Option q_V → q_G → q_M → Prop} (hq : Q (some (qI 97)) g M) : q_S 1 (d + 4) 200 [qS 21, qI 0] g M Q := ⟨60, (some (qI 97), g, M), rfl, hq⟩
theorem q_ch_5_1 {d : Nat} {g : q_G} {M : q_M} {Q : Option q_V → q_G → q_M → Prop} (hq : Q (some (qI 110)) g M) : q_S 1 (d + 4) 200 [qS 21, qI 1] g M Q := ⟨60, (some (qI 110), g, M), rfl, hq⟩
theorem q_ch_5_2 {d : Nat} {g : q_G} {M : q_M} {Q : Option q_V → q_G → q_M → Prop} (hq : Q (some (qI 100)) g M) : q_S 1 (d + 4) 200 [qS 21, qI 2] g M Q := ⟨60, (some (qI 100), g, M), rfl, hq⟩
theorem q_ln_6 {d : Nat} {g : q_G} {M : q_M} {Q : Option q_V → q_G → q_M → Prop} (hq : Q (some (qI 3)) g M) : q_S 1 (d + 1) 199 [qS 22] g M Q := ⟨30, (some (qI 3), g, M), rfl, hq⟩
theorem q_ch_6_0 {d : Nat} {g : q_G} {M : q_M} {Q : Option q_V → q_G → q_M → Prop} (hq : Q (some (qI 110)) g M) : q_S 1 (d + 4) 200 [qS 22, qI 0] g M Q := ⟨60, (some (qI 110), g, M), rfl, hq⟩
theorem q_ch_6_1 {d : Nat} {g : q_G} {M : q_M} {Q : Option q_V → q_G → q_M → Prop} (hq : Q (some (qI 111)) g M) : q_S 1 (d + 4) 200 [qS 22, qI 1] g M Q := ⟨60, (some (qI 111), g, M), rfl, hq⟩
theorem q_ch_6_2 {d : Nat} {g : q_G} {M : q_M} {Q : Option q_V → q_G → q_M → Prop} (hq : Q (some (qI 116)) g M) : q_S 1 (d + 4) 200 [qS 22, qI 2] g M Q := ⟨60, (some (qI 116), g, M), rfl, hq⟩
theorem q_ln_7 {d : Nat} {g : q_G} {M : q_M} {Q : Option q_V → q_G → q_M → Prop} (hq : Q (some (qI 3)) g M) : q_S 1 (d + 1) 199 [qS 23] g M Q := ⟨30, (some (qI 3), g, M), rfl, hq⟩
theorem q_ch_7_0 {d : Nat} {g : q_G} {M : q_M} {Q : Option q_V → q_G → q_M → Prop} (hq : Q (some (qI 102)) g M) : q_S 1 (d + 4) 200 [qS 23, qI 0] g M Q := ⟨60, (some (qI 102), g, M), rfl, hq⟩
theorem q_ch_7_1 {d : Nat} {g : q_G} {M : q_M} {Q : Option q_V → q_G → q_M → Prop} (hq : Q (some (qI 97)) g M) : q_S 1 (d + 4) 200 [qS 23, qI 1] g M Q := ⟨60, (some (qI 97), g, M), rfl, hq⟩
theorem q_ch_7_2 {d : Nat} {g : q_G} {M : q_M} {Q : Option q_V → q_G → q_M → Prop} (hq : Q (some (qI 114)) g M) : q_S 1 (d + 4) 200 [qS 23, qI 2] g M Q := ⟨60, (some (qI 114), g, M), rfl, hq⟩
theorem q_ln_8 {d : Nat} {g : q_G} {M : q_M} {Q : Option q_V → q_G → q_M → Prop} (hq : Q (some (qI 4)) g M) : q_S 1 (d + 1) 199 [qS 24] g M Q := ⟨30, (some (qI 4), g, M), rfl, hq⟩
theorem q_ch_8_0 {d : Nat} {g : q_G} {M : q_M} {Q : Option q_V → q_G → q_M → Prop} (hq : Q (some (qI 118)) g M) : q_S 1 (d + 4) 200 [qS 24, qI 0] g M Q := ⟨60, (some (qI 118), g, M), rfl, hq⟩
theorem q_ch_8_1 {d : Nat} {g : q_G} {M : q_M} {Q : Option q_V → q_G → q_M → Prop} (hq : Q (some (qI 97)) g M) : q_S 1 (d + 4) 200 [qS 24, qI 1] g M Q := ⟨60, (some (qI 97), g, M), rfl, hq⟩
theorem q_ch_8_2 {d : Nat} {g : q_G} {M : q_M} {Q : Option q_V → q_G → q_M → Prop} (hq : Q (some (qI 105)) g M) : q_S 1 (d + 4) 200 [qS 24, qI 2] g M Q := ⟨60, (some (qI 105), g, M), rfl, hq⟩
theorem q_ch_8_3 {d : Nat} {g : q_G} {M : q_M} {Q : Option q_V → q_G → q_M → Prop} (hq : Q (some (qI 110)) g M) : q_S 1 (d + 4) 200 [qS 24, qI 3] g M Q := ⟨60, (some (qI 110), g, M), rfl, hq⟩
theorem q_ln_9 {d : Nat} {g : q_G} {M : q_M} {Q : Option q_V → q_G → q_M → Prop} (hq : Q (some (qI 5)) g M) : q_S 1 (d + 1) 199 [qS 25] g M Q := ⟨30, (some (qI 5), g, M), rfl, hq⟩
theorem q_ch_9_0 {d : Nat} {g : q_G} {M : q_M} {Q : Option q_V → q_G → q_M → Prop} (hq : Q (some (qI 98)) g M) : q_S 1 (d + 4) 200 [qS 25, qI 0] g M Q := ⟨60, (some (qI 98), g, M), rfl, hq⟩
theorem q_ch_9_1 {d : Nat} {g : q_G} {M : q_M} {Q : Option q_V → q_G → q_M → Prop} (hq : Q (some (qI 117)) g M) : q_S 1 (d + 4) 200 [qS 25, qI 1] g M Q := ⟨60, (some (qI 117), g, M), rfl, hq⟩
theorem q_ch_9_2 {d : Nat} {g : q_G} {M : q_M} {Q : Option q_V → q_G → q_M → Prop} (hq : Q (some (qI 105)) g M) : q_S 1 (d + 4) 200 [qS 25, qI 2] g M Q := ⟨60, (some (qI 105), g, M), rfl, hq⟩
theorem q_ch_9_3 {d : Nat} {g : q_G} {M : q_M} {Q : Option q_V → q_G → q_M → Prop} (hq : Q (some (qI 108)) g M) : q_S 1 (d + 4) 200 [qS 25, qI 3] g M Q := ⟨60, (some (qI 108), g, M), rfl, hq⟩
theorem q_ch_9_4 {d : Nat} {g : q_G} {M : q_M} {Q : Option q_V → q_G → q_M → Prop} (hq : Q (some (qI 116)) g M) : q_S 1 (d + 4) 200 [qS 25, qI 4] g M Q := ⟨60, (some (qI 116), g, M), rfl, hq⟩
theorem q_ln_10 {d : Nat} {g : q_G} {M : q_M} {Q : Option q_V → q_G → q_M → Prop} (hq : Q (some (qI 6)) g M) : q_S 1 (d + 1) 199 [qS 26] g M Q := ⟨30, (some (qI 6), g, M), rfl, hq⟩
theorem q_ch_10_0 {d : Nat} {g : q_G} {M : q_M} {Q : Option q_V → q_G → q_M → Prop} (hq : Q (some (qI 119)) g M) : q_S 1 (d + 4) 200 [qS 26, qI 0] g M Q := ⟨60, (some (qI 119), g, M), rfl, hq⟩
theorem q_ch_10_1 {d : Nat} {g : q_G} {M : q_M} {Q : Option q_V → q_G → q_M → Prop} (hq : Q (some (qI 101)) g M) : q_S 1 (d + 4) 200 [qS 26, qI 1] g M Q := ⟨60, (some (qI 101), g, M), rfl, hq⟩
theorem q_ch_10_2 {d : Nat} {g : q_G} {M : q_M} {Q : Option q_V → q_G → q_M → Prop} (hq : Q (some (qI 105)) g M) : q_S 1 (d + 4) 200 [qS 26, qI 2] g M Q := ⟨60, (some (qI 105), g, M), rfl, hq⟩
theorem q_ch_10_3 {d : Nat} {g : q_G} {M : q_M} {Q : Option q_V → q_G → q_M → Prop} (hq : Q (some (qI 103)) g M) : q_S 1 (d + 4) 200 [qS 26, qI 3] g M Q := ⟨60, (some (qI 103), g, M), rfl, hq⟩
theorem q_ch_10_4 {d : Nat} {g : q_G} {M : q_M} {Q : Option q_V → q_G → q_M → Prop} (hq : Q (some (qI 104)) g M) : q_S 1 (d + 4) 200 [qS 26, qI 4] g M Q := ⟨60, (some (qI 104), g, M), rfl, hq⟩
theorem q_ch_10_5 {d : Nat} {g : q_G} {M : q_M} {Q : Option q_V → q_G → q_M → Prop} (hq : Q (some (qI 116)) g M) : q_S 1 (d + 4) 200 [qS 26, qI 5] g M Q := ⟨60, (some (qI 116), g, M), rfl, hq⟩
theorem q_ln_11 {d : Nat} {g : q_G} {M : q_M} {Q : Option q_V → q_G → q_M → Prop} (hq : Q (some (qI 4)) g M) : q_S 1 (d + 1) 199 [qS 27] g M Q := ⟨30, (some (qI 4), g, M), rfl, hq⟩
theorem q_ch_11_0 {d : Nat} {g : q_G} {M : q_M} {Q : Option q_V → q_G → q_M → Prop} (hq : Q (some (qI 121)) g M) : q_S 1 (d + 4) 200 [qS 27, qI 0] g M Q := ⟨60, (some (qI 121), g, M), rfl, hq⟩
theorem q_ch_11_1 {d : Nat} {g : q_G} {M : q_M} {Q : Option q_V → q_G → q_M → Prop} (hq : Q (some (qI 101)) g M) : q_S 1 (d + 4) 200 [qS 27, qI 1] g M Q := ⟨60, (some (qI 101), g, M), rfl, hq⟩
theorem q_ch_11_2 {d : Nat} {g : q_G} {M : q_M} {Q : Option q_V → q_G → q_M → Prop} (hq : Q (some (qI 97)) g M) : q_S 1 (d + 4) 200 [qS 27, qI 2] g M Q := ⟨60, (some (qI 97), g, M), rfl, hq⟩
theorem q_ch_11_3 {d : Nat} {g : q_G} {M : q_M} {Q : Option q_V → q_G → q_M → Prop} (hq : Q (some (qI 114)) g M) : q_S 1 (d + 4) 200 [qS 27, qI 3] g M Q := ⟨60, (some (qI 114), g, M), rfl, hq⟩
theorem q_ln_12 {d : Nat} {g : q_G} {M : q_M} {Q : Option q_V → q_G → q_M → Prop} (hq : Q (some (qI 4)) g M) : q_S 1 (d + 1) 199 [qS 28] g M Q := ⟨30, (some (qI 4), g, M), rfl, hq⟩
theorem q_ch_12_0 {d : Nat} {g : q_G} {M : q_M} {Q : Option q_V → q_G → q_M → Prop} (hq : Q (some (qI 109)) g M) : q_S 1 (d + 4) 200 [qS 28, qI 0] g M Q := ⟨60, (some (qI 109), g, M), rfl, hq⟩
theorem q_ch_12_1 {d : Nat} {g : q_G} {M : q_M} {Q : Option q_V → q_G → q_M → Prop} (hq : Q (some (qI 111)) g M) : q_S 1 (d + 4) 200 [qS 28, qI 1] g M Q := ⟨60, (some (qI 111), g, M), rfl, hq⟩
theorem q_ch_12_2 {d : Nat} {g : q_G} {M : q_M} {Q : Option q_V → q_G → q_M → Prop} (hq : Q (some (qI 114)) g M) : q_S 1 (d + 4) 200 [qS 28, qI 2] g M Q := ⟨60, (some (qI 114), g, M), rfl, hq⟩
theorem q_ch_12_3 {d : Nat} {g : q_G} {M : q_M} {Q : Option q_V → q_G → q_M → Prop} (hq : Q (some (qI 101)) g M) : q_S 1 (d + 4) 200 [qS 28, qI 3] g M Q := ⟨60, (some (qI 101), g, M), rfl, hq⟩
theorem q_slen_1 {j : Nat} (h1 : 1 ≤ j) (h2 : j < 13) : 2 ≤ q_slen j ∧ q_slen j ≤ 6 := by
  rcases (show j = 1 ∨ j = 2 ∨ j = 3 ∨ j = 4 ∨ j = 5 ∨ j = 6 ∨ j = 7 ∨ j = 8 ∨ j = 9 ∨ j = 10 ∨ j = 11 ∨ j = 12 by omega) with rfl | rfl | rfl | rfl | rfl | rfl | rfl | rfl | rfl | rfl | rfl | rfl <;> exact ⟨by decide, by decide⟩
theorem sp_length {d j : Nat} {g : q_G} {M : q_M} (h1 : 1 ≤ j) (h2 : j < 13) (Q : Option q_V → q_G → q_M → Prop) : q_S 1 (d + 1) 199 [qS (16 + j)] g M Q = Q (some (qI (q_slen j))) g M := by
  refine q_S_eq (fun Q hq => ?_) Q
  rcases (show j = 1 ∨ j = 2 ∨ j = 3 ∨ j = 4 ∨ j = 5 ∨ j = 6 ∨ j = 7 ∨ j = 8 ∨ j = 9 ∨ j = 10 ∨ j = 11 ∨ j = 12 by omega) with rfl | rfl | rfl | rfl | rfl | rfl | rfl | rfl | rfl | rfl | rfl | rfl
  · exact q_ln_1 hq
  · exact q_ln_2 hq
  · exact q_ln_3 hq
  · exact q_ln_4 hq
  · exact q_ln_5 hq
  · exact q_ln_6 hq
  · exact q_ln_7 hq
  · exact q_ln_8 hq
  · exact q_ln_9 hq
  · exact q_ln_10 hq
  · exact q_ln_11 hq
  · exact q_ln_12 hq
theorem sp_charAt {d j i : Nat} {g : q_G} {M : q_M} (h1 : 1 ≤ j) (h2 : j < 13) (hi : (i : Int) < q_slen j) (Q : Option q_V → q_G → q_M → Prop) : q_S 1 (d + 4) 200 [qS (16 + j), qI i] g M Q = Q (some (qI (q_sch j i))) g M := by
  refine q_S_eq (fun Q hq => ?_) Q
  rcases (show j = 1 ∨ j = 2 ∨ j = 3 ∨ j = 4 ∨ j = 5 ∨ j = 6 ∨ j = 7 ∨ j = 8 ∨ j = 9 ∨ j = 10 ∨ j = 11 ∨ j = 12 by omega) with rfl | rfl | rfl | rfl | rfl | rfl | rfl | rfl | rfl | rfl | rfl | rfl
  · have hi2 : (i : Int) < 5 := hi
    rcases (show i = 0 ∨ i = 1 ∨ i = 2 ∨ i = 3 ∨ i = 4 by omega) with rfl | rfl | rfl | rfl | rfl
    · exact q_ch_1_0 hq
    · exact q_ch_1_1 hq
    · exact q_ch_1_2 hq
    · exact q_ch_1_3 hq
    · exact q_ch_1_4 hq
  · have hi2 : (i : Int) < 5 := hi
    rcases (show i = 0 ∨ i = 1 ∨ i = 2 ∨ i = 3 ∨ i = 4 by omega) with rfl | rfl | rfl | rfl | rfl
    · exact q_ch_2_0 hq
    · exact q_ch_2_1 hq
    · exact q_ch_2_2 hq
    · exact q_ch_2_3 hq
    · exact q_ch_2_4 hq
  · have hi2 : (i : Int) < 4 := hi
    rcases (show i = 0 ∨ i = 1 ∨ i = 2 ∨ i = 3 by omega) with rfl | rfl | rfl | rfl
    · exact q_ch_3_0 hq
    · exact q_ch_3_1 hq
    · exact q_ch_3_2 hq
    · exact q_ch_3_3 hq
  · have hi2 : (i : Int) < 2 := hi
    rcases (show i = 0 ∨ i = 1 by omega) with rfl | rfl
    · exact q_ch_4_0 hq
    · exact q_ch_4_1 hq
  · have hi2 : (i : Int) < 3 := hi
    rcases (show i = 0 ∨ i = 1 ∨ i = 2 by omega) with rfl | rfl | rfl
    · exact q_ch_5_0 hq
    · exact q_ch_5_1 hq
    · exact q_ch_5_2 hq
  · have hi2 : (i : Int) < 3 := hi
    rcases (show i = 0 ∨ i = 1 ∨ i = 2 by omega) with rfl | rfl | rfl
    · exact q_ch_6_0 hq
    · exact q_ch_6_1 hq
    · exact q_ch_6_2 hq
  · have hi2 : (i : Int) < 3 := hi
    rcases (show i = 0 ∨ i = 1 ∨ i = 2 by omega) with rfl | rfl | rfl
    · exact q_ch_7_0 hq
    · exact q_ch_7_1 hq
    · exact q_ch_7_2 hq
  · have hi2 : (i : Int) < 4 := hi
    rcases (show i = 0 ∨ i = 1 ∨ i = 2 ∨ i = 3 by omega) with rfl | rfl | rfl | rfl
    · exact q_ch_8_0 hq
    · exact q_ch_8_1 hq
    · exact q_ch_8_2 hq
    · exact q_ch_8_3 hq
  · have hi2 : (i : Int) < 5 := hi
    rcases (show i = 0 ∨ i = 1 ∨ i = 2 ∨ i = 3 ∨ i = 4 by omega) with rfl | rfl | rfl | rfl | rfl
    · exact q_ch_9_0 hq
    · exact q_ch_9_1 hq
    · exact q_ch_9_2 hq
    · exact q_ch_9_3 hq
    · exact q_ch_9_4 hq
  · have hi2 : (i : Int) < 6 := hi
    rcases (show i = 0 ∨ i = 1 ∨ i = 2 ∨ i = 3 ∨ i = 4 ∨ i = 5 by omega) with rfl | rfl | rfl | rfl | rfl | rfl
    · exact q_ch_10_0 hq
    · exact q_ch_10_1 hq
    · exact q_ch_10_2 hq
    · exact q_ch_10_3 hq
    · exact q_ch_10_4 hq
    · exact q_ch_10_5 hq
  · have hi2 : (i : Int) < 4 := hi
    rcases (show i = 0 ∨ i = 1 ∨ i = 2 ∨ i = 3 by omega) with rfl | rfl | rfl | rfl
    · exact q_ch_11_0 hq
    · exact q_ch_11_1 hq
    · exact q_ch_11_2 hq
    · exact q_ch_11_3 hq
  · have hi2 : (i : Int) < 4 := hi
    rcases (show i = 0 ∨ i = 1 ∨ i = 2 ∨ i = 3 by omega) with rfl | rfl | rfl | rfl
    · exact q_ch_12_0 hq
    · exact q_ch_12_1 hq
    · exact q_ch_12_2 hq
    · exact q_ch_12_3 hq
end
section
/-! THE CLASS'S READER: its memory. z: how many codes, token, value, from, behind, fault, the code; s: the starts -/
abbrev q_Z : Type := Int × Int × Int × Int × Int × Int × (Nat → Int)
def q_zM (M : q_M) (z : q_Z) (s : Nat → Int) : q_M := fun a i =>
  if a = 1 then (if i = 3 then z.1 else if i = 5 then z.2.1 else if i = 6 then z.2.2.1 else if i = 7 then z.2.2.2.1 else if i = 8 then z.2.2.2.2.1 else if i = 9 then z.2.2.2.2.2.1 else M 1 i)
  else if a = 3 then z.2.2.2.2.2.2 i else if a = 4 then s i else M a i
section RM
variable {M : q_M} {cn tok val fr bh ft : Int} {C s : Nat → Int}
theorem rr_cn : q_zM M (cn, tok, val, fr, bh, ft, C) s 1 3 = cn := rfl
theorem rr_val : q_zM M (cn, tok, val, fr, bh, ft, C) s 1 6 = val := rfl
theorem rr_fr : q_zM M (cn, tok, val, fr, bh, ft, C) s 1 7 = fr := rfl
theorem rr_bh : q_zM M (cn, tok, val, fr, bh, ft, C) s 1 8 = bh := rfl
theorem rr_ft : q_zM M (cn, tok, val, fr, bh, ft, C) s 1 9 = ft := rfl
theorem rr_size : q_zM M (cn, tok, val, fr, bh, ft, C) s 1 1 = M 1 1 := rfl
theorem rr_tape : q_zM M (cn, tok, val, fr, bh, ft, C) s 2 = M 2 := rfl
theorem ru_cn {x : Int} : q_upd (q_zM M (cn, tok, val, fr, bh, ft, C) s) 1 3 x = q_zM M (x, tok, val, fr, bh, ft, C) s := by
  funext a i
  by_cases c : a = 1 ∧ i = 3
  · obtain ⟨rfl, rfl⟩ := c
    rw [q_upd_s]
    rfl
  · rw [q_upd_n (by omega)]
    unfold q_zM
    by_cases c1 : a = 1
    · have c2 : i ≠ 3 := fun z => c ⟨c1, z⟩
      rw [if_pos c1, if_pos c1]
      simp only [c2, if_false]
    · rw [if_neg c1, if_neg c1]
theorem ru_tok {x : Int} : q_upd (q_zM M (cn, tok, val, fr, bh, ft, C) s) 1 5 x = q_zM M (cn, x, val, fr, bh, ft, C) s := by
  funext a i
  by_cases c : a = 1 ∧ i = 5
  · obtain ⟨rfl, rfl⟩ := c
    rw [q_upd_s]
    rfl
  · rw [q_upd_n (by omega)]
    unfold q_zM
    by_cases c1 : a = 1
    · have c2 : i ≠ 5 := fun z => c ⟨c1, z⟩
      rw [if_pos c1, if_pos c1]
      simp only [c2, if_false]
    · rw [if_neg c1, if_neg c1]
theorem ru_val {x : Int} : q_upd (q_zM M (cn, tok, val, fr, bh, ft, C) s) 1 6 x = q_zM M (cn, tok, x, fr, bh, ft, C) s := by
  funext a i
  by_cases c : a = 1 ∧ i = 6
  · obtain ⟨rfl, rfl⟩ := c
    rw [q_upd_s]
    rfl
  · rw [q_upd_n (by omega)]
    unfold q_zM
    by_cases c1 : a = 1
    · have c2 : i ≠ 6 := fun z => c ⟨c1, z⟩
      rw [if_pos c1, if_pos c1]
      simp only [c2, if_false]
    · rw [if_neg c1, if_neg c1]
theorem ru_fr {x : Int} : q_upd (q_zM M (cn, tok, val, fr, bh, ft, C) s) 1 7 x = q_zM M (cn, tok, val, x, bh, ft, C) s := by
  funext a i
  by_cases c : a = 1 ∧ i = 7
  · obtain ⟨rfl, rfl⟩ := c
    rw [q_upd_s]
    rfl
  · rw [q_upd_n (by omega)]
    unfold q_zM
    by_cases c1 : a = 1
    · have c2 : i ≠ 7 := fun z => c ⟨c1, z⟩
      rw [if_pos c1, if_pos c1]
      simp only [c2, if_false]
    · rw [if_neg c1, if_neg c1]
theorem ru_bh {x : Int} : q_upd (q_zM M (cn, tok, val, fr, bh, ft, C) s) 1 8 x = q_zM M (cn, tok, val, fr, x, ft, C) s := by
  funext a i
  by_cases c : a = 1 ∧ i = 8
  · obtain ⟨rfl, rfl⟩ := c
    rw [q_upd_s]
    rfl
  · rw [q_upd_n (by omega)]
    unfold q_zM
    by_cases c1 : a = 1
    · have c2 : i ≠ 8 := fun z => c ⟨c1, z⟩
      rw [if_pos c1, if_pos c1]
      simp only [c2, if_false]
    · rw [if_neg c1, if_neg c1]
theorem ru_ft {x : Int} : q_upd (q_zM M (cn, tok, val, fr, bh, ft, C) s) 1 9 x = q_zM M (cn, tok, val, fr, bh, x, C) s := by
  funext a i
  by_cases c : a = 1 ∧ i = 9
  · obtain ⟨rfl, rfl⟩ := c
    rw [q_upd_s]
    rfl
  · rw [q_upd_n (by omega)]
    unfold q_zM
    by_cases c1 : a = 1
    · have c2 : i ≠ 9 := fun z => c ⟨c1, z⟩
      rw [if_pos c1, if_pos c1]
      simp only [c2, if_false]
    · rw [if_neg c1, if_neg c1]
theorem ru_C {p : Nat} {x : Int} : q_upd (q_zM M (cn, tok, val, fr, bh, ft, C) s) 3 p x = q_zM M (cn, tok, val, fr, bh, ft, F_u C p x) s := by
  funext a i
  by_cases c : a = 3 ∧ i = p
  · obtain ⟨rfl, rfl⟩ := c
    rw [q_upd_s]
    exact (if_pos rfl).symm
  · rw [q_upd_n (by omega)]
    unfold q_zM F_u
    by_cases c1 : a = 1
    · rw [if_pos c1, if_pos c1]
    · rw [if_neg c1, if_neg c1]
      by_cases c2 : a = 3
      · rw [if_pos c2, if_pos c2]
        exact (if_neg (fun z => c ⟨c2, z⟩)).symm
      · rw [if_neg c2, if_neg c2]
theorem ru_s {p : Nat} {x : Int} : q_upd (q_zM M (cn, tok, val, fr, bh, ft, C) s) 4 p x = q_zM M (cn, tok, val, fr, bh, ft, C) (F_u s p x) := by
  funext a i
  by_cases c : a = 4 ∧ i = p
  · obtain ⟨rfl, rfl⟩ := c
    rw [q_upd_s]
    exact (if_pos rfl).symm
  · rw [q_upd_n (by omega)]
    unfold q_zM F_u
    by_cases c1 : a = 1
    · rw [if_pos c1, if_pos c1]
    · rw [if_neg c1, if_neg c1]
      by_cases c2 : a = 3
      · rw [if_pos c2, if_pos c2]
      · rw [if_neg c2, if_neg c2]
        by_cases c3 : a = 4
        · rw [if_pos c3, if_pos c3]
          exact (if_neg (fun z => c ⟨c3, z⟩)).symm
        · rw [if_neg c3, if_neg c3]
end RM
/-! what it reads, in numbers: a tape T of n bytes -/
def F_ltr (v : Int) : Bool := decide (97 ≤ v ∧ v ≤ 122)
def F_dgt (v : Int) : Bool := decide (48 ≤ v ∧ v ≤ 57)
def F_sgn (v : Int) : Bool := decide (v = 40 ∨ v = 41 ∨ v = 59 ∨ v = 43 ∨ v = 45 ∨ v = 42 ∨ v = 60 ∨ v = 61)
def F_blk (v : Int) : Bool := decide (v = 32 ∨ v = 10)
/-- the first place from i on that P doesn't hold at, j at most further -/
def F_wh (P : Int → Bool) (T : Nat → Int) : Nat → Nat → Nat
  | 0, i => i
  | j + 1, i => if P (T i) = true then F_wh P T j (i + 1) else i
theorem F_wh_le {P : Int → Bool} {T : Nat → Int} : ∀ j i : Nat, i ≤ F_wh P T j i ∧ F_wh P T j i ≤ i + j
  | 0, i => ⟨Nat.le_refl i, Nat.le_refl i⟩
  | j + 1, i => by
    have h := F_wh_le (P := P) (T := T) j (i + 1)
    rw [F_wh]
    split <;> omega
def F_num (T : Nat → Int) (i : Nat) : Nat → Int
  | 0 => 0
  | k + 1 => q_sub (q_add (q_mul 10 (F_num T i k)) (T (i + k))) 48
def F_sm (T : Nat → Int) (i j : Nat) : Nat → Bool
  | 0 => true
  | k + 1 => F_sm T i j k && decide (T (i + k) = q_sch j k)
/-- whether the word j stands from i to b -/
def F_is (T : Nat → Int) (i b j : Nat) : Bool := decide (q_slen j = (b : Int) - i) && F_sm T i j (q_slen j).toNat
def R_m (T : Nat → Int) (i b : Nat) (j : Nat) (t v : Int) (a : Int × Int) : Int × Int := if F_is T i b j = true then (t, v) else a
/-- what a word means -/
def R_wd (T : Nat → Int) (i b : Nat) (v : Int) : Int × Int := R_m T i b 12 (-4) 5 (R_m T i b 11 (-4) 4 (R_m T i b 10 (-4) 3 (R_m T i b 9 (-4) 2 (R_m T i b 8 (-4) 1 (R_m T i b 7 (-4) 0 (R_m T i b 6 (-10) 0 (R_m T i b 5 (-9) 0 (R_m T i b 4 (-8) 0 (R_m T i b 3 (-7) 0 (R_m T i b 2 (-6) 0 (R_m T i b 1 (-5) 0 (-1, v))))))))))))
/-- the token that begins at i (which is no blank), read over an old value: token, value, behind -/
def R_tk (T : Nat → Int) (n i : Nat) (v : Int) : Int × Int × Nat :=
  if n ≤ i then (-2, v, i)
  else if F_ltr (T i) = true then ((R_wd T i (F_wh F_ltr T (n - (i + 1)) (i + 1)) v).1, (R_wd T i (F_wh F_ltr T (n - (i + 1)) (i + 1)) v).2, F_wh F_ltr T (n - (i + 1)) (i + 1))
  else if F_dgt (T i) = true then (if i + 4 < F_wh F_dgt T (n - i) i then -1 else -3, F_num T i (F_wh F_dgt T (n - i) i - i), F_wh F_dgt T (n - i) i)
  else (if F_sgn (T i) = true then T i else -1, v, i + 1)
def R_nx (T : Nat → Int) (n : Nat) (z : q_Z) : q_Z := match z with
  | (cn, tok, val, fr, bh, ft, C) => if 0 ≤ ft then (cn, tok, val, fr, bh, ft, C)
    else (cn, (R_tk T n (F_wh F_blk T (n - bh.toNat) bh.toNat) val).1, (R_tk T n (F_wh F_blk T (n - bh.toNat) bh.toNat) val).2.1, (F_wh F_blk T (n - bh.toNat) bh.toNat : Nat), ((R_tk T n (F_wh F_blk T (n - bh.toNat) bh.toNat) val).2.2 : Nat), ft, C)
end
section
/-! THE CLASS'S READER: words and numbers, by the machine -/
section LEXC
variable {md d : Nat} {P : q_P} {nx : Nat} {ops : List Instr} {ls st : List q_V} {g : q_G} {M : q_M} {Q : Option q_V → q_G → q_M → Prop}
theorem c_len {t : Nat} (h : t < 13) : q_T md (d + 1) P nx (.invokestatic 199 :: ops) ls (qS (16 + t) :: st) g M Q = (st.length ≤ 4 ∧ q_S md d 199 [qS (16 + t)] g M (q_K md (d + 1) P nx ops ls st Q)) :=
  q_T_callif (id := 199) (n := 1) rfl rfl rfl rfl rfl (by rw [show q_mK 199 = 50 from rfl]; unfold q_rcv; rw [if_neg (by decide), if_pos rfl]; simp [qS]; omega) (by simp [q_set, qS]) (Nat.le_of_ble_eq_true rfl)
theorem c_cha {t : Nat} {x : Int} (h : t < 13) : q_T md (d + 1) P nx (.invokestatic 200 :: ops) ls (qI x :: qS (16 + t) :: st) g M Q = (st.length ≤ 4 ∧ q_S md d 200 [qS (16 + t), qI x] g M (q_K md (d + 1) P nx ops ls st Q)) :=
  q_T_callif (id := 200) (n := 2) rfl rfl rfl rfl rfl (by rw [show q_mK 200 = 50 from rfl]; unfold q_rcv; rw [if_neg (by decide), if_pos rfl]; simp [qS]; omega) (by simp [q_set, qS, qI]) (Nat.le_of_ble_eq_true rfl)
end LEXC
theorem sp_isLetter {d : Nat} {g : q_G} {M : q_M} {v : Int} (Q : Option q_V → q_G → q_M → Prop) : q_S 1 d 39 [qI v] g M Q = Q (some (qI (if F_ltr v = true then 1 else 0))) g M := by
  rw [s_X1_isLetter]
  unfold F_ltr
  by_cases h1 : 97 ≤ v
  · by_cases h2 : v ≤ 122
    · rw [if_pos (decide_eq_true ⟨h1, h2⟩)]
      simp (disch := omega) only [b_X1_isLetter_0, x_loadI_0, x_iconst, y_ic_lt_t, y_ic_lt_f, b_X1_isLetter_6, y_ic_gt_t, y_ic_gt_f, b_X1_isLetter_12, x_goto, b_X1_isLetter_16, b_X1_isLetter_17, x_ret1_0, x_ret1_1, q_isL_I, q_isL_R, q_isL_S, true_and, and_true, and_self, List.length_nil, List.length_cons, Nat.zero_add, x_K, x_Kn, Int.reduceToNat, Nat.reduceAdd, Nat.reduceMul, Nat.reduceLeDiff, Nat.reduceLT, Nat.zero_le, Int.reduceAdd, Int.reduceSub, Int.reduceMul, Int.reduceNeg, q_add_e, q_sub_e, q_mul_e, q_neg_e, q_upd_s, q_upd_n, zr_shr0, zr_shr1, zr_shr2, zr_shr3, zr_shr4, zr_and, zr_dyn8, zr_or, zr_shl, q_cpy_n, y_cpy26]
    · rw [if_neg (fun z => h2 (of_decide_eq_true z).2)]
      simp (disch := omega) only [b_X1_isLetter_0, x_loadI_0, x_iconst, y_ic_lt_t, y_ic_lt_f, b_X1_isLetter_6, y_ic_gt_t, y_ic_gt_f, b_X1_isLetter_12, x_goto, b_X1_isLetter_16, b_X1_isLetter_17, x_ret1_0, x_ret1_1, q_isL_I, q_isL_R, q_isL_S, true_and, and_true, and_self, List.length_nil, List.length_cons, Nat.zero_add, x_K, x_Kn, Int.reduceToNat, Nat.reduceAdd, Nat.reduceMul, Nat.reduceLeDiff, Nat.reduceLT, Nat.zero_le, Int.reduceAdd, Int.reduceSub, Int.reduceMul, Int.reduceNeg, q_add_e, q_sub_e, q_mul_e, q_neg_e, q_upd_s, q_upd_n, zr_shr0, zr_shr1, zr_shr2, zr_shr3, zr_shr4, zr_and, zr_dyn8, zr_or, zr_shl, q_cpy_n, y_cpy26]
  · rw [if_neg (fun z => h1 (of_decide_eq_true z).1)]
    simp (disch := omega) only [b_X1_isLetter_0, x_loadI_0, x_iconst, y_ic_lt_t, y_ic_lt_f, b_X1_isLetter_6, y_ic_gt_t, y_ic_gt_f, b_X1_isLetter_12, x_goto, b_X1_isLetter_16, b_X1_isLetter_17, x_ret1_0, x_ret1_1, q_isL_I, q_isL_R, q_isL_S, true_and, and_true, and_self, List.length_nil, List.length_cons, Nat.zero_add, x_K, x_Kn, Int.reduceToNat, Nat.reduceAdd, Nat.reduceMul, Nat.reduceLeDiff, Nat.reduceLT, Nat.zero_le, Int.reduceAdd, Int.reduceSub, Int.reduceMul, Int.reduceNeg, q_add_e, q_sub_e, q_mul_e, q_neg_e, q_upd_s, q_upd_n, zr_shr0, zr_shr1, zr_shr2, zr_shr3, zr_shr4, zr_and, zr_dyn8, zr_or, zr_shl, q_cpy_n, y_cpy26]
theorem sp_isDigit {d : Nat} {g : q_G} {M : q_M} {v : Int} (Q : Option q_V → q_G → q_M → Prop) : q_S 1 d 40 [qI v] g M Q = Q (some (qI (if F_dgt v = true then 1 else 0))) g M := by
  rw [s_X1_isDigit]
  unfold F_dgt
  by_cases h1 : 48 ≤ v
  · by_cases h2 : v ≤ 57
    · rw [if_pos (decide_eq_true ⟨h1, h2⟩)]
      simp (disch := omega) only [b_X1_isDigit_0, x_loadI_0, x_iconst, y_ic_lt_t, y_ic_lt_f, b_X1_isDigit_6, y_ic_gt_t, y_ic_gt_f, b_X1_isDigit_12, x_goto, b_X1_isDigit_16, b_X1_isDigit_17, x_ret1_0, x_ret1_1, q_isL_I, q_isL_R, q_isL_S, true_and, and_true, and_self, List.length_nil, List.length_cons, Nat.zero_add, x_K, x_Kn, Int.reduceToNat, Nat.reduceAdd, Nat.reduceMul, Nat.reduceLeDiff, Nat.reduceLT, Nat.zero_le, Int.reduceAdd, Int.reduceSub, Int.reduceMul, Int.reduceNeg, q_add_e, q_sub_e, q_mul_e, q_neg_e, q_upd_s, q_upd_n, zr_shr0, zr_shr1, zr_shr2, zr_shr3, zr_shr4, zr_and, zr_dyn8, zr_or, zr_shl, q_cpy_n, y_cpy26]
    · rw [if_neg (fun z => h2 (of_decide_eq_true z).2)]
      simp (disch := omega) only [b_X1_isDigit_0, x_loadI_0, x_iconst, y_ic_lt_t, y_ic_lt_f, b_X1_isDigit_6, y_ic_gt_t, y_ic_gt_f, b_X1_isDigit_12, x_goto, b_X1_isDigit_16, b_X1_isDigit_17, x_ret1_0, x_ret1_1, q_isL_I, q_isL_R, q_isL_S, true_and, and_true, and_self, List.length_nil, List.length_cons, Nat.zero_add, x_K, x_Kn, Int.reduceToNat, Nat.reduceAdd, Nat.reduceMul, Nat.reduceLeDiff, Nat.reduceLT, Nat.zero_le, Int.reduceAdd, Int.reduceSub, Int.reduceMul, Int.reduceNeg, q_add_e, q_sub_e, q_mul_e, q_neg_e, q_upd_s, q_upd_n, zr_shr0, zr_shr1, zr_shr2, zr_shr3, zr_shr4, zr_and, zr_dyn8, zr_or, zr_shl, q_cpy_n, y_cpy26]
  · rw [if_neg (fun z => h1 (of_decide_eq_true z).1)]
    simp (disch := omega) only [b_X1_isDigit_0, x_loadI_0, x_iconst, y_ic_lt_t, y_ic_lt_f, b_X1_isDigit_6, y_ic_gt_t, y_ic_gt_f, b_X1_isDigit_12, x_goto, b_X1_isDigit_16, b_X1_isDigit_17, x_ret1_0, x_ret1_1, q_isL_I, q_isL_R, q_isL_S, true_and, and_true, and_self, List.length_nil, List.length_cons, Nat.zero_add, x_K, x_Kn, Int.reduceToNat, Nat.reduceAdd, Nat.reduceMul, Nat.reduceLeDiff, Nat.reduceLT, Nat.zero_le, Int.reduceAdd, Int.reduceSub, Int.reduceMul, Int.reduceNeg, q_add_e, q_sub_e, q_mul_e, q_neg_e, q_upd_s, q_upd_n, zr_shr0, zr_shr1, zr_shr2, zr_shr3, zr_shr4, zr_and, zr_dyn8, zr_or, zr_shl, q_cpy_n, y_cpy26]
theorem sp_isSign {d : Nat} {g : q_G} {M : q_M} {v : Int} (Q : Option q_V → q_G → q_M → Prop) : q_S 1 d 41 [qI v] g M Q = Q (some (qI (if F_sgn v = true then 1 else 0))) g M := by
  refine q_S_eq (fun Q hq => ?_) Q
  rw [s_X1_isSign]
  unfold F_sgn at hq
  by_cases h1 : v = 40
  · rw [if_pos (decide_eq_true (by omega))] at hq
    simp (disch := omega) only [b_X1_isSign_0, x_loadI_0, x_iconst, y_ic_eq_t, y_ic_eq_f, b_X1_isSign_6, b_X1_isSign_12, b_X1_isSign_18, b_X1_isSign_24, b_X1_isSign_30, b_X1_isSign_36, b_X1_isSign_42, y_ic_ne_t, y_ic_ne_f, b_X1_isSign_48, x_goto, b_X1_isSign_52, b_X1_isSign_53, x_ret1_0, x_ret1_1, q_isL_I, q_isL_R, q_isL_S, true_and, and_true, and_self, List.length_nil, List.length_cons, Nat.zero_add, x_K, x_Kn, Int.reduceToNat, Nat.reduceAdd, Nat.reduceMul, Nat.reduceLeDiff, Nat.reduceLT, Nat.zero_le, Int.reduceAdd, Int.reduceSub, Int.reduceMul, Int.reduceNeg, q_add_e, q_sub_e, q_mul_e, q_neg_e, q_upd_s, q_upd_n, zr_shr0, zr_shr1, zr_shr2, zr_shr3, zr_shr4, zr_and, zr_dyn8, zr_or, zr_shl, q_cpy_n, y_cpy26]
    exact hq
  by_cases h2 : v = 41
  · rw [if_pos (decide_eq_true (by omega))] at hq
    simp (disch := omega) only [b_X1_isSign_0, x_loadI_0, x_iconst, y_ic_eq_t, y_ic_eq_f, b_X1_isSign_6, b_X1_isSign_12, b_X1_isSign_18, b_X1_isSign_24, b_X1_isSign_30, b_X1_isSign_36, b_X1_isSign_42, y_ic_ne_t, y_ic_ne_f, b_X1_isSign_48, x_goto, b_X1_isSign_52, b_X1_isSign_53, x_ret1_0, x_ret1_1, q_isL_I, q_isL_R, q_isL_S, true_and, and_true, and_self, List.length_nil, List.length_cons, Nat.zero_add, x_K, x_Kn, Int.reduceToNat, Nat.reduceAdd, Nat.reduceMul, Nat.reduceLeDiff, Nat.reduceLT, Nat.zero_le, Int.reduceAdd, Int.reduceSub, Int.reduceMul, Int.reduceNeg, q_add_e, q_sub_e, q_mul_e, q_neg_e, q_upd_s, q_upd_n, zr_shr0, zr_shr1, zr_shr2, zr_shr3, zr_shr4, zr_and, zr_dyn8, zr_or, zr_shl, q_cpy_n, y_cpy26]
    exact hq
  by_cases h3 : v = 59
  · rw [if_pos (decide_eq_true (by omega))] at hq
    simp (disch := omega) only [b_X1_isSign_0, x_loadI_0, x_iconst, y_ic_eq_t, y_ic_eq_f, b_X1_isSign_6, b_X1_isSign_12, b_X1_isSign_18, b_X1_isSign_24, b_X1_isSign_30, b_X1_isSign_36, b_X1_isSign_42, y_ic_ne_t, y_ic_ne_f, b_X1_isSign_48, x_goto, b_X1_isSign_52, b_X1_isSign_53, x_ret1_0, x_ret1_1, q_isL_I, q_isL_R, q_isL_S, true_and, and_true, and_self, List.length_nil, List.length_cons, Nat.zero_add, x_K, x_Kn, Int.reduceToNat, Nat.reduceAdd, Nat.reduceMul, Nat.reduceLeDiff, Nat.reduceLT, Nat.zero_le, Int.reduceAdd, Int.reduceSub, Int.reduceMul, Int.reduceNeg, q_add_e, q_sub_e, q_mul_e, q_neg_e, q_upd_s, q_upd_n, zr_shr0, zr_shr1, zr_shr2, zr_shr3, zr_shr4, zr_and, zr_dyn8, zr_or, zr_shl, q_cpy_n, y_cpy26]
    exact hq
  by_cases h4 : v = 43
  · rw [if_pos (decide_eq_true (by omega))] at hq
    simp (disch := omega) only [b_X1_isSign_0, x_loadI_0, x_iconst, y_ic_eq_t, y_ic_eq_f, b_X1_isSign_6, b_X1_isSign_12, b_X1_isSign_18, b_X1_isSign_24, b_X1_isSign_30, b_X1_isSign_36, b_X1_isSign_42, y_ic_ne_t, y_ic_ne_f, b_X1_isSign_48, x_goto, b_X1_isSign_52, b_X1_isSign_53, x_ret1_0, x_ret1_1, q_isL_I, q_isL_R, q_isL_S, true_and, and_true, and_self, List.length_nil, List.length_cons, Nat.zero_add, x_K, x_Kn, Int.reduceToNat, Nat.reduceAdd, Nat.reduceMul, Nat.reduceLeDiff, Nat.reduceLT, Nat.zero_le, Int.reduceAdd, Int.reduceSub, Int.reduceMul, Int.reduceNeg, q_add_e, q_sub_e, q_mul_e, q_neg_e, q_upd_s, q_upd_n, zr_shr0, zr_shr1, zr_shr2, zr_shr3, zr_shr4, zr_and, zr_dyn8, zr_or, zr_shl, q_cpy_n, y_cpy26]
    exact hq
  by_cases h5 : v = 45
  · rw [if_pos (decide_eq_true (by omega))] at hq
    simp (disch := omega) only [b_X1_isSign_0, x_loadI_0, x_iconst, y_ic_eq_t, y_ic_eq_f, b_X1_isSign_6, b_X1_isSign_12, b_X1_isSign_18, b_X1_isSign_24, b_X1_isSign_30, b_X1_isSign_36, b_X1_isSign_42, y_ic_ne_t, y_ic_ne_f, b_X1_isSign_48, x_goto, b_X1_isSign_52, b_X1_isSign_53, x_ret1_0, x_ret1_1, q_isL_I, q_isL_R, q_isL_S, true_and, and_true, and_self, List.length_nil, List.length_cons, Nat.zero_add, x_K, x_Kn, Int.reduceToNat, Nat.reduceAdd, Nat.reduceMul, Nat.reduceLeDiff, Nat.reduceLT, Nat.zero_le, Int.reduceAdd, Int.reduceSub, Int.reduceMul, Int.reduceNeg, q_add_e, q_sub_e, q_mul_e, q_neg_e, q_upd_s, q_upd_n, zr_shr0, zr_shr1, zr_shr2, zr_shr3, zr_shr4, zr_and, zr_dyn8, zr_or, zr_shl, q_cpy_n, y_cpy26]
    exact hq
  by_cases h6 : v = 42
  · rw [if_pos (decide_eq_true (by omega))] at hq
    simp (disch := omega) only [b_X1_isSign_0, x_loadI_0, x_iconst, y_ic_eq_t, y_ic_eq_f, b_X1_isSign_6, b_X1_isSign_12, b_X1_isSign_18, b_X1_isSign_24, b_X1_isSign_30, b_X1_isSign_36, b_X1_isSign_42, y_ic_ne_t, y_ic_ne_f, b_X1_isSign_48, x_goto, b_X1_isSign_52, b_X1_isSign_53, x_ret1_0, x_ret1_1, q_isL_I, q_isL_R, q_isL_S, true_and, and_true, and_self, List.length_nil, List.length_cons, Nat.zero_add, x_K, x_Kn, Int.reduceToNat, Nat.reduceAdd, Nat.reduceMul, Nat.reduceLeDiff, Nat.reduceLT, Nat.zero_le, Int.reduceAdd, Int.reduceSub, Int.reduceMul, Int.reduceNeg, q_add_e, q_sub_e, q_mul_e, q_neg_e, q_upd_s, q_upd_n, zr_shr0, zr_shr1, zr_shr2, zr_shr3, zr_shr4, zr_and, zr_dyn8, zr_or, zr_shl, q_cpy_n, y_cpy26]
    exact hq
  by_cases h7 : v = 60
  · rw [if_pos (decide_eq_true (by omega))] at hq
    simp (disch := omega) only [b_X1_isSign_0, x_loadI_0, x_iconst, y_ic_eq_t, y_ic_eq_f, b_X1_isSign_6, b_X1_isSign_12, b_X1_isSign_18, b_X1_isSign_24, b_X1_isSign_30, b_X1_isSign_36, b_X1_isSign_42, y_ic_ne_t, y_ic_ne_f, b_X1_isSign_48, x_goto, b_X1_isSign_52, b_X1_isSign_53, x_ret1_0, x_ret1_1, q_isL_I, q_isL_R, q_isL_S, true_and, and_true, and_self, List.length_nil, List.length_cons, Nat.zero_add, x_K, x_Kn, Int.reduceToNat, Nat.reduceAdd, Nat.reduceMul, Nat.reduceLeDiff, Nat.reduceLT, Nat.zero_le, Int.reduceAdd, Int.reduceSub, Int.reduceMul, Int.reduceNeg, q_add_e, q_sub_e, q_mul_e, q_neg_e, q_upd_s, q_upd_n, zr_shr0, zr_shr1, zr_shr2, zr_shr3, zr_shr4, zr_and, zr_dyn8, zr_or, zr_shl, q_cpy_n, y_cpy26]
    exact hq
  by_cases h8 : v = 61
  · rw [if_pos (decide_eq_true (by omega))] at hq
    simp (disch := omega) only [b_X1_isSign_0, x_loadI_0, x_iconst, y_ic_eq_t, y_ic_eq_f, b_X1_isSign_6, b_X1_isSign_12, b_X1_isSign_18, b_X1_isSign_24, b_X1_isSign_30, b_X1_isSign_36, b_X1_isSign_42, y_ic_ne_t, y_ic_ne_f, b_X1_isSign_48, x_goto, b_X1_isSign_52, b_X1_isSign_53, x_ret1_0, x_ret1_1, q_isL_I, q_isL_R, q_isL_S, true_and, and_true, and_self, List.length_nil, List.length_cons, Nat.zero_add, x_K, x_Kn, Int.reduceToNat, Nat.reduceAdd, Nat.reduceMul, Nat.reduceLeDiff, Nat.reduceLT, Nat.zero_le, Int.reduceAdd, Int.reduceSub, Int.reduceMul, Int.reduceNeg, q_add_e, q_sub_e, q_mul_e, q_neg_e, q_upd_s, q_upd_n, zr_shr0, zr_shr1, zr_shr2, zr_shr3, zr_shr4, zr_and, zr_dyn8, zr_or, zr_shl, q_cpy_n, y_cpy26]
    exact hq
  · rw [if_neg (fun z => by have := of_decide_eq_true z; omega)] at hq
    simp (disch := omega) only [b_X1_isSign_0, x_loadI_0, x_iconst, y_ic_eq_t, y_ic_eq_f, b_X1_isSign_6, b_X1_isSign_12, b_X1_isSign_18, b_X1_isSign_24, b_X1_isSign_30, b_X1_isSign_36, b_X1_isSign_42, y_ic_ne_t, y_ic_ne_f, b_X1_isSign_48, x_goto, b_X1_isSign_52, b_X1_isSign_53, x_ret1_0, x_ret1_1, q_isL_I, q_isL_R, q_isL_S, true_and, and_true, and_self, List.length_nil, List.length_cons, Nat.zero_add, x_K, x_Kn, Int.reduceToNat, Nat.reduceAdd, Nat.reduceMul, Nat.reduceLeDiff, Nat.reduceLT, Nat.zero_le, Int.reduceAdd, Int.reduceSub, Int.reduceMul, Int.reduceNeg, q_add_e, q_sub_e, q_mul_e, q_neg_e, q_upd_s, q_upd_n, zr_shr0, zr_shr1, zr_shr2, zr_shr3, zr_shr4, zr_and, zr_dyn8, zr_or, zr_shl, q_cpy_n, y_cpy26]
    exact hq
theorem F_sm_f {T : Nat → Int} {i j : Nat} : ∀ m k : Nat, k ≤ m → F_sm T i j k = false → F_sm T i j m = false
  | 0, k, h, e => by
    have e2 : k = 0 := by omega
    subst e2
    exact e
  | m + 1, k, h, e => by
    by_cases c : k = m + 1
    · subst c
      exact e
    · rw [F_sm, F_sm_f m k (by omega) e]
      rfl
set_option maxHeartbeats 4000000 in
theorem sp_mean {d : Nat} {g : q_G} {M : q_M} {cn tok val ft t v : Int} {C s : Nat → Int} {i b j : Nat} {Q : Option q_V → q_G → q_M → Prop} (hib : i ≤ b) (hb : b ≤ 160) (hj1 : 1 ≤ j) (hj2 : j < 13) (hq : Q none g (q_zM M (cn, (R_m (M 2) i b j t v (tok, val)).1, (R_m (M 2) i b j t v (tok, val)).2, i, b, ft, C) s)) : q_S 1 (d + 5) 38 [qR 1 1, qS (16 + j), qI t, qI v] g (q_zM M (cn, tok, val, i, b, ft, C) s) Q := by
  have hsl := q_slen_1 hj1 hj2
  rw [s_X1_mean]
  unfold R_m F_is at hq
  by_cases c1 : q_slen j = (b : Int) - i
  · have hlen : ∀ k : Nat, k = (q_slen j).toNat → (k : Int) = q_slen j := fun k hk => by omega
    have loop : ∀ e k : Nat, (k : Int) + e = q_slen j → F_sm (M 2) i j k = true → q_T 1 (d + 5) qP_X1_mean 26 [] [qR 1 1, qS (16 + j), qI t, qI v, qI 1, qI k] [] g (q_zM M (cn, tok, val, i, b, ft, C) s) Q := by
      intro e
      induction e with
      | zero =>
        intro k hk hs
        have e2 : (q_slen j).toNat = k := by omega
        rw [e2, hs, decide_eq_true c1] at hq
        rw [b_X1_mean_26]
        simp (disch := omega) only [b_X1_mean_0, x_loadR_1, x_loadS_1, x_loadR_0, x_loadS_0, f_1_8, f_1_7, x_isub, y_ic_ne_t, y_ic_ne_f, b_X1_mean_16, x_iconst, x_goto, b_X1_mean_20, b_X1_mean_21, x_storeI_4, x_storeI_5, x_loadI_4, y_if_eq_t, y_if_eq_f, b_X1_mean_31, x_loadI_5, y_ic_ge_t, y_ic_ge_f, b_X1_mean_40, f_1_0, x_iadd, y_iald_180, b_X1_mean_61, b_X1_mean_65, b_X1_mean_66, x_iinc_5, b_X1_mean_74, b_X1_mean_79, x_loadI_2, p_1_5, x_loadI_3, p_1_6, b_X1_mean_89, x_vret, q_isL_I, q_isL_R, q_isL_S, true_and, and_true, and_self, List.length_nil, List.length_cons, Nat.zero_add, x_K, x_Kn, Int.reduceToNat, Nat.reduceAdd, Nat.reduceMul, Nat.reduceLeDiff, Nat.reduceLT, Nat.zero_le, Int.reduceAdd, Int.reduceSub, Int.reduceMul, Int.reduceNeg, q_add_e, q_sub_e, q_mul_e, q_neg_e, q_upd_s, q_upd_n, zr_shr0, zr_shr1, zr_shr2, zr_shr3, zr_shr4, zr_and, zr_dyn8, zr_or, zr_shl, q_cpy_n, y_cpy26, c_len, sp_length]
        simp only [ru_tok, ru_val]
        exact hq
      | succ e ih =>
        intro k hk hs
        have t1 : ((i : Int) + k).toNat = i + k := by omega
        have ih2 := ih (k + 1) (by omega)
        rw [b_X1_mean_26]
        by_cases c2 : M 2 (i + k) = q_sch j k
        · have hs2 : F_sm (M 2) i j (k + 1) = true := by rw [F_sm, hs, decide_eq_true c2]; rfl
          simp (disch := omega) only [b_X1_mean_0, x_loadR_1, x_loadS_1, x_loadR_0, x_loadS_0, f_1_8, f_1_7, x_isub, y_ic_ne_t, y_ic_ne_f, b_X1_mean_16, x_iconst, x_goto, b_X1_mean_20, b_X1_mean_21, x_storeI_4, x_storeI_5, x_loadI_4, y_if_eq_t, y_if_eq_f, b_X1_mean_31, x_loadI_5, y_ic_ge_t, y_ic_ge_f, b_X1_mean_40, f_1_0, x_iadd, y_iald_180, b_X1_mean_61, b_X1_mean_65, b_X1_mean_66, x_iinc_5, b_X1_mean_74, b_X1_mean_79, x_loadI_2, p_1_5, x_loadI_3, p_1_6, b_X1_mean_89, x_vret, q_isL_I, q_isL_R, q_isL_S, true_and, and_true, and_self, List.length_nil, List.length_cons, Nat.zero_add, x_K, x_Kn, Int.reduceToNat, Nat.reduceAdd, Nat.reduceMul, Nat.reduceLeDiff, Nat.reduceLT, Nat.zero_le, Int.reduceAdd, Int.reduceSub, Int.reduceMul, Int.reduceNeg, q_add_e, q_sub_e, q_mul_e, q_neg_e, q_upd_s, q_upd_n, zr_shr0, zr_shr1, zr_shr2, zr_shr3, zr_shr4, zr_and, zr_dyn8, zr_or, zr_shl, q_cpy_n, y_cpy26, c_len, sp_length, c_cha, sp_charAt, rr_tape, rr_fr, t1, c2]
          exact ih2 hs2
        · have hs2 : F_sm (M 2) i j (k + 1) = false := by rw [F_sm, hs, decide_eq_false c2]; rfl
          have hs3 := F_sm_f (q_slen j).toNat (k + 1) (by omega) hs2
          rw [hs3, Bool.and_false, if_neg (by decide)] at hq
          simp (disch := omega) only [b_X1_mean_0, x_loadR_1, x_loadS_1, x_loadR_0, x_loadS_0, f_1_8, f_1_7, x_isub, y_ic_ne_t, y_ic_ne_f, b_X1_mean_16, x_iconst, x_goto, b_X1_mean_20, b_X1_mean_21, x_storeI_4, x_storeI_5, x_loadI_4, y_if_eq_t, y_if_eq_f, b_X1_mean_31, x_loadI_5, y_ic_ge_t, y_ic_ge_f, b_X1_mean_40, f_1_0, x_iadd, y_iald_180, b_X1_mean_61, b_X1_mean_65, b_X1_mean_66, x_iinc_5, b_X1_mean_74, b_X1_mean_79, x_loadI_2, p_1_5, x_loadI_3, p_1_6, b_X1_mean_89, x_vret, q_isL_I, q_isL_R, q_isL_S, true_and, and_true, and_self, List.length_nil, List.length_cons, Nat.zero_add, x_K, x_Kn, Int.reduceToNat, Nat.reduceAdd, Nat.reduceMul, Nat.reduceLeDiff, Nat.reduceLT, Nat.zero_le, Int.reduceAdd, Int.reduceSub, Int.reduceMul, Int.reduceNeg, q_add_e, q_sub_e, q_mul_e, q_neg_e, q_upd_s, q_upd_n, zr_shr0, zr_shr1, zr_shr2, zr_shr3, zr_shr4, zr_and, zr_dyn8, zr_or, zr_shl, q_cpy_n, y_cpy26, c_len, sp_length, c_cha, sp_charAt, rr_tape, rr_fr, t1]
          simp (disch := omega) only [b_X1_mean_0, x_loadR_1, x_loadS_1, x_loadR_0, x_loadS_0, f_1_8, f_1_7, x_isub, y_ic_ne_t, y_ic_ne_f, b_X1_mean_16, x_iconst, x_goto, b_X1_mean_20, b_X1_mean_21, x_storeI_4, x_storeI_5, b_X1_mean_26, x_loadI_4, y_if_eq_t, y_if_eq_f, b_X1_mean_31, x_loadI_5, y_ic_ge_t, y_ic_ge_f, b_X1_mean_40, f_1_0, x_iadd, y_iald_180, b_X1_mean_61, b_X1_mean_65, b_X1_mean_66, x_iinc_5, b_X1_mean_74, b_X1_mean_79, x_loadI_2, p_1_5, x_loadI_3, p_1_6, b_X1_mean_89, x_vret, q_isL_I, q_isL_R, q_isL_S, true_and, and_true, and_self, List.length_nil, List.length_cons, Nat.zero_add, x_K, x_Kn, Int.reduceToNat, Nat.reduceAdd, Nat.reduceMul, Nat.reduceLeDiff, Nat.reduceLT, Nat.zero_le, Int.reduceAdd, Int.reduceSub, Int.reduceMul, Int.reduceNeg, q_add_e, q_sub_e, q_mul_e, q_neg_e, q_upd_s, q_upd_n, zr_shr0, zr_shr1, zr_shr2, zr_shr3, zr_shr4, zr_and, zr_dyn8, zr_or, zr_shl, q_cpy_n, y_cpy26]
          exact hq
    simp (disch := omega) only [b_X1_mean_0, x_loadR_1, x_loadS_1, x_loadR_0, x_loadS_0, f_1_8, f_1_7, x_isub, y_ic_ne_t, y_ic_ne_f, b_X1_mean_16, x_iconst, x_goto, b_X1_mean_20, b_X1_mean_21, x_storeI_4, x_storeI_5, x_loadI_4, y_if_eq_t, y_if_eq_f, b_X1_mean_31, x_loadI_5, y_ic_ge_t, y_ic_ge_f, b_X1_mean_40, f_1_0, x_iadd, y_iald_180, b_X1_mean_61, b_X1_mean_65, b_X1_mean_66, x_iinc_5, b_X1_mean_74, b_X1_mean_79, x_loadI_2, p_1_5, x_loadI_3, p_1_6, b_X1_mean_89, x_vret, q_isL_I, q_isL_R, q_isL_S, true_and, and_true, and_self, List.length_nil, List.length_cons, Nat.zero_add, x_K, x_Kn, Int.reduceToNat, Nat.reduceAdd, Nat.reduceMul, Nat.reduceLeDiff, Nat.reduceLT, Nat.zero_le, Int.reduceAdd, Int.reduceSub, Int.reduceMul, Int.reduceNeg, q_add_e, q_sub_e, q_mul_e, q_neg_e, q_upd_s, q_upd_n, zr_shr0, zr_shr1, zr_shr2, zr_shr3, zr_shr4, zr_and, zr_dyn8, zr_or, zr_shl, q_cpy_n, y_cpy26, c_len, sp_length, rr_fr, rr_bh]
    exact loop (q_slen j).toNat 0 (by omega) rfl
  · rw [decide_eq_false c1, Bool.false_and, if_neg (by decide)] at hq
    simp (disch := omega) only [b_X1_mean_0, x_loadR_1, x_loadS_1, x_loadR_0, x_loadS_0, f_1_8, f_1_7, x_isub, y_ic_ne_t, y_ic_ne_f, b_X1_mean_16, x_iconst, x_goto, b_X1_mean_20, b_X1_mean_21, x_storeI_4, x_storeI_5, b_X1_mean_26, x_loadI_4, y_if_eq_t, y_if_eq_f, b_X1_mean_31, x_loadI_5, y_ic_ge_t, y_ic_ge_f, b_X1_mean_40, f_1_0, x_iadd, y_iald_180, b_X1_mean_61, b_X1_mean_65, b_X1_mean_66, x_iinc_5, b_X1_mean_74, b_X1_mean_79, x_loadI_2, p_1_5, x_loadI_3, p_1_6, b_X1_mean_89, x_vret, q_isL_I, q_isL_R, q_isL_S, true_and, and_true, and_self, List.length_nil, List.length_cons, Nat.zero_add, x_K, x_Kn, Int.reduceToNat, Nat.reduceAdd, Nat.reduceMul, Nat.reduceLeDiff, Nat.reduceLT, Nat.zero_le, Int.reduceAdd, Int.reduceSub, Int.reduceMul, Int.reduceNeg, q_add_e, q_sub_e, q_mul_e, q_neg_e, q_upd_s, q_upd_n, zr_shr0, zr_shr1, zr_shr2, zr_shr3, zr_shr4, zr_and, zr_dyn8, zr_or, zr_shl, q_cpy_n, y_cpy26, c_len, sp_length, rr_fr, rr_bh]
    exact hq
end
section
/-! THE CLASS'S READER: word, number, next -/
set_option maxHeartbeats 4000000 in
theorem sp_word {d : Nat} {g : q_G} {M : q_M} {cn tok val ft : Int} {C s : Nat → Int} {i b0 n : Nat} {Q : Option q_V → q_G → q_M → Prop} (hn : M 1 1 = n) (hn2 : n ≤ 160) (hib : i ≤ b0) (hb : b0 ≤ n) (hq : Q none g (q_zM M (cn, (R_wd (M 2) i (F_wh F_ltr (M 2) (n - b0) b0) val).1, (R_wd (M 2) i (F_wh F_ltr (M 2) (n - b0) b0) val).2, i, (F_wh F_ltr (M 2) (n - b0) b0 : Nat), ft, C) s)) : q_S 1 (d + 6) 36 [qR 1 1] g (q_zM M (cn, tok, val, i, b0, ft, C) s) Q := by
  have mn : ∀ (j : Nat) (t v tok val : Int) (b : Nat) (nx : Nat) (ops : List Instr) (ls st : List q_V), 1 ≤ j → j < 13 → i ≤ b → b ≤ 160 → q_T 1 (d + 6) qP_X1_word nx ops ls st g (q_zM M (cn, (R_m (M 2) i b j t v (tok, val)).1, (R_m (M 2) i b j t v (tok, val)).2, i, b, ft, C) s) Q → q_S 1 (d + 5) 38 [qR 1 1, qS (16 + j), qI t, qI v] g (q_zM M (cn, tok, val, i, b, ft, C) s) (q_K 1 (d + 6) qP_X1_word nx ops ls st Q) := fun j t v tok val b nx ops ls st h1 h2 h3 h4 h => sp_mean h3 h4 h1 h2 h
  have tail : ∀ b : Nat, i ≤ b → b ≤ n → Q none g (q_zM M (cn, (R_wd (M 2) i b val).1, (R_wd (M 2) i b val).2, i, b, ft, C) s) → q_T 1 (d + 6) qP_X1_word 39 [] [qR 1 1] [] g (q_zM M (cn, tok, val, i, b, ft, C) s) Q := by
    intro b h1 h2 hq
    rw [b_X1_word_39]
    simp (disch := omega) only [x_loadR_0, x_loadS_0, f_1_8, f_1_1, y_ic_ge_t, y_ic_ge_f, b_X1_word_11, f_1_0, y_iald_180, y_if_eq_t, y_if_eq_f, b_X1_word_26, x_dupI, x_dupR, x_iconst, x_iadd, p_1_8, x_goto, p_1_5, x_ldc, b_X1_word_128, x_vret, q_isL_I, q_isL_R, q_isL_S, true_and, and_true, and_self, List.length_nil, List.length_cons, Nat.zero_add, x_K, x_Kn, Int.reduceToNat, Nat.reduceMul, Nat.reduceLeDiff, Nat.reduceLT, Nat.zero_le, Int.reduceAdd, Int.reduceSub, Int.reduceMul, Int.reduceNeg, q_add_e, q_sub_e, q_mul_e, q_neg_e, q_upd_s, q_upd_n, zr_shr0, zr_shr1, zr_shr2, zr_shr3, zr_shr4, zr_and, zr_dyn8, zr_or, zr_shl, q_cpy_n, y_cpy26, c_X1_mean, ru_tok]
    refine mn 1 _ _ _ _ b _ _ _ _ (by omega) (by omega) h1 (by omega) ?_
    simp (disch := omega) only [x_loadR_0, x_loadS_0, f_1_8, f_1_1, y_ic_ge_t, y_ic_ge_f, b_X1_word_11, f_1_0, y_iald_180, y_if_eq_t, y_if_eq_f, b_X1_word_26, x_dupI, x_dupR, x_iconst, x_iadd, p_1_8, x_goto, p_1_5, x_ldc, b_X1_word_128, x_vret, q_isL_I, q_isL_R, q_isL_S, true_and, and_true, and_self, List.length_nil, List.length_cons, Nat.zero_add, x_K, x_Kn, Int.reduceToNat, Nat.reduceMul, Nat.reduceLeDiff, Nat.reduceLT, Nat.zero_le, Int.reduceAdd, Int.reduceSub, Int.reduceMul, Int.reduceNeg, q_add_e, q_sub_e, q_mul_e, q_neg_e, q_upd_s, q_upd_n, zr_shr0, zr_shr1, zr_shr2, zr_shr3, zr_shr4, zr_and, zr_dyn8, zr_or, zr_shl, q_cpy_n, y_cpy26, c_X1_mean]
    refine mn 2 _ _ _ _ b _ _ _ _ (by omega) (by omega) h1 (by omega) ?_
    simp (disch := omega) only [x_loadR_0, x_loadS_0, f_1_8, f_1_1, y_ic_ge_t, y_ic_ge_f, b_X1_word_11, f_1_0, y_iald_180, y_if_eq_t, y_if_eq_f, b_X1_word_26, x_dupI, x_dupR, x_iconst, x_iadd, p_1_8, x_goto, p_1_5, x_ldc, b_X1_word_128, x_vret, q_isL_I, q_isL_R, q_isL_S, true_and, and_true, and_self, List.length_nil, List.length_cons, Nat.zero_add, x_K, x_Kn, Int.reduceToNat, Nat.reduceMul, Nat.reduceLeDiff, Nat.reduceLT, Nat.zero_le, Int.reduceAdd, Int.reduceSub, Int.reduceMul, Int.reduceNeg, q_add_e, q_sub_e, q_mul_e, q_neg_e, q_upd_s, q_upd_n, zr_shr0, zr_shr1, zr_shr2, zr_shr3, zr_shr4, zr_and, zr_dyn8, zr_or, zr_shl, q_cpy_n, y_cpy26, c_X1_mean]
    refine mn 3 _ _ _ _ b _ _ _ _ (by omega) (by omega) h1 (by omega) ?_
    simp (disch := omega) only [x_loadR_0, x_loadS_0, f_1_8, f_1_1, y_ic_ge_t, y_ic_ge_f, b_X1_word_11, f_1_0, y_iald_180, y_if_eq_t, y_if_eq_f, b_X1_word_26, x_dupI, x_dupR, x_iconst, x_iadd, p_1_8, x_goto, p_1_5, x_ldc, b_X1_word_128, x_vret, q_isL_I, q_isL_R, q_isL_S, true_and, and_true, and_self, List.length_nil, List.length_cons, Nat.zero_add, x_K, x_Kn, Int.reduceToNat, Nat.reduceMul, Nat.reduceLeDiff, Nat.reduceLT, Nat.zero_le, Int.reduceAdd, Int.reduceSub, Int.reduceMul, Int.reduceNeg, q_add_e, q_sub_e, q_mul_e, q_neg_e, q_upd_s, q_upd_n, zr_shr0, zr_shr1, zr_shr2, zr_shr3, zr_shr4, zr_and, zr_dyn8, zr_or, zr_shl, q_cpy_n, y_cpy26, c_X1_mean]
    refine mn 4 _ _ _ _ b _ _ _ _ (by omega) (by omega) h1 (by omega) ?_
    simp (disch := omega) only [x_loadR_0, x_loadS_0, f_1_8, f_1_1, y_ic_ge_t, y_ic_ge_f, b_X1_word_11, f_1_0, y_iald_180, y_if_eq_t, y_if_eq_f, b_X1_word_26, x_dupI, x_dupR, x_iconst, x_iadd, p_1_8, x_goto, p_1_5, x_ldc, b_X1_word_128, x_vret, q_isL_I, q_isL_R, q_isL_S, true_and, and_true, and_self, List.length_nil, List.length_cons, Nat.zero_add, x_K, x_Kn, Int.reduceToNat, Nat.reduceMul, Nat.reduceLeDiff, Nat.reduceLT, Nat.zero_le, Int.reduceAdd, Int.reduceSub, Int.reduceMul, Int.reduceNeg, q_add_e, q_sub_e, q_mul_e, q_neg_e, q_upd_s, q_upd_n, zr_shr0, zr_shr1, zr_shr2, zr_shr3, zr_shr4, zr_and, zr_dyn8, zr_or, zr_shl, q_cpy_n, y_cpy26, c_X1_mean]
    refine mn 5 _ _ _ _ b _ _ _ _ (by omega) (by omega) h1 (by omega) ?_
    simp (disch := omega) only [x_loadR_0, x_loadS_0, f_1_8, f_1_1, y_ic_ge_t, y_ic_ge_f, b_X1_word_11, f_1_0, y_iald_180, y_if_eq_t, y_if_eq_f, b_X1_word_26, x_dupI, x_dupR, x_iconst, x_iadd, p_1_8, x_goto, p_1_5, x_ldc, b_X1_word_128, x_vret, q_isL_I, q_isL_R, q_isL_S, true_and, and_true, and_self, List.length_nil, List.length_cons, Nat.zero_add, x_K, x_Kn, Int.reduceToNat, Nat.reduceMul, Nat.reduceLeDiff, Nat.reduceLT, Nat.zero_le, Int.reduceAdd, Int.reduceSub, Int.reduceMul, Int.reduceNeg, q_add_e, q_sub_e, q_mul_e, q_neg_e, q_upd_s, q_upd_n, zr_shr0, zr_shr1, zr_shr2, zr_shr3, zr_shr4, zr_and, zr_dyn8, zr_or, zr_shl, q_cpy_n, y_cpy26, c_X1_mean]
    refine mn 6 _ _ _ _ b _ _ _ _ (by omega) (by omega) h1 (by omega) ?_
    simp (disch := omega) only [x_loadR_0, x_loadS_0, f_1_8, f_1_1, y_ic_ge_t, y_ic_ge_f, b_X1_word_11, f_1_0, y_iald_180, y_if_eq_t, y_if_eq_f, b_X1_word_26, x_dupI, x_dupR, x_iconst, x_iadd, p_1_8, x_goto, p_1_5, x_ldc, b_X1_word_128, x_vret, q_isL_I, q_isL_R, q_isL_S, true_and, and_true, and_self, List.length_nil, List.length_cons, Nat.zero_add, x_K, x_Kn, Int.reduceToNat, Nat.reduceMul, Nat.reduceLeDiff, Nat.reduceLT, Nat.zero_le, Int.reduceAdd, Int.reduceSub, Int.reduceMul, Int.reduceNeg, q_add_e, q_sub_e, q_mul_e, q_neg_e, q_upd_s, q_upd_n, zr_shr0, zr_shr1, zr_shr2, zr_shr3, zr_shr4, zr_and, zr_dyn8, zr_or, zr_shl, q_cpy_n, y_cpy26, c_X1_mean]
    refine mn 7 _ _ _ _ b _ _ _ _ (by omega) (by omega) h1 (by omega) ?_
    simp (disch := omega) only [x_loadR_0, x_loadS_0, f_1_8, f_1_1, y_ic_ge_t, y_ic_ge_f, b_X1_word_11, f_1_0, y_iald_180, y_if_eq_t, y_if_eq_f, b_X1_word_26, x_dupI, x_dupR, x_iconst, x_iadd, p_1_8, x_goto, p_1_5, x_ldc, b_X1_word_128, x_vret, q_isL_I, q_isL_R, q_isL_S, true_and, and_true, and_self, List.length_nil, List.length_cons, Nat.zero_add, x_K, x_Kn, Int.reduceToNat, Nat.reduceMul, Nat.reduceLeDiff, Nat.reduceLT, Nat.zero_le, Int.reduceAdd, Int.reduceSub, Int.reduceMul, Int.reduceNeg, q_add_e, q_sub_e, q_mul_e, q_neg_e, q_upd_s, q_upd_n, zr_shr0, zr_shr1, zr_shr2, zr_shr3, zr_shr4, zr_and, zr_dyn8, zr_or, zr_shl, q_cpy_n, y_cpy26, c_X1_mean]
    refine mn 8 _ _ _ _ b _ _ _ _ (by omega) (by omega) h1 (by omega) ?_
    simp (disch := omega) only [x_loadR_0, x_loadS_0, f_1_8, f_1_1, y_ic_ge_t, y_ic_ge_f, b_X1_word_11, f_1_0, y_iald_180, y_if_eq_t, y_if_eq_f, b_X1_word_26, x_dupI, x_dupR, x_iconst, x_iadd, p_1_8, x_goto, p_1_5, x_ldc, b_X1_word_128, x_vret, q_isL_I, q_isL_R, q_isL_S, true_and, and_true, and_self, List.length_nil, List.length_cons, Nat.zero_add, x_K, x_Kn, Int.reduceToNat, Nat.reduceMul, Nat.reduceLeDiff, Nat.reduceLT, Nat.zero_le, Int.reduceAdd, Int.reduceSub, Int.reduceMul, Int.reduceNeg, q_add_e, q_sub_e, q_mul_e, q_neg_e, q_upd_s, q_upd_n, zr_shr0, zr_shr1, zr_shr2, zr_shr3, zr_shr4, zr_and, zr_dyn8, zr_or, zr_shl, q_cpy_n, y_cpy26, c_X1_mean]
    refine mn 9 _ _ _ _ b _ _ _ _ (by omega) (by omega) h1 (by omega) ?_
    simp (disch := omega) only [x_loadR_0, x_loadS_0, f_1_8, f_1_1, y_ic_ge_t, y_ic_ge_f, b_X1_word_11, f_1_0, y_iald_180, y_if_eq_t, y_if_eq_f, b_X1_word_26, x_dupI, x_dupR, x_iconst, x_iadd, p_1_8, x_goto, p_1_5, x_ldc, b_X1_word_128, x_vret, q_isL_I, q_isL_R, q_isL_S, true_and, and_true, and_self, List.length_nil, List.length_cons, Nat.zero_add, x_K, x_Kn, Int.reduceToNat, Nat.reduceMul, Nat.reduceLeDiff, Nat.reduceLT, Nat.zero_le, Int.reduceAdd, Int.reduceSub, Int.reduceMul, Int.reduceNeg, q_add_e, q_sub_e, q_mul_e, q_neg_e, q_upd_s, q_upd_n, zr_shr0, zr_shr1, zr_shr2, zr_shr3, zr_shr4, zr_and, zr_dyn8, zr_or, zr_shl, q_cpy_n, y_cpy26, c_X1_mean]
    refine mn 10 _ _ _ _ b _ _ _ _ (by omega) (by omega) h1 (by omega) ?_
    simp (disch := omega) only [x_loadR_0, x_loadS_0, f_1_8, f_1_1, y_ic_ge_t, y_ic_ge_f, b_X1_word_11, f_1_0, y_iald_180, y_if_eq_t, y_if_eq_f, b_X1_word_26, x_dupI, x_dupR, x_iconst, x_iadd, p_1_8, x_goto, p_1_5, x_ldc, b_X1_word_128, x_vret, q_isL_I, q_isL_R, q_isL_S, true_and, and_true, and_self, List.length_nil, List.length_cons, Nat.zero_add, x_K, x_Kn, Int.reduceToNat, Nat.reduceMul, Nat.reduceLeDiff, Nat.reduceLT, Nat.zero_le, Int.reduceAdd, Int.reduceSub, Int.reduceMul, Int.reduceNeg, q_add_e, q_sub_e, q_mul_e, q_neg_e, q_upd_s, q_upd_n, zr_shr0, zr_shr1, zr_shr2, zr_shr3, zr_shr4, zr_and, zr_dyn8, zr_or, zr_shl, q_cpy_n, y_cpy26, c_X1_mean]
    refine mn 11 _ _ _ _ b _ _ _ _ (by omega) (by omega) h1 (by omega) ?_
    simp (disch := omega) only [x_loadR_0, x_loadS_0, f_1_8, f_1_1, y_ic_ge_t, y_ic_ge_f, b_X1_word_11, f_1_0, y_iald_180, y_if_eq_t, y_if_eq_f, b_X1_word_26, x_dupI, x_dupR, x_iconst, x_iadd, p_1_8, x_goto, p_1_5, x_ldc, b_X1_word_128, x_vret, q_isL_I, q_isL_R, q_isL_S, true_and, and_true, and_self, List.length_nil, List.length_cons, Nat.zero_add, x_K, x_Kn, Int.reduceToNat, Nat.reduceMul, Nat.reduceLeDiff, Nat.reduceLT, Nat.zero_le, Int.reduceAdd, Int.reduceSub, Int.reduceMul, Int.reduceNeg, q_add_e, q_sub_e, q_mul_e, q_neg_e, q_upd_s, q_upd_n, zr_shr0, zr_shr1, zr_shr2, zr_shr3, zr_shr4, zr_and, zr_dyn8, zr_or, zr_shl, q_cpy_n, y_cpy26, c_X1_mean]
    refine mn 12 _ _ _ _ b _ _ _ _ (by omega) (by omega) h1 (by omega) ?_
    simp (disch := omega) only [x_loadR_0, x_loadS_0, f_1_8, f_1_1, y_ic_ge_t, y_ic_ge_f, b_X1_word_11, f_1_0, y_iald_180, y_if_eq_t, y_if_eq_f, b_X1_word_26, x_dupI, x_dupR, x_iconst, x_iadd, p_1_8, x_goto, p_1_5, x_ldc, b_X1_word_128, x_vret, q_isL_I, q_isL_R, q_isL_S, true_and, and_true, and_self, List.length_nil, List.length_cons, Nat.zero_add, x_K, x_Kn, Int.reduceToNat, Nat.reduceMul, Nat.reduceLeDiff, Nat.reduceLT, Nat.zero_le, Int.reduceAdd, Int.reduceSub, Int.reduceMul, Int.reduceNeg, q_add_e, q_sub_e, q_mul_e, q_neg_e, q_upd_s, q_upd_n, zr_shr0, zr_shr1, zr_shr2, zr_shr3, zr_shr4, zr_and, zr_dyn8, zr_or, zr_shl, q_cpy_n, y_cpy26, c_X1_mean]
    exact hq
  have loop : ∀ e b : Nat, b + e = n → i ≤ b → Q none g (q_zM M (cn, (R_wd (M 2) i (F_wh F_ltr (M 2) e b) val).1, (R_wd (M 2) i (F_wh F_ltr (M 2) e b) val).2, i, (F_wh F_ltr (M 2) e b : Nat), ft, C) s) → q_T 1 (d + 6) qP_X1_word 0 [] [qR 1 1] [] g (q_zM M (cn, tok, val, i, b, ft, C) s) Q := by
    intro e
    induction e with
    | zero =>
      intro b hb hib hq
      rw [F_wh] at hq
      rw [b_X1_word_0]
      simp (disch := omega) only [x_loadR_0, x_loadS_0, f_1_8, f_1_1, y_ic_ge_t, y_ic_ge_f, b_X1_word_11, f_1_0, y_iald_180, y_if_eq_t, y_if_eq_f, b_X1_word_26, x_dupI, x_dupR, x_iconst, x_iadd, p_1_8, x_goto, p_1_5, x_ldc, b_X1_word_128, x_vret, q_isL_I, q_isL_R, q_isL_S, true_and, and_true, and_self, List.length_nil, List.length_cons, Nat.zero_add, x_K, x_Kn, Int.reduceToNat, Nat.reduceAdd, Nat.reduceMul, Nat.reduceLeDiff, Nat.reduceLT, Nat.zero_le, Int.reduceAdd, Int.reduceSub, Int.reduceMul, Int.reduceNeg, q_add_e, q_sub_e, q_mul_e, q_neg_e, q_upd_s, q_upd_n, zr_shr0, zr_shr1, zr_shr2, zr_shr3, zr_shr4, zr_and, zr_dyn8, zr_or, zr_shl, q_cpy_n, y_cpy26, rr_bh, rr_size, hn]
      exact tail b hib (by omega) hq
    | succ e ih =>
      intro b hb hib hq
      rw [F_wh] at hq
      rw [b_X1_word_0]
      by_cases c : F_ltr (M 2 b) = true
      · rw [if_pos c] at hq
        simp (disch := omega) only [x_loadR_0, x_loadS_0, f_1_8, f_1_1, y_ic_ge_t, y_ic_ge_f, b_X1_word_11, f_1_0, y_iald_180, y_if_eq_t, y_if_eq_f, b_X1_word_26, x_dupI, x_dupR, x_iconst, x_iadd, p_1_8, x_goto, p_1_5, x_ldc, b_X1_word_128, x_vret, q_isL_I, q_isL_R, q_isL_S, true_and, and_true, and_self, List.length_nil, List.length_cons, Nat.zero_add, x_K, x_Kn, Int.reduceToNat, Nat.reduceAdd, Nat.reduceMul, Nat.reduceLeDiff, Nat.reduceLT, Nat.zero_le, Int.reduceAdd, Int.reduceSub, Int.reduceMul, Int.reduceNeg, q_add_e, q_sub_e, q_mul_e, q_neg_e, q_upd_s, q_upd_n, zr_shr0, zr_shr1, zr_shr2, zr_shr3, zr_shr4, zr_and, zr_dyn8, zr_or, zr_shl, q_cpy_n, y_cpy26, rr_bh, rr_size, rr_tape, hn, Int.toNat_natCast, c_X1_isLetter, sp_isLetter, c, if_true, ru_bh]
        exact ih (b + 1) (by omega) (by omega) hq
      · rw [if_neg c] at hq
        simp (disch := omega) only [x_loadR_0, x_loadS_0, f_1_8, f_1_1, y_ic_ge_t, y_ic_ge_f, b_X1_word_11, f_1_0, y_iald_180, y_if_eq_t, y_if_eq_f, b_X1_word_26, x_dupI, x_dupR, x_iconst, x_iadd, p_1_8, x_goto, p_1_5, x_ldc, b_X1_word_128, x_vret, q_isL_I, q_isL_R, q_isL_S, true_and, and_true, and_self, List.length_nil, List.length_cons, Nat.zero_add, x_K, x_Kn, Int.reduceToNat, Nat.reduceAdd, Nat.reduceMul, Nat.reduceLeDiff, Nat.reduceLT, Nat.zero_le, Int.reduceAdd, Int.reduceSub, Int.reduceMul, Int.reduceNeg, q_add_e, q_sub_e, q_mul_e, q_neg_e, q_upd_s, q_upd_n, zr_shr0, zr_shr1, zr_shr2, zr_shr3, zr_shr4, zr_and, zr_dyn8, zr_or, zr_shl, q_cpy_n, y_cpy26, rr_bh, rr_size, rr_tape, hn, Int.toNat_natCast, c_X1_isLetter, sp_isLetter, c, Bool.false_eq_true, if_false]
        exact tail b hib (by omega) hq
  rw [s_X1_word]
  exact loop (n - b0) b0 (by omega) hib hq
set_option maxHeartbeats 4000000 in
theorem sp_number {d : Nat} {g : q_G} {M : q_M} {cn tok val bh ft : Int} {C s : Nat → Int} {i n : Nat} {Q : Option q_V → q_G → q_M → Prop} (hn : M 1 1 = n) (hn2 : n ≤ 160) (hi : i ≤ n) (hq : Q none g (q_zM M (cn, if i + 4 < F_wh F_dgt (M 2) (n - i) i then -1 else -3, F_num (M 2) i (F_wh F_dgt (M 2) (n - i) i - i), i, (F_wh F_dgt (M 2) (n - i) i : Nat), ft, C) s)) : q_S 1 (d + 1) 37 [qR 1 1] g (q_zM M (cn, tok, val, i, bh, ft, C) s) Q := by
  have loop : ∀ e k : Nat, i + k + e = n → Q none g (q_zM M (cn, if i + 4 < F_wh F_dgt (M 2) e (i + k) then -1 else -3, F_num (M 2) i (F_wh F_dgt (M 2) e (i + k) - i), i, (F_wh F_dgt (M 2) e (i + k) : Nat), ft, C) s) → q_T 1 (d + 1) qP_X1_number 13 [] [qR 1 1] [] g (q_zM M (cn, tok, F_num (M 2) i k, i, ((i + k : Nat) : Int), ft, C) s) Q := by
    have tail : ∀ k : Nat, i + k ≤ n → Q none g (q_zM M (cn, if i + 4 < i + k then -1 else -3, F_num (M 2) i (i + k - i), i, ((i + k : Nat) : Int), ft, C) s) → q_T 1 (d + 1) qP_X1_number 76 [] [qR 1 1] [] g (q_zM M (cn, tok, F_num (M 2) i k, i, ((i + k : Nat) : Int), ft, C) s) Q := by
      intro k hk hq
      rw [show i + k - i = k by omega] at hq
      rw [b_X1_number_76]
      by_cases c : i + 4 < i + k
      · rw [if_pos c] at hq
        simp (disch := omega) only [b_X1_number_0, x_loadR_0, x_loadS_0, x_iconst, p_1_6, f_1_7, p_1_8, f_1_8, f_1_1, y_ic_ge_t, y_ic_ge_f, b_X1_number_24, f_1_0, y_iald_180, y_if_eq_t, y_if_eq_f, b_X1_number_39, f_1_6, x_imul, x_iadd, x_isub, x_dupI, x_dupR, x_goto, y_ic_le_t, y_ic_le_f, b_X1_number_90, b_X1_number_94, b_X1_number_96, p_1_5, x_vret, q_isL_I, q_isL_R, q_isL_S, true_and, and_true, and_self, List.length_nil, List.length_cons, Nat.zero_add, x_K, x_Kn, Int.reduceToNat, Nat.reduceAdd, Nat.reduceMul, Nat.reduceLeDiff, Nat.reduceLT, Nat.zero_le, Int.reduceAdd, Int.reduceSub, Int.reduceMul, Int.reduceNeg, q_add_e, q_sub_e, q_mul_e, q_neg_e, q_upd_s, q_upd_n, zr_shr0, zr_shr1, zr_shr2, zr_shr3, zr_shr4, zr_and, zr_dyn8, zr_or, zr_shl, q_cpy_n, y_cpy26, rr_bh, rr_fr, ru_tok]
        exact hq
      · rw [if_neg c] at hq
        simp (disch := omega) only [b_X1_number_0, x_loadR_0, x_loadS_0, x_iconst, p_1_6, f_1_7, p_1_8, f_1_8, f_1_1, y_ic_ge_t, y_ic_ge_f, b_X1_number_24, f_1_0, y_iald_180, y_if_eq_t, y_if_eq_f, b_X1_number_39, f_1_6, x_imul, x_iadd, x_isub, x_dupI, x_dupR, x_goto, y_ic_le_t, y_ic_le_f, b_X1_number_90, b_X1_number_94, b_X1_number_96, p_1_5, x_vret, q_isL_I, q_isL_R, q_isL_S, true_and, and_true, and_self, List.length_nil, List.length_cons, Nat.zero_add, x_K, x_Kn, Int.reduceToNat, Nat.reduceAdd, Nat.reduceMul, Nat.reduceLeDiff, Nat.reduceLT, Nat.zero_le, Int.reduceAdd, Int.reduceSub, Int.reduceMul, Int.reduceNeg, q_add_e, q_sub_e, q_mul_e, q_neg_e, q_upd_s, q_upd_n, zr_shr0, zr_shr1, zr_shr2, zr_shr3, zr_shr4, zr_and, zr_dyn8, zr_or, zr_shl, q_cpy_n, y_cpy26, rr_bh, rr_fr, ru_tok]
        exact hq
    intro e
    induction e with
    | zero =>
      intro k hk hq
      rw [F_wh] at hq
      rw [b_X1_number_13]
      simp (disch := omega) only [b_X1_number_0, x_loadR_0, x_loadS_0, x_iconst, p_1_6, f_1_7, p_1_8, f_1_8, f_1_1, y_ic_ge_t, y_ic_ge_f, b_X1_number_24, f_1_0, y_iald_180, y_if_eq_t, y_if_eq_f, b_X1_number_39, f_1_6, x_imul, x_iadd, x_isub, x_dupI, x_dupR, x_goto, y_ic_le_t, y_ic_le_f, b_X1_number_90, b_X1_number_94, b_X1_number_96, p_1_5, x_vret, q_isL_I, q_isL_R, q_isL_S, true_and, and_true, and_self, List.length_nil, List.length_cons, Nat.zero_add, x_K, x_Kn, Int.reduceToNat, Nat.reduceAdd, Nat.reduceMul, Nat.reduceLeDiff, Nat.reduceLT, Nat.zero_le, Int.reduceAdd, Int.reduceSub, Int.reduceMul, Int.reduceNeg, q_add_e, q_sub_e, q_mul_e, q_neg_e, q_upd_s, q_upd_n, zr_shr0, zr_shr1, zr_shr2, zr_shr3, zr_shr4, zr_and, zr_dyn8, zr_or, zr_shl, q_cpy_n, y_cpy26, rr_bh, rr_size, hn]
      exact tail k (by omega) hq
    | succ e ih =>
      intro k hk hq
      rw [F_wh] at hq
      have ih2 := ih (k + 1) (by omega)
      have e1 : (((i + (k + 1) : Nat)) : Int) = ((i + k : Nat) : Int) + 1 := by omega
      rw [F_num, e1] at ih2
      rw [b_X1_number_13]
      by_cases c : F_dgt (M 2 (i + k)) = true
      · rw [if_pos c] at hq
        simp (disch := omega) only [b_X1_number_0, x_loadR_0, x_loadS_0, x_iconst, p_1_6, f_1_7, p_1_8, f_1_8, f_1_1, y_ic_ge_t, y_ic_ge_f, b_X1_number_24, f_1_0, y_iald_180, y_if_eq_t, y_if_eq_f, b_X1_number_39, f_1_6, x_imul, x_iadd, x_isub, x_dupI, x_dupR, x_goto, y_ic_le_t, y_ic_le_f, b_X1_number_90, b_X1_number_94, b_X1_number_96, p_1_5, x_vret, q_isL_I, q_isL_R, q_isL_S, true_and, and_true, and_self, List.length_nil, List.length_cons, Nat.zero_add, x_K, x_Kn, Int.reduceToNat, Nat.reduceAdd, Nat.reduceMul, Nat.reduceLeDiff, Nat.reduceLT, Nat.zero_le, Int.reduceAdd, Int.reduceSub, Int.reduceMul, Int.reduceNeg, q_neg_e, q_upd_s, q_upd_n, zr_shr0, zr_shr1, zr_shr2, zr_shr3, zr_shr4, zr_and, zr_dyn8, zr_or, zr_shl, q_cpy_n, y_cpy26, rr_bh, rr_val, rr_size, rr_tape, hn, Int.toNat_natCast, c_X1_isDigit, sp_isDigit, c, if_true, ru_bh, ru_val]
        rw [q_add_e (x := ((i + k : Nat) : Int)) (y := 1) (by omega) (by omega)]
        exact ih2 hq
      · rw [if_neg c] at hq
        simp (disch := omega) only [b_X1_number_0, x_loadR_0, x_loadS_0, x_iconst, p_1_6, f_1_7, p_1_8, f_1_8, f_1_1, y_ic_ge_t, y_ic_ge_f, b_X1_number_24, f_1_0, y_iald_180, y_if_eq_t, y_if_eq_f, b_X1_number_39, f_1_6, x_imul, x_iadd, x_isub, x_dupI, x_dupR, x_goto, y_ic_le_t, y_ic_le_f, b_X1_number_90, b_X1_number_94, b_X1_number_96, p_1_5, x_vret, q_isL_I, q_isL_R, q_isL_S, true_and, and_true, and_self, List.length_nil, List.length_cons, Nat.zero_add, x_K, x_Kn, Int.reduceToNat, Nat.reduceAdd, Nat.reduceMul, Nat.reduceLeDiff, Nat.reduceLT, Nat.zero_le, Int.reduceAdd, Int.reduceSub, Int.reduceMul, Int.reduceNeg, q_add_e, q_sub_e, q_mul_e, q_neg_e, q_upd_s, q_upd_n, zr_shr0, zr_shr1, zr_shr2, zr_shr3, zr_shr4, zr_and, zr_dyn8, zr_or, zr_shl, q_cpy_n, y_cpy26, rr_bh, rr_size, rr_tape, hn, Int.toNat_natCast, c_X1_isDigit, sp_isDigit, c, Bool.false_eq_true, if_false]
        exact tail k (by omega) hq
  rw [s_X1_number]
  simp (disch := omega) only [b_X1_number_0, x_loadR_0, x_loadS_0, x_iconst, p_1_6, f_1_7, p_1_8, f_1_8, f_1_1, y_ic_ge_t, y_ic_ge_f, b_X1_number_24, f_1_0, y_iald_180, y_if_eq_t, y_if_eq_f, b_X1_number_39, f_1_6, x_imul, x_iadd, x_isub, x_dupI, x_dupR, x_goto, y_ic_le_t, y_ic_le_f, b_X1_number_90, b_X1_number_94, b_X1_number_96, p_1_5, x_vret, q_isL_I, q_isL_R, q_isL_S, true_and, and_true, and_self, List.length_nil, List.length_cons, Nat.zero_add, x_K, x_Kn, Int.reduceToNat, Nat.reduceAdd, Nat.reduceMul, Nat.reduceLeDiff, Nat.reduceLT, Nat.zero_le, Int.reduceAdd, Int.reduceSub, Int.reduceMul, Int.reduceNeg, q_add_e, q_sub_e, q_mul_e, q_neg_e, q_upd_s, q_upd_n, zr_shr0, zr_shr1, zr_shr2, zr_shr3, zr_shr4, zr_and, zr_dyn8, zr_or, zr_shl, q_cpy_n, y_cpy26, rr_fr, ru_val, ru_bh]
  exact loop (n - i) 0 (by omega) hq
set_option maxHeartbeats 4000000 in
theorem sp_next {d n : Nat} {g : q_G} {M : q_M} {z : q_Z} {s : Nat → Int} {Q : Option q_V → q_G → q_M → Prop} (hn : M 1 1 = n) (hn2 : n ≤ 160) (h0 : 0 ≤ z.2.2.2.2.1) (h1 : z.2.2.2.2.1 ≤ n) (hq : Q none g (q_zM M (R_nx (M 2) n z) s)) : q_S 1 (d + 7) 35 [qR 1 1] g (q_zM M z s) Q := by
  obtain ⟨cn, tok, val, fr, bh, ft, C⟩ := z
  simp only at h0 h1
  obtain ⟨b, rfl⟩ : ∃ b : Nat, bh = b := ⟨bh.toNat, by omega⟩
  rw [s_X1_next]
  unfold R_nx at hq
  simp only [Int.toNat_natCast] at hq
  by_cases c0 : 0 ≤ ft
  · rw [if_pos c0] at hq
    simp (disch := omega) only [b_X1_next_0, x_loadR_0, x_loadS_0, f_1_9, y_if_lt_t, y_if_lt_f, b_X1_next_7, x_vret, b_X1_next_8, f_1_8, p_1_7, f_1_7, f_1_1, y_ic_ge_t, y_ic_ge_f, b_X1_next_27, f_1_0, y_iald_180, x_iconst, y_ic_eq_t, y_ic_eq_f, b_X1_next_41, y_ic_ne_t, y_ic_ne_f, b_X1_next_55, x_dupI, x_dupR, x_iadd, x_goto, b_X1_next_68, y_ic_lt_t, y_ic_lt_f, b_X1_next_79, p_1_8, p_1_5, b_X1_next_94, x_storeI_1, x_loadI_1, y_if_eq_t, y_if_eq_f, b_X1_next_121, b_X1_next_128, b_X1_next_135, b_X1_next_142, b_X1_next_150, b_X1_next_154, b_X1_next_155, b_X1_next_158, q_isL_I, q_isL_R, q_isL_S, true_and, and_true, and_self, List.length_nil, List.length_cons, Nat.zero_add, x_K, x_Kn, Int.reduceToNat, Nat.reduceAdd, Nat.reduceMul, Nat.reduceLeDiff, Nat.reduceLT, Nat.zero_le, Int.reduceAdd, Int.reduceSub, Int.reduceMul, Int.reduceNeg, q_add_e, q_sub_e, q_mul_e, q_neg_e, q_upd_s, q_upd_n, zr_shr0, zr_shr1, zr_shr2, zr_shr3, zr_shr4, zr_and, zr_dyn8, zr_or, zr_shl, q_cpy_n, y_cpy26, rr_ft]
    exact hq
  · rw [if_neg c0] at hq
    have wl := F_wh_le (P := F_blk) (T := M 2) (n - b) b
    have tail : ∀ i : Nat, i ≤ n → ∀ (bh : Int) (l1 : q_V), q_isL l1 = false → Q none g (q_zM M (cn, (R_tk (M 2) n i val).1, (R_tk (M 2) n i val).2.1, i, ((R_tk (M 2) n i val).2.2 : Nat), ft, C) s) → q_T 1 (d + 7) qP_X1_next 68 [] [qR 1 1, l1] [] g (q_zM M (cn, tok, val, i, bh, ft, C) s) Q := by
      intro i hi bh l1 hl1 hq
      unfold R_tk at hq
      rw [b_X1_next_68]
      by_cases c1 : n ≤ i
      · rw [if_pos c1] at hq
        simp (disch := omega) only [b_X1_next_0, x_loadR_0, x_loadS_0, f_1_9, y_if_lt_t, y_if_lt_f, b_X1_next_7, x_vret, b_X1_next_8, f_1_8, p_1_7, f_1_7, f_1_1, y_ic_ge_t, y_ic_ge_f, b_X1_next_27, f_1_0, y_iald_180, x_iconst, y_ic_eq_t, y_ic_eq_f, b_X1_next_41, y_ic_ne_t, y_ic_ne_f, b_X1_next_55, x_dupI, x_dupR, x_iadd, x_goto, y_ic_lt_t, y_ic_lt_f, b_X1_next_79, p_1_8, p_1_5, b_X1_next_94, x_storeI_1, x_loadI_1, y_if_eq_t, y_if_eq_f, b_X1_next_121, b_X1_next_128, b_X1_next_135, b_X1_next_142, b_X1_next_150, b_X1_next_154, b_X1_next_155, b_X1_next_158, q_isL_I, q_isL_R, q_isL_S, true_and, and_true, and_self, List.length_nil, List.length_cons, Nat.zero_add, x_K, x_Kn, Int.reduceToNat, Nat.reduceAdd, Nat.reduceMul, Nat.reduceLeDiff, Nat.reduceLT, Nat.zero_le, Int.reduceAdd, Int.reduceSub, Int.reduceMul, Int.reduceNeg, q_add_e, q_sub_e, q_mul_e, q_neg_e, q_upd_s, q_upd_n, zr_shr0, zr_shr1, zr_shr2, zr_shr3, zr_shr4, zr_and, zr_dyn8, zr_or, zr_shl, q_cpy_n, y_cpy26, rr_fr, rr_size, hn, ru_bh, ru_tok]
        exact hq
      · rw [if_neg c1] at hq
        by_cases c2 : F_ltr (M 2 i) = true
        · rw [if_pos c2] at hq
          have wd : ∀ (nx : Nat) (ops : List Instr) (ls st : List q_V), q_T 1 (d + 7) qP_X1_next nx ops ls st g (q_zM M (cn, (R_wd (M 2) i (F_wh F_ltr (M 2) (n - (i + 1)) (i + 1)) val).1, (R_wd (M 2) i (F_wh F_ltr (M 2) (n - (i + 1)) (i + 1)) val).2, i, (F_wh F_ltr (M 2) (n - (i + 1)) (i + 1) : Nat), ft, C) s) Q → q_S 1 (d + 6) 36 [qR 1 1] g (q_zM M (cn, tok, val, i, ((i + 1 : Nat) : Int), ft, C) s) (q_K 1 (d + 7) qP_X1_next nx ops ls st Q) := fun nx ops ls st h => sp_word hn hn2 (by omega) (by omega) h
          simp (disch := omega) only [b_X1_next_0, x_loadR_0, x_loadS_0, f_1_9, y_if_lt_t, y_if_lt_f, b_X1_next_7, x_vret, b_X1_next_8, f_1_8, p_1_7, f_1_7, f_1_1, y_ic_ge_t, y_ic_ge_f, b_X1_next_27, f_1_0, y_iald_180, x_iconst, y_ic_eq_t, y_ic_eq_f, b_X1_next_41, y_ic_ne_t, y_ic_ne_f, b_X1_next_55, x_dupI, x_dupR, x_iadd, x_goto, y_ic_lt_t, y_ic_lt_f, b_X1_next_79, p_1_8, p_1_5, b_X1_next_94, x_storeI_1, x_loadI_1, y_if_eq_t, y_if_eq_f, b_X1_next_121, b_X1_next_128, b_X1_next_135, b_X1_next_142, b_X1_next_150, b_X1_next_154, b_X1_next_155, b_X1_next_158, q_isL_I, q_isL_R, q_isL_S, true_and, and_true, and_self, List.length_nil, List.length_cons, Nat.zero_add, x_K, x_Kn, Int.reduceToNat, Nat.reduceAdd, Nat.reduceMul, Nat.reduceLeDiff, Nat.reduceLT, Nat.zero_le, Int.reduceAdd, Int.reduceSub, Int.reduceMul, Int.reduceNeg, q_add_e, q_sub_e, q_mul_e, q_neg_e, q_upd_s, q_upd_n, zr_shr0, zr_shr1, zr_shr2, zr_shr3, zr_shr4, zr_and, zr_dyn8, zr_or, zr_shl, q_cpy_n, y_cpy26, rr_fr, rr_size, rr_tape, hn, ru_bh, Int.toNat_natCast, hl1, c_X1_isLetter, sp_isLetter, c2, if_true, c_X1_word]
          refine wd _ _ _ _ ?_
          simp (disch := omega) only [b_X1_next_0, x_loadR_0, x_loadS_0, f_1_9, y_if_lt_t, y_if_lt_f, b_X1_next_7, x_vret, b_X1_next_8, f_1_8, p_1_7, f_1_7, f_1_1, y_ic_ge_t, y_ic_ge_f, b_X1_next_27, f_1_0, y_iald_180, x_iconst, y_ic_eq_t, y_ic_eq_f, b_X1_next_41, y_ic_ne_t, y_ic_ne_f, b_X1_next_55, x_dupI, x_dupR, x_iadd, x_goto, y_ic_lt_t, y_ic_lt_f, b_X1_next_79, p_1_8, p_1_5, b_X1_next_94, x_storeI_1, x_loadI_1, y_if_eq_t, y_if_eq_f, b_X1_next_121, b_X1_next_128, b_X1_next_135, b_X1_next_142, b_X1_next_150, b_X1_next_154, b_X1_next_155, b_X1_next_158, q_isL_I, q_isL_R, q_isL_S, true_and, and_true, and_self, List.length_nil, List.length_cons, Nat.zero_add, x_K, x_Kn, Int.reduceToNat, Nat.reduceAdd, Nat.reduceMul, Nat.reduceLeDiff, Nat.reduceLT, Nat.zero_le, Int.reduceAdd, Int.reduceSub, Int.reduceMul, Int.reduceNeg, q_add_e, q_sub_e, q_mul_e, q_neg_e, q_upd_s, q_upd_n, zr_shr0, zr_shr1, zr_shr2, zr_shr3, zr_shr4, zr_and, zr_dyn8, zr_or, zr_shl, q_cpy_n, y_cpy26]
          exact hq
        · rw [if_neg c2] at hq
          by_cases c3 : F_dgt (M 2 i) = true
          · rw [if_pos c3] at hq
            have nb : ∀ (nx : Nat) (ops : List Instr) (ls st : List q_V), q_T 1 (d + 7) qP_X1_next nx ops ls st g (q_zM M (cn, if i + 4 < F_wh F_dgt (M 2) (n - i) i then -1 else -3, F_num (M 2) i (F_wh F_dgt (M 2) (n - i) i - i), i, (F_wh F_dgt (M 2) (n - i) i : Nat), ft, C) s) Q → ∀ bh : Int, q_S 1 (d + 6) 37 [qR 1 1] g (q_zM M (cn, tok, val, i, bh, ft, C) s) (q_K 1 (d + 7) qP_X1_next nx ops ls st Q) := fun nx ops ls st h bh => sp_number hn hn2 hi h
            simp (disch := omega) only [b_X1_next_0, x_loadR_0, x_loadS_0, f_1_9, y_if_lt_t, y_if_lt_f, b_X1_next_7, x_vret, b_X1_next_8, f_1_8, p_1_7, f_1_7, f_1_1, y_ic_ge_t, y_ic_ge_f, b_X1_next_27, f_1_0, y_iald_180, x_iconst, y_ic_eq_t, y_ic_eq_f, b_X1_next_41, y_ic_ne_t, y_ic_ne_f, b_X1_next_55, x_dupI, x_dupR, x_iadd, x_goto, y_ic_lt_t, y_ic_lt_f, b_X1_next_79, p_1_8, p_1_5, b_X1_next_94, x_storeI_1, x_loadI_1, y_if_eq_t, y_if_eq_f, b_X1_next_121, b_X1_next_128, b_X1_next_135, b_X1_next_142, b_X1_next_150, b_X1_next_154, b_X1_next_155, b_X1_next_158, q_isL_I, q_isL_R, q_isL_S, true_and, and_true, and_self, List.length_nil, List.length_cons, Nat.zero_add, x_K, x_Kn, Int.reduceToNat, Nat.reduceAdd, Nat.reduceMul, Nat.reduceLeDiff, Nat.reduceLT, Nat.zero_le, Int.reduceAdd, Int.reduceSub, Int.reduceMul, Int.reduceNeg, q_add_e, q_sub_e, q_mul_e, q_neg_e, q_upd_s, q_upd_n, zr_shr0, zr_shr1, zr_shr2, zr_shr3, zr_shr4, zr_and, zr_dyn8, zr_or, zr_shl, q_cpy_n, y_cpy26, rr_fr, rr_size, rr_tape, hn, ru_bh, Int.toNat_natCast, hl1, c_X1_isLetter, sp_isLetter, c2, Bool.false_eq_true, if_false, c_X1_isDigit, sp_isDigit, c3, if_true, c_X1_number]
            refine nb _ _ _ _ ?_ _
            simp (disch := omega) only [b_X1_next_0, x_loadR_0, x_loadS_0, f_1_9, y_if_lt_t, y_if_lt_f, b_X1_next_7, x_vret, b_X1_next_8, f_1_8, p_1_7, f_1_7, f_1_1, y_ic_ge_t, y_ic_ge_f, b_X1_next_27, f_1_0, y_iald_180, x_iconst, y_ic_eq_t, y_ic_eq_f, b_X1_next_41, y_ic_ne_t, y_ic_ne_f, b_X1_next_55, x_dupI, x_dupR, x_iadd, x_goto, y_ic_lt_t, y_ic_lt_f, b_X1_next_79, p_1_8, p_1_5, b_X1_next_94, x_storeI_1, x_loadI_1, y_if_eq_t, y_if_eq_f, b_X1_next_121, b_X1_next_128, b_X1_next_135, b_X1_next_142, b_X1_next_150, b_X1_next_154, b_X1_next_155, b_X1_next_158, q_isL_I, q_isL_R, q_isL_S, true_and, and_true, and_self, List.length_nil, List.length_cons, Nat.zero_add, x_K, x_Kn, Int.reduceToNat, Nat.reduceAdd, Nat.reduceMul, Nat.reduceLeDiff, Nat.reduceLT, Nat.zero_le, Int.reduceAdd, Int.reduceSub, Int.reduceMul, Int.reduceNeg, q_add_e, q_sub_e, q_mul_e, q_neg_e, q_upd_s, q_upd_n, zr_shr0, zr_shr1, zr_shr2, zr_shr3, zr_shr4, zr_and, zr_dyn8, zr_or, zr_shl, q_cpy_n, y_cpy26]
            exact hq
          · rw [if_neg c3] at hq
            by_cases c4 : F_sgn (M 2 i) = true
            · rw [if_pos c4] at hq
              simp (disch := omega) only [b_X1_next_0, x_loadR_0, x_loadS_0, f_1_9, y_if_lt_t, y_if_lt_f, b_X1_next_7, x_vret, b_X1_next_8, f_1_8, p_1_7, f_1_7, f_1_1, y_ic_ge_t, y_ic_ge_f, b_X1_next_27, f_1_0, y_iald_180, x_iconst, y_ic_eq_t, y_ic_eq_f, b_X1_next_41, y_ic_ne_t, y_ic_ne_f, b_X1_next_55, x_dupI, x_dupR, x_iadd, x_goto, y_ic_lt_t, y_ic_lt_f, b_X1_next_79, p_1_8, p_1_5, b_X1_next_94, x_storeI_1, x_loadI_1, y_if_eq_t, y_if_eq_f, b_X1_next_121, b_X1_next_128, b_X1_next_135, b_X1_next_142, b_X1_next_150, b_X1_next_154, b_X1_next_155, b_X1_next_158, q_isL_I, q_isL_R, q_isL_S, true_and, and_true, and_self, List.length_nil, List.length_cons, Nat.zero_add, x_K, x_Kn, Int.reduceToNat, Nat.reduceAdd, Nat.reduceMul, Nat.reduceLeDiff, Nat.reduceLT, Nat.zero_le, Int.reduceAdd, Int.reduceSub, Int.reduceMul, Int.reduceNeg, q_add_e, q_sub_e, q_mul_e, q_neg_e, q_upd_s, q_upd_n, zr_shr0, zr_shr1, zr_shr2, zr_shr3, zr_shr4, zr_and, zr_dyn8, zr_or, zr_shl, q_cpy_n, y_cpy26, rr_fr, rr_size, rr_tape, hn, ru_bh, ru_tok, Int.toNat_natCast, hl1, c_X1_isLetter, sp_isLetter, c2, Bool.false_eq_true, if_false, c_X1_isDigit, sp_isDigit, c3, c_X1_isSign, sp_isSign, c4, if_true]
              exact hq
            · rw [if_neg c4] at hq
              simp (disch := omega) only [b_X1_next_0, x_loadR_0, x_loadS_0, f_1_9, y_if_lt_t, y_if_lt_f, b_X1_next_7, x_vret, b_X1_next_8, f_1_8, p_1_7, f_1_7, f_1_1, y_ic_ge_t, y_ic_ge_f, b_X1_next_27, f_1_0, y_iald_180, x_iconst, y_ic_eq_t, y_ic_eq_f, b_X1_next_41, y_ic_ne_t, y_ic_ne_f, b_X1_next_55, x_dupI, x_dupR, x_iadd, x_goto, y_ic_lt_t, y_ic_lt_f, b_X1_next_79, p_1_8, p_1_5, b_X1_next_94, x_storeI_1, x_loadI_1, y_if_eq_t, y_if_eq_f, b_X1_next_121, b_X1_next_128, b_X1_next_135, b_X1_next_142, b_X1_next_150, b_X1_next_154, b_X1_next_155, b_X1_next_158, q_isL_I, q_isL_R, q_isL_S, true_and, and_true, and_self, List.length_nil, List.length_cons, Nat.zero_add, x_K, x_Kn, Int.reduceToNat, Nat.reduceAdd, Nat.reduceMul, Nat.reduceLeDiff, Nat.reduceLT, Nat.zero_le, Int.reduceAdd, Int.reduceSub, Int.reduceMul, Int.reduceNeg, q_add_e, q_sub_e, q_mul_e, q_neg_e, q_upd_s, q_upd_n, zr_shr0, zr_shr1, zr_shr2, zr_shr3, zr_shr4, zr_and, zr_dyn8, zr_or, zr_shl, q_cpy_n, y_cpy26, rr_fr, rr_size, rr_tape, hn, ru_bh, ru_tok, Int.toNat_natCast, hl1, c_X1_isLetter, sp_isLetter, c2, Bool.false_eq_true, if_false, c_X1_isDigit, sp_isDigit, c3, c_X1_isSign, sp_isSign, c4]
              exact hq
    have loop : ∀ e i : Nat, i + e = n → Q none g (q_zM M (cn, (R_tk (M 2) n (F_wh F_blk (M 2) e i) val).1, (R_tk (M 2) n (F_wh F_blk (M 2) e i) val).2.1, (F_wh F_blk (M 2) e i : Nat), ((R_tk (M 2) n (F_wh F_blk (M 2) e i) val).2.2 : Nat), ft, C) s) → q_T 1 (d + 7) qP_X1_next 16 [] [qR 1 1, qS 0] [] g (q_zM M (cn, tok, val, i, b, ft, C) s) Q := by
      intro e
      induction e with
      | zero =>
        intro i hi hq
        rw [F_wh] at hq
        rw [b_X1_next_16]
        simp (disch := omega) only [b_X1_next_0, x_loadR_0, x_loadS_0, f_1_9, y_if_lt_t, y_if_lt_f, b_X1_next_7, x_vret, b_X1_next_8, f_1_8, p_1_7, f_1_7, f_1_1, y_ic_ge_t, y_ic_ge_f, b_X1_next_27, f_1_0, y_iald_180, x_iconst, y_ic_eq_t, y_ic_eq_f, b_X1_next_41, y_ic_ne_t, y_ic_ne_f, b_X1_next_55, x_dupI, x_dupR, x_iadd, x_goto, y_ic_lt_t, y_ic_lt_f, b_X1_next_79, p_1_8, p_1_5, b_X1_next_94, x_storeI_1, x_loadI_1, y_if_eq_t, y_if_eq_f, b_X1_next_121, b_X1_next_128, b_X1_next_135, b_X1_next_142, b_X1_next_150, b_X1_next_154, b_X1_next_155, b_X1_next_158, q_isL_I, q_isL_R, q_isL_S, true_and, and_true, and_self, List.length_nil, List.length_cons, Nat.zero_add, x_K, x_Kn, Int.reduceToNat, Nat.reduceAdd, Nat.reduceMul, Nat.reduceLeDiff, Nat.reduceLT, Nat.zero_le, Int.reduceAdd, Int.reduceSub, Int.reduceMul, Int.reduceNeg, q_add_e, q_sub_e, q_mul_e, q_neg_e, q_upd_s, q_upd_n, zr_shr0, zr_shr1, zr_shr2, zr_shr3, zr_shr4, zr_and, zr_dyn8, zr_or, zr_shl, q_cpy_n, y_cpy26, rr_fr, rr_size, hn]
        exact tail i (by omega) _ _ rfl hq
      | succ e ih =>
        intro i hi hq
        rw [F_wh] at hq
        rw [b_X1_next_16]
        by_cases c : M 2 i = 32 ∨ M 2 i = 10
        · rw [if_pos (show F_blk (M 2 i) = true from decide_eq_true c)] at hq
          rcases (show M 2 i = 32 ∨ (M 2 i ≠ 32 ∧ M 2 i = 10) by omega) with k | k
          · simp (disch := omega) only [b_X1_next_0, x_loadR_0, x_loadS_0, f_1_9, y_if_lt_t, y_if_lt_f, b_X1_next_7, x_vret, b_X1_next_8, f_1_8, p_1_7, f_1_7, f_1_1, y_ic_ge_t, y_ic_ge_f, b_X1_next_27, f_1_0, y_iald_180, x_iconst, y_ic_eq_t, y_ic_eq_f, b_X1_next_41, y_ic_ne_t, y_ic_ne_f, b_X1_next_55, x_dupI, x_dupR, x_iadd, x_goto, y_ic_lt_t, y_ic_lt_f, b_X1_next_79, p_1_8, p_1_5, b_X1_next_94, x_storeI_1, x_loadI_1, y_if_eq_t, y_if_eq_f, b_X1_next_121, b_X1_next_128, b_X1_next_135, b_X1_next_142, b_X1_next_150, b_X1_next_154, b_X1_next_155, b_X1_next_158, q_isL_I, q_isL_R, q_isL_S, true_and, and_true, and_self, List.length_nil, List.length_cons, Nat.zero_add, x_K, x_Kn, Int.reduceToNat, Nat.reduceAdd, Nat.reduceMul, Nat.reduceLeDiff, Nat.reduceLT, Nat.zero_le, Int.reduceAdd, Int.reduceSub, Int.reduceMul, Int.reduceNeg, q_add_e, q_sub_e, q_mul_e, q_neg_e, q_upd_s, q_upd_n, zr_shr0, zr_shr1, zr_shr2, zr_shr3, zr_shr4, zr_and, zr_dyn8, zr_or, zr_shl, q_cpy_n, y_cpy26, rr_fr, rr_size, rr_tape, hn, Int.toNat_natCast, ru_fr]
            exact ih (i + 1) (by omega) hq
          · simp (disch := omega) only [b_X1_next_0, x_loadR_0, x_loadS_0, f_1_9, y_if_lt_t, y_if_lt_f, b_X1_next_7, x_vret, b_X1_next_8, f_1_8, p_1_7, f_1_7, f_1_1, y_ic_ge_t, y_ic_ge_f, b_X1_next_27, f_1_0, y_iald_180, x_iconst, y_ic_eq_t, y_ic_eq_f, b_X1_next_41, y_ic_ne_t, y_ic_ne_f, b_X1_next_55, x_dupI, x_dupR, x_iadd, x_goto, y_ic_lt_t, y_ic_lt_f, b_X1_next_79, p_1_8, p_1_5, b_X1_next_94, x_storeI_1, x_loadI_1, y_if_eq_t, y_if_eq_f, b_X1_next_121, b_X1_next_128, b_X1_next_135, b_X1_next_142, b_X1_next_150, b_X1_next_154, b_X1_next_155, b_X1_next_158, q_isL_I, q_isL_R, q_isL_S, true_and, and_true, and_self, List.length_nil, List.length_cons, Nat.zero_add, x_K, x_Kn, Int.reduceToNat, Nat.reduceAdd, Nat.reduceMul, Nat.reduceLeDiff, Nat.reduceLT, Nat.zero_le, Int.reduceAdd, Int.reduceSub, Int.reduceMul, Int.reduceNeg, q_add_e, q_sub_e, q_mul_e, q_neg_e, q_upd_s, q_upd_n, zr_shr0, zr_shr1, zr_shr2, zr_shr3, zr_shr4, zr_and, zr_dyn8, zr_or, zr_shl, q_cpy_n, y_cpy26, rr_fr, rr_size, rr_tape, hn, Int.toNat_natCast, ru_fr]
            exact ih (i + 1) (by omega) hq
        · rw [if_neg (show ¬F_blk (M 2 i) = true from fun z => c (of_decide_eq_true z))] at hq
          simp (disch := omega) only [b_X1_next_0, x_loadR_0, x_loadS_0, f_1_9, y_if_lt_t, y_if_lt_f, b_X1_next_7, x_vret, b_X1_next_8, f_1_8, p_1_7, f_1_7, f_1_1, y_ic_ge_t, y_ic_ge_f, b_X1_next_27, f_1_0, y_iald_180, x_iconst, y_ic_eq_t, y_ic_eq_f, b_X1_next_41, y_ic_ne_t, y_ic_ne_f, b_X1_next_55, x_dupI, x_dupR, x_iadd, x_goto, y_ic_lt_t, y_ic_lt_f, b_X1_next_79, p_1_8, p_1_5, b_X1_next_94, x_storeI_1, x_loadI_1, y_if_eq_t, y_if_eq_f, b_X1_next_121, b_X1_next_128, b_X1_next_135, b_X1_next_142, b_X1_next_150, b_X1_next_154, b_X1_next_155, b_X1_next_158, q_isL_I, q_isL_R, q_isL_S, true_and, and_true, and_self, List.length_nil, List.length_cons, Nat.zero_add, x_K, x_Kn, Int.reduceToNat, Nat.reduceAdd, Nat.reduceMul, Nat.reduceLeDiff, Nat.reduceLT, Nat.zero_le, Int.reduceAdd, Int.reduceSub, Int.reduceMul, Int.reduceNeg, q_add_e, q_sub_e, q_mul_e, q_neg_e, q_upd_s, q_upd_n, zr_shr0, zr_shr1, zr_shr2, zr_shr3, zr_shr4, zr_and, zr_dyn8, zr_or, zr_shl, q_cpy_n, y_cpy26, rr_fr, rr_size, rr_tape, hn, Int.toNat_natCast]
          exact tail i (by omega) _ _ rfl hq
    simp (disch := omega) only [b_X1_next_0, x_loadR_0, x_loadS_0, f_1_9, y_if_lt_t, y_if_lt_f, b_X1_next_7, x_vret, b_X1_next_8, f_1_8, p_1_7, f_1_7, f_1_1, y_ic_ge_t, y_ic_ge_f, b_X1_next_27, f_1_0, y_iald_180, x_iconst, y_ic_eq_t, y_ic_eq_f, b_X1_next_41, y_ic_ne_t, y_ic_ne_f, b_X1_next_55, x_dupI, x_dupR, x_iadd, x_goto, y_ic_lt_t, y_ic_lt_f, b_X1_next_79, p_1_8, p_1_5, b_X1_next_94, x_storeI_1, x_loadI_1, y_if_eq_t, y_if_eq_f, b_X1_next_121, b_X1_next_128, b_X1_next_135, b_X1_next_142, b_X1_next_150, b_X1_next_154, b_X1_next_155, b_X1_next_158, q_isL_I, q_isL_R, q_isL_S, true_and, and_true, and_self, List.length_nil, List.length_cons, Nat.zero_add, x_K, x_Kn, Int.reduceToNat, Nat.reduceAdd, Nat.reduceMul, Nat.reduceLeDiff, Nat.reduceLT, Nat.zero_le, Int.reduceAdd, Int.reduceSub, Int.reduceMul, Int.reduceNeg, q_add_e, q_sub_e, q_mul_e, q_neg_e, q_upd_s, q_upd_n, zr_shr0, zr_shr1, zr_shr2, zr_shr3, zr_shr4, zr_and, zr_dyn8, zr_or, zr_shl, q_cpy_n, y_cpy26, rr_ft, rr_bh, ru_fr]
    exact loop (n - b) b (by omega) hq
end
