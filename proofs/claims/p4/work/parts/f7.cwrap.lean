/-! THE CLASS: each call keeps what stays -/
set_option maxHeartbeats 4000000 in
theorem cv_count {Vt : Nat → Nat → (Nat → Int) → Int} {d tm l sl : Nat} {g : q_G} {M : q_M} {wt : Int} {Q : Option q_V → q_G → q_M → Prop} (C : q_XI Vt tm l sl M) (hq : ∀ (v : Int) (l2 : Nat) (M2 : q_M), q_XI Vt tm l2 sl M2 → q_cfr M M2 → Q (some (qI v)) g M2) : q_S 1 (d + 50) 62 [qR 5 0, qI wt] g M Q := by
  have T := C.1
  have c := C.2.2.1
  have w := c.2.1
  have n5 := q_ci_n c
  have tas := c.1
  exact sp_count (d := d + 48) w (hq _ l M C q_cfr_rf)
theorem cv_dawn {Vt : Nat → Nat → (Nat → Int) → Int} {d tm l sl : Nat} {g : q_G} {M : q_M} {v0 : Int} {Q : Option q_V → q_G → q_M → Prop} (C : q_XI Vt tm l sl M) (hq1 : 0 ≤ v0 ∧ v0 ≤ 999 → q_XI Vt tm l sl (q_upd M 11 9 v0) → Q (some (qI (M 11 9))) g (q_upd M 11 9 v0)) (hq2 : ¬(0 ≤ v0 ∧ v0 ≤ 999) → Q (some (qI (-2))) g M) : q_S 1 (d + 50) 63 [qR 5 0, qI v0] g M Q := by
  have w := C.2.2.1.2.1
  by_cases c1 : 0 ≤ v0 ∧ v0 ≤ 999
  · exact sp_dawn c1.1 c1.2 (hq1 c1 (q_XI_w C (fun a i ha => q_upd_n (by omega)) (q_wl_up w (Or.inr (Or.inr (Or.inr ⟨rfl, rfl, c1.1, by omega⟩)))) rfl (by rw [q_upd_s]; exact c1.2) (fun a h1 h2 => q_upd_n (by omega))))
  · exact sp_dawnF (by omega) (hq2 c1)
theorem q_bdM_f {M : q_M} {b a i : Nat} {wt v : Int} (h1 : a ≠ 35) (h2 : a ≠ 30) (h3 : a ≠ 13) (h4 : a ≠ 31) (h5 : a ≠ 32) : q_bdM M b wt v a i = M a i := by
  unfold q_bdM
  split
  · rw [q_mvM_n (by omega), q_upd_n (by omega)]
  · split
    · exact q_upd_n (by omega)
    · split
      · exact q_upd_n (by omega)
      · exact q_upd_n (by omega)
set_option maxHeartbeats 4000000 in
theorem cv_build {Vt : Nat → Nat → (Nat → Int) → Int} {d tm l sl : Nat} {g : q_G} {M : q_M} {b wt v0 : Int} {Q : Option q_V → q_G → q_M → Prop} (C : q_XI Vt tm l sl M) (hq : ∀ (v : Int) (l2 : Nat) (M2 : q_M), q_XI Vt tm l2 sl M2 → q_cfr M M2 → Q (some (qI v)) g M2) : q_S 1 (d + 50) 64 [qR 5 0, qI b, qI wt, qI v0] g M Q := by
  have T := C.1
  have c := C.2.2.1
  have w := c.2.1
  have n5 := q_ci_n c
  have tas := c.1
  by_cases c1 : 0 ≤ b ∧ b < 5
  · obtain ⟨B, rfl⟩ : ∃ B : Nat, b = B := ⟨b.toNat, by omega⟩
    by_cases c2 : wt < 0 ∨ 3 < wt ∨ v0 < 0 ∨ 99 < v0 ∨ (wt = 1 ∧ (5 < v0 ∨ v0 < F_cnt (M (12 + 2)) B (M 12 5).toNat))
    · exact sp_buildG (d := d + 49) (by omega) n5.1 n5.2 c2 (hq _ l M C q_cfr_rf)
    · have hw : q_wl (Vt l) (q_bdM M B wt v0) 11 (q_ta l) := by
        unfold q_bdM
        split
        · exact q_wl_mvM w (by omega) (by omega)
        · split
          · exact q_wl_up2 w (Or.inr (Or.inl ⟨rfl, by omega, by omega⟩))
          · split
            · exact q_wl_up2 w (Or.inr (Or.inr (Or.inl ⟨rfl, by omega, by omega, by omega⟩)))
            · exact q_wl_up w (Or.inr (Or.inr (Or.inl ⟨rfl, by omega, by omega, by omega⟩)))
      exact sp_build (d := d + 48) (by omega) n5.1 n5.2 (by omega) (by omega) (fun z => by omega) (hq _ l _ (q_XI_w C (fun a i ha => q_bdM_f (by omega) (by omega) (by omega) (by omega) (by omega)) hw rfl (by rw [q_bdM_f (by omega) (by omega) (by omega) (by omega) (by omega)]; exact c.2.2.2.2.2.1) (fun a h1 h2 => q_bdM_f (by omega) (by omega) (by omega) (by omega) (by omega))) (fun a i ha => q_bdM_f (by omega) (by omega) (by omega) (by omega) (by omega)))
  · exact sp_buildF (d := d + 49) c1 (hq _ l M C q_cfr_rf)
set_option maxHeartbeats 4000000 in
theorem cv_site {Vt : Nat → Nat → (Nat → Int) → Int} {d tm l sl : Nat} {g : q_G} {M : q_M} {b wt : Int} {Q : Option q_V → q_G → q_M → Prop} (C : q_XI Vt tm l sl M) (hq : ∀ (v : Int) (l2 : Nat) (M2 : q_M), q_XI Vt tm l2 sl M2 → q_cfr M M2 → Q (some (qI v)) g M2) : q_S 1 (d + 50) 65 [qR 5 0, qI b, qI wt] g M Q := by
  have T := C.1
  have c := C.2.2.1
  have w := c.2.1
  have n5 := q_ci_n c
  have tas := c.1
  by_cases c1 : 0 ≤ b ∧ b < 5
  · obtain ⟨B, rfl⟩ : ∃ B : Nat, b = B := ⟨b.toNat, by omega⟩
    rw [sp_site (d := d + 49) (by omega) n5.1 n5.2]
    exact hq _ l M C q_cfr_rf
  · exact sp_siteF (d := d + 49) c1 (hq _ l M C q_cfr_rf)
theorem q_tkM_f {M : q_M} {a i : Nat} {v : Int} (h1 : a ≠ 1) (h2 : a ≠ 2) : q_tkM M v a i = M a i := by
  unfold q_tkM
  rw [q_upd_n (by omega), q_upd_n (by omega)]
theorem q_fedM_f {M : q_M} {x i : Nat} {n a b c d e : Int} (h1 : x ≠ 1) (h2 : x ≠ 2) : q_fedM M n a b c d e x i = M x i := by
  unfold q_fedM
  split
  · rw [q_tkM_f h1 h2]
  · split
    · rw [q_tkM_f h1 h2, q_tkM_f h1 h2]
    · split
      · rw [q_tkM_f h1 h2, q_tkM_f h1 h2, q_tkM_f h1 h2]
      · split
        · rw [q_tkM_f h1 h2, q_tkM_f h1 h2, q_tkM_f h1 h2, q_tkM_f h1 h2]
        · rw [q_tkM_f h1 h2, q_tkM_f h1 h2, q_tkM_f h1 h2, q_tkM_f h1 h2, q_tkM_f h1 h2]
theorem q_fedM_1 {M : q_M} {n a b c d e : Int} (h : 1 ≤ n ∧ n ≤ 5) : q_fedM M n a b c d e 1 1 = M 1 1 + n := by
  unfold q_fedM
  split
  · rw [q_tkM_1]; omega
  · split
    · rw [q_tkM_1, q_tkM_1]; omega
    · split
      · rw [q_tkM_1, q_tkM_1, q_tkM_1]; omega
      · split
        · rw [q_tkM_1, q_tkM_1, q_tkM_1, q_tkM_1]; omega
        · rw [q_tkM_1, q_tkM_1, q_tkM_1, q_tkM_1, q_tkM_1]; omega
theorem q_tkM_T {M : q_M} {T : Nat → Int} {s k : Nat} {v : Nat → Int} {x : Int} (hx : x = v k) (h : M 2 = F_tp T s v k ∧ M 1 1 = ((s + k : Nat) : Int)) : q_tkM M x 2 = F_tp T s v (k + 1) ∧ q_tkM M x 1 1 = ((s + (k + 1) : Nat) : Int) := by
  refine ⟨?_, by rw [q_tkM_1, h.2]; omega⟩
  funext i
  unfold q_tkM
  rw [q_upd_n (by omega), h.2, Int.toNat_natCast, F_tp, ← h.1, ← hx]
  unfold F_u
  by_cases e : i = s + k
  · rw [if_pos e, e, q_upd_s]
  · rw [if_neg e, q_upd_n (by omega)]
theorem q_fedM_T {M : q_M} {n a b c d e : Int} (h : 1 ≤ n ∧ n ≤ 5) (h0 : 0 ≤ M 1 1) : q_fedM M n a b c d e 2 = F_tp (M 2) (M 1 1).toNat (F_vs a b c d e) n.toNat := by
  have z : M 2 = F_tp (M 2) (M 1 1).toNat (F_vs a b c d e) 0 ∧ M 1 1 = (((M 1 1).toNat + 0 : Nat) : Int) := ⟨rfl, by omega⟩
  have z1 := q_tkM_T (x := a) rfl z
  have z2 := q_tkM_T (x := b) rfl z1
  have z3 := q_tkM_T (x := c) rfl z2
  have z4 := q_tkM_T (x := d) rfl z3
  have z5 := q_tkM_T (x := e) rfl z4
  unfold q_fedM
  rcases (show n = 1 ∨ n = 2 ∨ n = 3 ∨ n = 4 ∨ n = 5 by omega) with e | e | e | e | e
  · rw [if_pos e, e]; exact z1.1
  · rw [if_neg (by omega), if_pos e, e]; exact z2.1
  · rw [if_neg (by omega), if_neg (by omega), if_pos e, e]; exact z3.1
  · rw [if_neg (by omega), if_neg (by omega), if_neg (by omega), if_pos e, e]; exact z4.1
  · rw [if_neg (by omega), if_neg (by omega), if_neg (by omega), if_neg (by omega), e]; exact z5.1
theorem cv_feed {Vt : Nat → Nat → (Nat → Int) → Int} {d tm l sl : Nat} {g : q_G} {M : q_M} {n a0 a1 a2 a3 a4 : Int} {Q : Option q_V → q_G → q_M → Prop} (C : q_XI Vt tm l sl M) (hqB : ¬F_fedB n a0 a1 a2 a3 a4 → Q (some (qI (-2))) g M) (hqF : F_fedB n a0 a1 a2 a3 a4 → 160 < M 1 1 + n → Q (some (qI (-4))) g M) (hq : ∀ M2 : q_M, F_fedB n a0 a1 a2 a3 a4 → M 1 1 + n ≤ 160 → q_XI Vt tm l sl M2 → (∀ x i, x ≠ 1 → x ≠ 2 → M2 x i = M x i) → M2 1 1 = M 1 1 + n → M2 2 = F_tp (M 2) (M 1 1).toNat (F_vs a0 a1 a2 a3 a4) n.toNat → Q (some (qI (M 1 1 + n))) g M2) : q_S 1 (d + 50) 66 [qR 5 0, qI n, qI a0, qI a1, qI a2, qI a3, qI a4] g M Q := by
  have c := C.2.2.1
  have k := C.2.2.2.2.2.1
  by_cases h : F_fedB n a0 a1 a2 a3 a4
  · refine sp_feed (dd := d + 49) k.1 k.2 h ?_
    split
    · exact hqF h (by omega)
    · exact hq _ h (by omega) (q_XI_sh C (fun a i ha => q_fedM_f (by omega) (by omega)) (by rw [q_fedM_1 h.1]; have := h.1; omega) (fun s hs => by rw [q_fedM_f (by omega) (by omega)]; exact c.2.2.2.2.2.2 s hs)) (fun x i h1 h2 => q_fedM_f h1 h2) (q_fedM_1 h.1) (q_fedM_T h.1 k.1)
  · exact sp_feedF (dd := d + 49) h (hqB h)
theorem cv_force {Vt : Nat → Nat → (Nat → Int) → Int} {d tm l sl : Nat} {g : q_G} {M : q_M} {t : Int} {Q : Option q_V → q_G → q_M → Prop} (C : q_XI Vt tm l sl M) (hq1 : ∀ n : Nat, t = n → n < tm → q_XI Vt tm n sl (q_upd M 11 10 (q_ta n : Nat)) → Q (some (qI l)) g (q_upd M 11 10 (q_ta n : Nat))) (hq2 : ¬(0 ≤ t ∧ t < tm) → Q (some (qI (-2))) g M) : q_S 1 (d + 50) 68 [qR 5 0, qI t] g M Q := by
  have T := C.1
  have c := C.2.2.1
  have w := c.2.1
  by_cases c1 : 0 ≤ t ∧ t < tm
  · obtain ⟨n, rfl⟩ : ∃ n : Nat, t = n := ⟨t.toNat, by omega⟩
    have hr : q_rgW (q_upd M 11 10 (q_ta n : Nat)) 11 := by
      have hr := w.1
      unfold q_rgW at hr ⊢
      simp (disch := omega) only [q_upd_n]
      exact hr
    exact sp_force T (by omega) C.2.1 w.2.2.2.1 (hq1 n rfl (by omega) (q_XI_now C (by omega) (fun a i ha => q_upd_n (by omega)) hr (by rw [q_upd_n (by omega)]; exact c.2.2.2.2.2.1) q_upd_s (q_z5_eq (fun a h1 h2 => q_upd_n (by omega)) c.2.2.2.1)))
  · exact sp_forceF T.2.2.1 c1 (hq2 c1)
set_option maxHeartbeats 4000000 in
theorem cv_asks {Vt : Nat → Nat → (Nat → Int) → Int} {d tm l sl : Nat} {g : q_G} {M : q_M} {part p b : Int} {Q : Option q_V → q_G → q_M → Prop} (C : q_XI Vt tm l sl M) (hq : ∀ (v : Int) (l2 : Nat) (M2 : q_M), q_XI Vt tm l2 sl M2 → q_cfr M M2 → Q (some (qI v)) g M2) : q_S 1 (d + 50) 69 [qR 5 0, qI part, qI p, qI b] g M Q := by
  have T := C.1
  have c := C.2.2.1
  have w := c.2.1
  have n5 := q_ci_n c
  have tas := c.1
  by_cases c1 : 0 ≤ part ∧ part < 3
  · by_cases c2 : 0 ≤ p ∧ p < M 12 5
    · by_cases c3 : b = -1 ∨ (0 ≤ b ∧ b < 5)
      · obtain ⟨PT, rfl⟩ : ∃ n : Nat, part = n := ⟨part.toNat, by omega⟩
        obtain ⟨P, rfl⟩ : ∃ n : Nat, p = n := ⟨p.toNat, by omega⟩
        exact sp_asks (d := d + 48) w (by omega) (show P < (M 12 5).toNat by omega) c3 (fun M2 h => hq _ l M2 (q_XI_tq C (q_tq_fwd tas h)) (q_cfr_tq (q_tq_fwd tas h)))
      · have c4 : ¬(0 ≤ b ∧ b < 5) := by omega
        rw [s_X5_asks]
        simp (disch := omega) only [b_X5_asks_0, x_loadI_1, y_if_lt_t, y_if_lt_f, b_X5_asks_4, x_iconst, y_ic_ge_t, y_ic_ge_f, b_X5_asks_9, x_loadR_0, x_loadS_0, x_loadI_2, y_if_eq_t, y_if_eq_f, b_X5_asks_17, x_loadI_3, y_ic_eq_t, y_ic_eq_f, b_X5_asks_22, y_if_ne_t, y_if_ne_f, b_X5_asks_29, x_ret0, b_X5_asks_33, f_5_3, y_ic_ne_t, y_ic_ne_f, b_X5_asks_44, x_goto, b_X5_asks_48, b_X5_asks_49, q_isL_I, q_isL_R, q_isL_S, true_and, and_true, and_self, List.length_nil, List.length_cons, Nat.zero_add, x_K, x_Kn, Int.reduceToNat, Nat.reduceAdd, Nat.reduceMul, Nat.reduceLeDiff, Nat.reduceLT, Nat.zero_le, Int.reduceAdd, Int.reduceSub, Int.reduceMul, Int.reduceNeg, q_add_e, q_sub_e, q_mul_e, q_neg_e, q_upd_s, q_upd_n, zr_shr0, zr_shr1, zr_shr2, zr_shr3, zr_shr4, zr_and, zr_dyn8, zr_or, zr_shl, q_cpy_n, y_cpy26, c_X5_isStone, sp_isStone, c_X5_isBuilding, sp_isBuilding, c2, and_self, if_true, c4, if_false]
        exact hq _ l M C q_cfr_rf
    · rw [s_X5_asks]
      simp (disch := omega) only [b_X5_asks_0, x_loadI_1, y_if_lt_t, y_if_lt_f, b_X5_asks_4, x_iconst, y_ic_ge_t, y_ic_ge_f, b_X5_asks_9, x_loadR_0, x_loadS_0, x_loadI_2, y_if_eq_t, y_if_eq_f, b_X5_asks_17, x_loadI_3, y_ic_eq_t, y_ic_eq_f, b_X5_asks_22, y_if_ne_t, y_if_ne_f, b_X5_asks_29, x_ret0, b_X5_asks_33, f_5_3, y_ic_ne_t, y_ic_ne_f, b_X5_asks_44, x_goto, b_X5_asks_48, b_X5_asks_49, q_isL_I, q_isL_R, q_isL_S, true_and, and_true, and_self, List.length_nil, List.length_cons, Nat.zero_add, x_K, x_Kn, Int.reduceToNat, Nat.reduceAdd, Nat.reduceMul, Nat.reduceLeDiff, Nat.reduceLT, Nat.zero_le, Int.reduceAdd, Int.reduceSub, Int.reduceMul, Int.reduceNeg, q_add_e, q_sub_e, q_mul_e, q_neg_e, q_upd_s, q_upd_n, zr_shr0, zr_shr1, zr_shr2, zr_shr3, zr_shr4, zr_and, zr_dyn8, zr_or, zr_shl, q_cpy_n, y_cpy26, c_X5_isStone, sp_isStone, c_X5_isBuilding, sp_isBuilding, c2, if_false]
      exact hq _ l M C q_cfr_rf
  · rw [s_X5_asks]
    by_cases c5 : part < 0
    · simp (disch := omega) only [b_X5_asks_0, x_loadI_1, y_if_lt_t, y_if_lt_f, b_X5_asks_4, x_iconst, y_ic_ge_t, y_ic_ge_f, b_X5_asks_9, x_loadR_0, x_loadS_0, x_loadI_2, y_if_eq_t, y_if_eq_f, b_X5_asks_17, x_loadI_3, y_ic_eq_t, y_ic_eq_f, b_X5_asks_22, y_if_ne_t, y_if_ne_f, b_X5_asks_29, x_ret0, b_X5_asks_33, f_5_3, y_ic_ne_t, y_ic_ne_f, b_X5_asks_44, x_goto, b_X5_asks_48, b_X5_asks_49, q_isL_I, q_isL_R, q_isL_S, true_and, and_true, and_self, List.length_nil, List.length_cons, Nat.zero_add, x_K, x_Kn, Int.reduceToNat, Nat.reduceAdd, Nat.reduceMul, Nat.reduceLeDiff, Nat.reduceLT, Nat.zero_le, Int.reduceAdd, Int.reduceSub, Int.reduceMul, Int.reduceNeg, q_add_e, q_sub_e, q_mul_e, q_neg_e, q_upd_s, q_upd_n, zr_shr0, zr_shr1, zr_shr2, zr_shr3, zr_shr4, zr_and, zr_dyn8, zr_or, zr_shl, q_cpy_n, y_cpy26, c_X5_isStone, sp_isStone, c_X5_isBuilding, sp_isBuilding]
      exact hq _ l M C q_cfr_rf
    · simp (disch := omega) only [b_X5_asks_0, x_loadI_1, y_if_lt_t, y_if_lt_f, b_X5_asks_4, x_iconst, y_ic_ge_t, y_ic_ge_f, b_X5_asks_9, x_loadR_0, x_loadS_0, x_loadI_2, y_if_eq_t, y_if_eq_f, b_X5_asks_17, x_loadI_3, y_ic_eq_t, y_ic_eq_f, b_X5_asks_22, y_if_ne_t, y_if_ne_f, b_X5_asks_29, x_ret0, b_X5_asks_33, f_5_3, y_ic_ne_t, y_ic_ne_f, b_X5_asks_44, x_goto, b_X5_asks_48, b_X5_asks_49, q_isL_I, q_isL_R, q_isL_S, true_and, and_true, and_self, List.length_nil, List.length_cons, Nat.zero_add, x_K, x_Kn, Int.reduceToNat, Nat.reduceAdd, Nat.reduceMul, Nat.reduceLeDiff, Nat.reduceLT, Nat.zero_le, Int.reduceAdd, Int.reduceSub, Int.reduceMul, Int.reduceNeg, q_add_e, q_sub_e, q_mul_e, q_neg_e, q_upd_s, q_upd_n, zr_shr0, zr_shr1, zr_shr2, zr_shr3, zr_shr4, zr_and, zr_dyn8, zr_or, zr_shl, q_cpy_n, y_cpy26, c_X5_isStone, sp_isStone, c_X5_isBuilding, sp_isBuilding]
      exact hq _ l M C q_cfr_rf
theorem q_adM_f {M : q_M} {a i : Nat} {km wh hv : Int} (h : a < 12 ∨ (14 < a ∧ a < 33) ∨ 36 < a) : q_adM M 11 km wh hv a i = M a i := by
  unfold q_adM
  rw [q_upd_n (by omega), q_upd_n (by omega), q_upd_n (by omega), q_upd_n (by omega), q_upd_n (by omega), q_upd_n (by omega)]
theorem q_XI_ad {Vt : Nat → Nat → (Nat → Int) → Int} {tm l sl : Nat} {M : q_M} {km wh hv : Int} (C : q_XI Vt tm l sl M) (h : 0 ≤ km ∧ km < 60 ∧ 0 ≤ wh ∧ wh < 100 ∧ 0 ≤ hv ∧ hv < 100) (h5 : M 12 5 ≠ 5) : q_XI Vt tm l sl (q_adM M 11 km wh hv) ∧ q_cfr M (q_adM M 11 km wh hv) := by
  have n5 := q_ci_n C.2.2.1
  exact ⟨q_XI_w C (fun a i ha => q_adM_f (by omega)) (q_wl_adM C.2.2.1.2.1 (show M 12 5 < 5 by omega) (by omega) (by omega) (by omega) (by omega) (by omega) (by omega)) rfl (by rw [q_adM_f (by omega)]; exact C.2.2.1.2.2.2.2.2.1) (fun a h1 h2 => q_adM_f (by omega)), fun a i ha => q_adM_f (by omega)⟩
set_option maxHeartbeats 4000000 in
theorem cv_stone {Vt : Nat → Nat → (Nat → Int) → Int} {d tm l sl : Nat} {g : q_G} {M : q_M} {km wh hv : Int} {Q : Option q_V → q_G → q_M → Prop} (C : q_XI Vt tm l sl M) (hq : ∀ (v : Int) (l2 : Nat) (M2 : q_M), q_XI Vt tm l2 sl M2 → q_cfr M M2 → Q (some (qI v)) g M2) : q_S 1 (d + 50) 70 [qR 5 0, qI km, qI wh, qI hv] g M Q := by
  have T := C.1
  have c := C.2.2.1
  have w := c.2.1
  have n5 := q_ci_n c
  have tas := c.1
  by_cases h : 0 ≤ km ∧ km < 60 ∧ 0 ≤ wh ∧ wh < 100 ∧ 0 ≤ hv ∧ hv < 100
  · refine sp_stone (d := d + 49) h n5.1 n5.2 ?_
    split
    · exact hq _ l M C q_cfr_rf
    · next h5 =>
      have hx := q_XI_ad C h h5
      exact hq _ l _ hx.1 hx.2
  · exact sp_stoneF (by omega) (hq _ l M C q_cfr_rf)
set_option maxHeartbeats 4000000 in
theorem cv_put {Vt : Nat → Nat → (Nat → Int) → Int} {d tm l sl : Nat} {g : q_G} {M : q_M} {p wt v0 : Int} {Q : Option q_V → q_G → q_M → Prop} (C : q_XI Vt tm l sl M) (hq : ∀ (v : Int) (l2 : Nat) (M2 : q_M), q_XI Vt tm l2 sl M2 → q_cfr M M2 → Q (some (qI v)) g M2) : q_S 1 (d + 50) 71 [qR 5 0, qI p, qI wt, qI v0] g M Q := by
  have T := C.1
  have c := C.2.2.1
  have w := c.2.1
  have n5 := q_ci_n c
  have tas := c.1
  by_cases c1 : 0 ≤ p ∧ p < M 12 5
  · by_cases c2 : wt < 0 ∨ 1 < wt ∨ v0 < 0 ∨ 99 < v0
    · exact sp_putG (d := d + 49) c1 c2 (hq _ l M C q_cfr_rf)
    · obtain ⟨P, rfl⟩ : ∃ n : Nat, p = n := ⟨p.toNat, by omega⟩
      have hp : P < (M 12 5).toNat := by omega
      rcases (show wt = 0 ∨ wt = 1 by omega) with e | e
      · subst e
        exact sp_put0 (d := d + 49) hp n5.2 (by omega) (hq _ l _ (q_XI_w C (fun a i ha => by rw [q_upd_n (by omega), q_upd_n (by omega)]) (q_wl_up (q_wl_up w (Or.inl ⟨rfl, by omega, by omega⟩)) (Or.inr (Or.inl ⟨rfl, by omega, by omega⟩))) rfl (by rw [q_upd_n (by omega), q_upd_n (by omega)]; exact c.2.2.2.2.2.1) (fun a h1 h2 => by rw [q_upd_n (by omega), q_upd_n (by omega)])) (fun a i ha => by rw [q_upd_n (by omega), q_upd_n (by omega)]))
      · subst e
        exact sp_put1 (d := d + 49) hp n5.2 (by omega) (hq _ l _ (q_XI_w C (fun a i ha => by rw [q_upd_n (by omega)]) (q_wl_up2 w (Or.inl ⟨rfl, by omega, by omega⟩)) rfl (by rw [q_upd_n (by omega)]; exact c.2.2.2.2.2.1) (fun a h1 h2 => by rw [q_upd_n (by omega)])) (fun a i ha => by rw [q_upd_n (by omega)]))
  · exact sp_putF (d := d + 49) c1 (hq _ l M C q_cfr_rf)
set_option maxHeartbeats 4000000 in
theorem cv_told {Vt : Nat → Nat → (Nat → Int) → Int} {d tm l sl : Nat} {g : q_G} {M : q_M} {p wt : Int} {Q : Option q_V → q_G → q_M → Prop} (C : q_XI Vt tm l sl M) (hq : ∀ (v : Int) (l2 : Nat) (M2 : q_M), q_XI Vt tm l2 sl M2 → q_cfr M M2 → Q (some (qI v)) g M2) : q_S 1 (d + 50) 72 [qR 5 0, qI p, qI wt] g M Q := by
  have T := C.1
  have c := C.2.2.1
  have w := c.2.1
  have n5 := q_ci_n c
  have tas := c.1
  by_cases c1 : 0 ≤ p ∧ p < M 12 5
  · obtain ⟨P, rfl⟩ : ∃ n : Nat, p = n := ⟨p.toNat, by omega⟩
    exact sp_told (d := d + 46) w (show P < (M 12 5).toNat by omega) (c.2.2.2.1.1 P (by omega)) (fun M2 h => hq _ l M2 (q_XI_tq C (q_tq_tel tas h)) (q_cfr_tq (q_tq_tel tas h)))
  · exact sp_toldF (d := d + 49) c1 (hq _ l M C q_cfr_rf)
set_option maxHeartbeats 4000000 in
theorem cv_love {Vt : Nat → Nat → (Nat → Int) → Int} {d tm l sl : Nat} {g : q_G} {M : q_M} {p b wt : Int} {Q : Option q_V → q_G → q_M → Prop} (C : q_XI Vt tm l sl M) (hq : ∀ (v : Int) (l2 : Nat) (M2 : q_M), q_XI Vt tm l2 sl M2 → q_cfr M M2 → Q (some (qI v)) g M2) : q_S 1 (d + 50) 73 [qR 5 0, qI p, qI b, qI wt] g M Q := by
  have T := C.1
  have c := C.2.2.1
  have w := c.2.1
  have n5 := q_ci_n c
  have tas := c.1
  by_cases c2 : 0 ≤ p ∧ p < M 12 5
  · by_cases c3 : 0 ≤ b ∧ b < 5
    · obtain ⟨P, rfl⟩ : ∃ n : Nat, p = n := ⟨p.toNat, by omega⟩
      obtain ⟨B, rfl⟩ : ∃ n : Nat, b = n := ⟨b.toNat, by omega⟩
      exact sp_love (d := d + 47) w (show P < (M 12 5).toNat by omega) (by omega) (fun M2 h => hq _ l M2 (q_XI_tq C (q_tq_fwd tas h)) (q_cfr_tq (q_tq_fwd tas h)))
    · rw [s_X5_love]
      simp (disch := omega) only [b_X5_love_0, x_loadR_0, x_loadS_0, x_loadI_1, y_if_eq_t, y_if_eq_f, b_X5_love_8, x_loadI_2, y_if_ne_t, y_if_ne_f, b_X5_love_15, x_iconst, x_ret0, b_X5_love_19, x_loadI_3, tw_5_0, tw_5_1, tw_5_o, b_X5_love_48, f_5_3, b_X5_love_58, b_X5_love_68, q_isL_I, q_isL_R, q_isL_S, true_and, and_true, and_self, List.length_nil, List.length_cons, Nat.zero_add, x_K, x_Kn, Int.reduceToNat, Nat.reduceAdd, Nat.reduceMul, Nat.reduceLeDiff, Nat.reduceLT, Nat.zero_le, Int.reduceAdd, Int.reduceSub, Int.reduceMul, Int.reduceNeg, q_add_e, q_sub_e, q_mul_e, q_neg_e, q_upd_s, q_upd_n, zr_shr0, zr_shr1, zr_shr2, zr_shr3, zr_shr4, zr_and, zr_dyn8, zr_or, zr_shl, q_cpy_n, y_cpy26, c_X5_isStone, sp_isStone, c_X5_isBuilding, sp_isBuilding, c2, and_self, if_true, c3, if_false]
      exact hq _ l M C q_cfr_rf
  · rw [s_X5_love]
    simp (disch := omega) only [b_X5_love_0, x_loadR_0, x_loadS_0, x_loadI_1, y_if_eq_t, y_if_eq_f, b_X5_love_8, x_loadI_2, y_if_ne_t, y_if_ne_f, b_X5_love_15, x_iconst, x_ret0, b_X5_love_19, x_loadI_3, tw_5_0, tw_5_1, tw_5_o, b_X5_love_48, f_5_3, b_X5_love_58, b_X5_love_68, q_isL_I, q_isL_R, q_isL_S, true_and, and_true, and_self, List.length_nil, List.length_cons, Nat.zero_add, x_K, x_Kn, Int.reduceToNat, Nat.reduceAdd, Nat.reduceMul, Nat.reduceLeDiff, Nat.reduceLT, Nat.zero_le, Int.reduceAdd, Int.reduceSub, Int.reduceMul, Int.reduceNeg, q_add_e, q_sub_e, q_mul_e, q_neg_e, q_upd_s, q_upd_n, zr_shr0, zr_shr1, zr_shr2, zr_shr3, zr_shr4, zr_and, zr_dyn8, zr_or, zr_shl, q_cpy_n, y_cpy26, c_X5_isStone, sp_isStone, c_X5_isBuilding, sp_isBuilding, c2, if_false]
    exact hq _ l M C q_cfr_rf
set_option maxHeartbeats 4000000 in
theorem cv_year {Vt : Nat → Nat → (Nat → Int) → Int} {d tm l sl : Nat} {g : q_G} {M : q_M} {Q : Option q_V → q_G → q_M → Prop} (C : q_XI Vt tm l sl M) (hq : ∀ (v : Int) (l2 : Nat) (M2 : q_M), q_XI Vt tm l2 sl M2 → q_cfw M M2 → M2 11 9 = (if M 11 9 < 999 then M 11 9 + 1 else M 11 9) → M2 65 9 = M 65 9 → M2 0 6 = M 0 6 → q_cft M M2 → Q (some (qI v)) g M2) : q_S 1 (d + 50) 74 [qR 5 0] g M Q := by
  have T := C.1
  have c := C.2.2.1
  have w := c.2.1
  have n5 := q_ci_n c
  have tas := c.1
  have y9 := c.2.2.2.2.2.1
  by_cases h : M 11 9 < 999
  · refine sp_year (d := d + 45) w c.2.2.2.1.1 h (fun M2 h1 h2 h3 => ?_)
    have hta := q_ta_b (t := l) (by have := T.2.1; have := C.2.1; omega)
    have hy := F_year_y h2
    have hs : ∀ a i, (a ≠ 11 ∨ i ≠ 9) → a ≠ 37 → a ≠ q_ta l + 2 → (i < 5 → a ≠ 14 ∧ a ≠ 32 ∧ a ≠ 35 ∧ (a < 16 ∨ (21 ≤ a ∧ a < 23) ∨ 28 ≤ a)) → M2 a i = M a i := h3
    exact hq _ l M2 (q_XI_w C (fun a i ha => hs a i (by omega) (by omega) (by omega) (fun _ => by omega)) h1 rfl (by omega) (fun a q1 q2 => hs a 5 (by omega) (by omega) (by omega) (fun z => by omega))) (fun a i ha => hs a i (by omega) (by omega) (by omega) (fun _ => by omega)) (by rw [if_pos h]; exact hy) (hs 65 9 (by omega) (by omega) (by omega) (fun _ => by omega)) (hs 0 6 (by omega) (by omega) (by omega) (fun _ => by omega)) (fun a i ha => hs a i (by omega) (by omega) (by omega) (fun _ => by omega))
  · rw [s_X5_year]
    simp (disch := omega) only [b_X5_year_0, x_loadR_0, x_loadS_0, f_5_3, f_4_9, x_iconst, y_ic_lt_t, y_ic_lt_f, b_X5_year_13, x_ret0, b_X5_year_16, q_isL_I, q_isL_R, q_isL_S, true_and, and_true, and_self, List.length_nil, List.length_cons, Nat.zero_add, x_K, x_Kn, Int.reduceToNat, Nat.reduceAdd, Nat.reduceMul, Nat.reduceLeDiff, Nat.reduceLT, Nat.zero_le, Int.reduceAdd, Int.reduceSub, Int.reduceMul, Int.reduceNeg, q_add_e, q_sub_e, q_mul_e, q_neg_e, q_upd_s, q_upd_n, zr_shr0, zr_shr1, zr_shr2, zr_shr3, zr_shr4, zr_and, zr_dyn8, zr_or, zr_shl, q_cpy_n, y_cpy26]
    exact hq _ l M C (fun _ _ _ => rfl) (by rw [if_neg h]) rfl rfl (fun _ _ _ => rfl)
set_option maxHeartbeats 4000000 in
theorem cv_run {Vt : Nat → Nat → (Nat → Int) → Int} {d tm l sl : Nat} {g : q_G} {M : q_M} {n wt : Int} {Q : Option q_V → q_G → q_M → Prop} (C : q_XI Vt tm l sl M) (hq : ∀ (v : Int) (l2 : Nat) (M2 : q_M), q_XI Vt tm l2 sl M2 → q_cfr M M2 → Q (some (qI v)) g M2) (hwt : -2147483648 ≤ wt ∧ wt ≤ 2147483647) : q_S 1 (d + 50) 75 [qR 5 0, qI n, qI wt] g M Q := by
  have T := C.1
  have c := C.2.2.1
  have w := c.2.1
  have n5 := q_ci_n c
  have tas := c.1
  by_cases c1 : 0 ≤ n ∧ n ≤ 40
  · by_cases c2 : wt = 0 ∨ wt = 1 ∨ (0 ≤ wt - 10 ∧ wt - 10 < M 12 5)
    · obtain ⟨N, rfl⟩ : ∃ k : Nat, n = k := ⟨n.toNat, by omega⟩
      exact sp_run (d := d + 45) (q_ci_t c) w c.2.2.1 c.2.2.2.2.1.1 c.2.2.2.2.2.1 (by omega) c2 (fun M2 h h2 h3 => hq _ l M2 (q_XI_tq C (q_tq_th tas h)) (q_cfr_tq (q_tq_th tas h)))
    · by_cases c3 : -2147483638 ≤ wt
      · have c4 : ¬(0 ≤ wt - 10 ∧ wt - 10 < M 12 5) := by omega
        rw [s_X5_run]
        simp (disch := omega) only [b_X5_run_0, x_loadI_1, y_if_lt_t, y_if_lt_f, b_X5_run_4, x_iconst, y_ic_le_t, y_ic_le_f, b_X5_run_10, x_ret0, b_X5_run_13, x_loadI_2, y_if_eq_t, y_if_eq_f, b_X5_run_17, y_ic_ne_t, y_ic_ne_f, b_X5_run_22, x_goto, b_X5_run_26, b_X5_run_27, x_storeI_3, x_loadI_3, y_if_ne_t, y_if_ne_f, b_X5_run_32, x_loadR_0, x_loadS_0, x_isub, b_X5_run_43, b_X5_run_46, f_5_4, f_5_3, x_storeI_4, b_X5_run_60, x_loadI_4, y_ic_ge_t, y_ic_ge_f, b_X5_run_66, x_popI, x_popR, x_iinc_4, b_X5_run_80, b_X5_run_84, b_X5_run_88, f_4_0, b_X5_run_101, b_X5_run_111, b_X5_run_112, f_4_6, y_iald_26, q_isL_I, q_isL_R, q_isL_S, true_and, and_true, and_self, List.length_nil, List.length_cons, Nat.zero_add, x_K, x_Kn, Int.reduceToNat, Nat.reduceAdd, Nat.reduceMul, Nat.reduceLeDiff, Nat.reduceLT, Nat.zero_le, Int.reduceAdd, Int.reduceSub, Int.reduceMul, Int.reduceNeg, q_add_e, q_sub_e, q_mul_e, q_neg_e, q_upd_s, q_upd_n, zr_shr0, zr_shr1, zr_shr2, zr_shr3, zr_shr4, zr_and, zr_dyn8, zr_or, zr_shl, q_cpy_n, y_cpy26, c_X5_isStone, sp_isStone, c4, if_false]
        exact hq _ l M C q_cfr_rf
      · have e : q_sub wt 10 = wt - 10 + 4294967296 := by
          rw [q_sub_b, Int.bmod_def]
          split <;> omega
        have c4 : ¬(0 ≤ wt - 10 + 4294967296 ∧ wt - 10 + 4294967296 < M 12 5) := by omega
        rw [s_X5_run]
        simp (disch := omega) only [b_X5_run_0, x_loadI_1, y_if_lt_t, y_if_lt_f, b_X5_run_4, x_iconst, y_ic_le_t, y_ic_le_f, b_X5_run_10, x_ret0, b_X5_run_13, x_loadI_2, y_if_eq_t, y_if_eq_f, b_X5_run_17, y_ic_ne_t, y_ic_ne_f, b_X5_run_22, x_goto, b_X5_run_26, b_X5_run_27, x_storeI_3, x_loadI_3, y_if_ne_t, y_if_ne_f, b_X5_run_32, x_loadR_0, x_loadS_0, x_isub, b_X5_run_43, b_X5_run_46, f_5_4, f_5_3, x_storeI_4, b_X5_run_60, x_loadI_4, y_ic_ge_t, y_ic_ge_f, b_X5_run_66, x_popI, x_popR, x_iinc_4, b_X5_run_80, b_X5_run_84, b_X5_run_88, f_4_0, b_X5_run_101, b_X5_run_111, b_X5_run_112, f_4_6, y_iald_26, q_isL_I, q_isL_R, q_isL_S, true_and, and_true, and_self, List.length_nil, List.length_cons, Nat.zero_add, x_K, x_Kn, Int.reduceToNat, Nat.reduceAdd, Nat.reduceMul, Nat.reduceLeDiff, Nat.reduceLT, Nat.zero_le, Int.reduceAdd, Int.reduceSub, Int.reduceMul, Int.reduceNeg, q_add_e, q_sub_e, q_mul_e, q_neg_e, q_upd_s, q_upd_n, zr_shr0, zr_shr1, zr_shr2, zr_shr3, zr_shr4, zr_and, zr_dyn8, zr_or, zr_shl, q_cpy_n, y_cpy26, c_X5_isStone, sp_isStone, e, c4, if_false]
        exact hq _ l M C q_cfr_rf
  · rw [s_X5_run]
    by_cases c5 : n < 0
    · simp (disch := omega) only [b_X5_run_0, x_loadI_1, y_if_lt_t, y_if_lt_f, b_X5_run_4, x_iconst, y_ic_le_t, y_ic_le_f, b_X5_run_10, x_ret0, b_X5_run_13, x_loadI_2, y_if_eq_t, y_if_eq_f, b_X5_run_17, y_ic_ne_t, y_ic_ne_f, b_X5_run_22, x_goto, b_X5_run_26, b_X5_run_27, x_storeI_3, x_loadI_3, y_if_ne_t, y_if_ne_f, b_X5_run_32, x_loadR_0, x_loadS_0, x_isub, b_X5_run_43, b_X5_run_46, f_5_4, f_5_3, x_storeI_4, b_X5_run_60, x_loadI_4, y_ic_ge_t, y_ic_ge_f, b_X5_run_66, x_popI, x_popR, x_iinc_4, b_X5_run_80, b_X5_run_84, b_X5_run_88, f_4_0, b_X5_run_101, b_X5_run_111, b_X5_run_112, f_4_6, y_iald_26, q_isL_I, q_isL_R, q_isL_S, true_and, and_true, and_self, List.length_nil, List.length_cons, Nat.zero_add, x_K, x_Kn, Int.reduceToNat, Nat.reduceAdd, Nat.reduceMul, Nat.reduceLeDiff, Nat.reduceLT, Nat.zero_le, Int.reduceAdd, Int.reduceSub, Int.reduceMul, Int.reduceNeg, q_add_e, q_sub_e, q_mul_e, q_neg_e, q_upd_s, q_upd_n, zr_shr0, zr_shr1, zr_shr2, zr_shr3, zr_shr4, zr_and, zr_dyn8, zr_or, zr_shl, q_cpy_n, y_cpy26, c_X5_isStone, sp_isStone]
      exact hq _ l M C q_cfr_rf
    · simp (disch := omega) only [b_X5_run_0, x_loadI_1, y_if_lt_t, y_if_lt_f, b_X5_run_4, x_iconst, y_ic_le_t, y_ic_le_f, b_X5_run_10, x_ret0, b_X5_run_13, x_loadI_2, y_if_eq_t, y_if_eq_f, b_X5_run_17, y_ic_ne_t, y_ic_ne_f, b_X5_run_22, x_goto, b_X5_run_26, b_X5_run_27, x_storeI_3, x_loadI_3, y_if_ne_t, y_if_ne_f, b_X5_run_32, x_loadR_0, x_loadS_0, x_isub, b_X5_run_43, b_X5_run_46, f_5_4, f_5_3, x_storeI_4, b_X5_run_60, x_loadI_4, y_ic_ge_t, y_ic_ge_f, b_X5_run_66, x_popI, x_popR, x_iinc_4, b_X5_run_80, b_X5_run_84, b_X5_run_88, f_4_0, b_X5_run_101, b_X5_run_111, b_X5_run_112, f_4_6, y_iald_26, q_isL_I, q_isL_R, q_isL_S, true_and, and_true, and_self, List.length_nil, List.length_cons, Nat.zero_add, x_K, x_Kn, Int.reduceToNat, Nat.reduceAdd, Nat.reduceMul, Nat.reduceLeDiff, Nat.reduceLT, Nat.zero_le, Int.reduceAdd, Int.reduceSub, Int.reduceMul, Int.reduceNeg, q_add_e, q_sub_e, q_mul_e, q_neg_e, q_upd_s, q_upd_n, zr_shr0, zr_shr1, zr_shr2, zr_shr3, zr_shr4, zr_and, zr_dyn8, zr_or, zr_shl, q_cpy_n, y_cpy26, c_X5_isStone, sp_isStone]
      exact hq _ l M C q_cfr_rf
set_option maxHeartbeats 4000000 in
theorem cv_when {Vt : Nat → Nat → (Nat → Int) → Int} {d tm l sl : Nat} {g : q_G} {M : q_M} {p wt : Int} {Q : Option q_V → q_G → q_M → Prop} (C : q_XI Vt tm l sl M) (hq : ∀ (v : Int) (l2 : Nat) (M2 : q_M), q_XI Vt tm l2 sl M2 → q_cfr M M2 → Q (some (qI v)) g M2) : q_S 1 (d + 50) 76 [qR 5 0, qI p, qI wt] g M Q := by
  have T := C.1
  have c := C.2.2.1
  have w := c.2.1
  have n5 := q_ci_n c
  have tas := c.1
  by_cases c1 : 0 ≤ p ∧ p < M 12 5
  · by_cases c2 : wt = -1 ∨ (0 ≤ wt ∧ wt < 5)
    · obtain ⟨P, rfl⟩ : ∃ k : Nat, p = k := ⟨p.toNat, by omega⟩
      exact sp_when (d := d + 44) (q_ci_t c) w c.2.2.1 c.2.2.2.2.1.1 c.2.2.2.2.2.1 (by omega) c2 (fun M2 h => hq _ l M2 (q_XI_tq C (q_tq_th tas h)) (q_cfr_tq (q_tq_th tas h)))
    · exact sp_whenG (d := d + 49) c1 (by omega) (by omega) (hq _ l M C q_cfr_rf)
  · exact sp_whenF (d := d + 49) c1 (hq _ l M C q_cfr_rf)
set_option maxHeartbeats 4000000 in
theorem cv_peace {Vt : Nat → Nat → (Nat → Int) → Int} {d tm l sl : Nat} {g : q_G} {M : q_M} {wt : Int} {Q : Option q_V → q_G → q_M → Prop} (C : q_XI Vt tm l sl M) (hq : ∀ (v : Int) (l2 : Nat) (M2 : q_M), q_XI Vt tm l2 sl M2 → q_cfr M M2 → Q (some (qI v)) g M2) : q_S 1 (d + 50) 77 [qR 5 0, qI wt] g M Q := by
  have T := C.1
  have c := C.2.2.1
  have w := c.2.1
  have n5 := q_ci_n c
  have tas := c.1
  by_cases c1 : 0 ≤ wt ∧ wt ≤ 2
  · exact sp_peace (d := d + 46) w c.2.2.2.1.1 c.2.2.2.1.2 c1 (fun M2 h _ => hq _ l M2 (q_XI_tq C (q_tq_tel tas h)) (q_cfr_tq (q_tq_tel tas h)))
  · exact sp_peaceF (by omega) (hq _ l M C q_cfr_rf)
set_option maxHeartbeats 4000000 in
theorem cv_court {Vt : Nat → Nat → (Nat → Int) → Int} {d tm l sl : Nat} {g : q_G} {M : q_M} {wt : Int} {Q : Option q_V → q_G → q_M → Prop} (C : q_XI Vt tm l sl M) (hq : ∀ (v : Int) (l2 : Nat) (M2 : q_M), q_XI Vt tm l2 sl M2 → q_cfr M M2 → Q (some (qI v)) g M2) : q_S 1 (d + 50) 78 [qR 5 0, qI wt] g M Q := by
  have T := C.1
  have c := C.2.2.1
  have w := c.2.1
  have n5 := q_ci_n c
  have tas := c.1
  by_cases c1 : 0 ≤ wt ∧ wt ≤ 2
  · refine sp_court (d := d + 45) (q_ci_t c) w c.2.2.1 c.2.2.2.2.1.1 c.2.2.2.2.1.2 c1 (fun M2 M3 h h2 h3 h4 => ?_)
    have hn : M2 39 5 = M 12 5 := by
      have := congrFun (congrFun h2 9) 0
      rw [cW_90, cW_90] at this
      exact this
    have hx : q_tq M M3 := by
      rw [h4]
      exact q_tq_cM (q_tq_th tas h) (q_hi_tr F_fr_hi (F_turn_hi (by omega) 1000 _))
    exact hq _ l M3 (q_XI_tq C hx) (q_cfr_tq hx)
  · exact sp_courtF (by omega) (hq _ l M C q_cfr_rf)
set_option maxHeartbeats 4000000 in
theorem cv_all {Vt : Nat → Nat → (Nat → Int) → Int} {d tm l sl : Nat} {g : q_G} {M : q_M} {wt : Int} {Q : Option q_V → q_G → q_M → Prop} (C : q_XI Vt tm l sl M) (hq : ∀ (v : Int) (l2 : Nat) (M2 : q_M), q_XI Vt tm l2 sl M2 → q_cfr M M2 → Q (some (qI v)) g M2) : q_S 1 (d + 50) 79 [qR 5 0, qI wt] g M Q := by
  have T := C.1
  have c := C.2.2.1
  have w := c.2.1
  have n5 := q_ci_n c
  have tas := c.1
  by_cases c1 : 0 ≤ wt ∧ wt ≤ 4
  · exact sp_all (d := d + 44) c c1 (fun M2 M3 _ h => hq _ l M3 (q_XI_tq C h) (q_cfr_tq h))
  · exact sp_allF (by omega) (hq _ l M C q_cfr_rf)
set_option maxHeartbeats 4000000 in
theorem cv_annex {Vt : Nat → Nat → (Nat → Int) → Int} {d tm l sl : Nat} {g : q_G} {M : q_M} {wt : Int} {Q : Option q_V → q_G → q_M → Prop} (C : q_XI Vt tm l sl M) (hq : ∀ (v : Int) (l2 : Nat) (M2 : q_M), q_XI Vt tm l2 sl M2 → q_cfr M M2 → Q (some (qI v)) g M2) : q_S 1 (d + 50) 80 [qR 5 0, qI wt] g M Q := by
  have T := C.1
  have c := C.2.2.1
  have w := c.2.1
  have n5 := q_ci_n c
  have tas := c.1
  by_cases c1 : 0 ≤ wt ∧ wt ≤ 1
  · exact sp_annex (d := d + 44) c c1 (fun M2 M3 _ h => hq _ l M3 (q_XI_tq C h) (q_cfr_tq h))
  · exact sp_annexF (by omega) (hq _ l M C q_cfr_rf)
set_option maxHeartbeats 4000000 in
theorem cv_cart {Vt : Nat → Nat → (Nat → Int) → Int} {d tm l sl : Nat} {g : q_G} {M : q_M} {p wt : Int} {Q : Option q_V → q_G → q_M → Prop} (C : q_XI Vt tm l sl M) (hq : ∀ (v : Int) (l2 : Nat) (M2 : q_M), q_XI Vt tm l2 sl M2 → q_cfr M M2 → Q (some (qI v)) g M2) : q_S 1 (d + 50) 81 [qR 5 0, qI p, qI wt] g M Q := by
  have T := C.1
  have c := C.2.2.1
  have w := c.2.1
  have n5 := q_ci_n c
  have tas := c.1
  exact sp_cart (d := d + 44) c (fun M2 h => hq _ l M2 (q_XI_tq C h) (q_cfr_tq h))
set_option maxHeartbeats 4000000 in
theorem cv_judge {Vt : Nat → Nat → (Nat → Int) → Int} {d tm l sl : Nat} {g : q_G} {M : q_M} {s p : Int} {Q : Option q_V → q_G → q_M → Prop} (C : q_XI Vt tm l sl M) (hq : ∀ (v : Int) (l2 : Nat) (M2 : q_M), q_XI Vt tm l2 sl M2 → q_cfr M M2 → Q (some (qI v)) g M2) : q_S 1 (d + 50) 83 [qR 5 0, qI s, qI p] g M Q := by
  have T := C.1
  have c := C.2.2.1
  have w := c.2.1
  have n5 := q_ci_n c
  have tas := c.1
  exact sp_judge (d := d + 44) c (fun M2 h => hq _ l M2 (q_XI_tq C h) (q_cfr_tq h))
set_option maxHeartbeats 4000000 in
theorem cv_kinds {Vt : Nat → Nat → (Nat → Int) → Int} {d tm l sl : Nat} {g : q_G} {M : q_M} {s p so : Int} {Q : Option q_V → q_G → q_M → Prop} (C : q_XI Vt tm l sl M) (hq : ∀ (v : Int) (l2 : Nat) (M2 : q_M), q_XI Vt tm l2 sl M2 → q_cfr M M2 → Q (some (qI v)) g M2) : q_S 1 (d + 50) 84 [qR 5 0, qI s, qI p, qI so] g M Q := by
  have T := C.1
  have c := C.2.2.1
  have w := c.2.1
  have n5 := q_ci_n c
  have tas := c.1
  exact sp_kinds (d := d + 44) c (fun M2 h => hq _ l M2 (q_XI_tq C h) (q_cfr_tq h))
set_option maxHeartbeats 4000000 in
theorem cv_states {Vt : Nat → Nat → (Nat → Int) → Int} {d tm l sl : Nat} {g : q_G} {M : q_M} {s p so wt : Int} {Q : Option q_V → q_G → q_M → Prop} (C : q_XI Vt tm l sl M) (hq : ∀ (v : Int) (l2 : Nat) (M2 : q_M), q_XI Vt tm l2 sl M2 → q_cfr M M2 → Q (some (qI v)) g M2) : q_S 1 (d + 50) 85 [qR 5 0, qI s, qI p, qI so, qI wt] g M Q := by
  have T := C.1
  have c := C.2.2.1
  have w := c.2.1
  have n5 := q_ci_n c
  have tas := c.1
  exact sp_states (d := d + 44) c (fun M2 h => hq _ l M2 (q_XI_tq C h) (q_cfr_tq h))
set_option maxHeartbeats 4000000 in
theorem cv_whose {Vt : Nat → Nat → (Nat → Int) → Int} {d tm l sl : Nat} {g : q_G} {M : q_M} {s : Int} {Q : Option q_V → q_G → q_M → Prop} (C : q_XI Vt tm l sl M) (hq : ∀ (v : Int) (l2 : Nat) (M2 : q_M), q_XI Vt tm l2 sl M2 → q_cfr M M2 → Q (some (qI v)) g M2) : q_S 1 (d + 50) 86 [qR 5 0, qI s] g M Q := by
  have T := C.1
  have c := C.2.2.1
  have w := c.2.1
  have n5 := q_ci_n c
  have tas := c.1
  exact sp_whose (d := d + 44) c (fun M2 h => hq _ l M2 (q_XI_tq C h) (q_cfr_tq h))
set_option maxHeartbeats 4000000 in
theorem cv_drawn {Vt : Nat → Nat → (Nat → Int) → Int} {d tm l sl : Nat} {g : q_G} {M : q_M} {seed wt : Int} {Q : Option q_V → q_G → q_M → Prop} (C : q_XI Vt tm l sl M) (hq : ∀ (v : Int) (l2 : Nat) (M2 : q_M), q_XI Vt tm l2 sl M2 → q_cfr M M2 → Q (some (qI v)) g M2) : q_S 1 (d + 50) 89 [qR 5 0, qI seed, qI wt] g M Q := by
  have T := C.1
  have c := C.2.2.1
  have w := c.2.1
  have n5 := q_ci_n c
  have tas := c.1
  exact sp_drawn (d := d + 44) c (fun M2 h => hq _ l M2 (q_XI_tq C h) (q_cfr_tq h))
set_option maxHeartbeats 4000000 in
theorem cv_laws {Vt : Nat → Nat → (Nat → Int) → Int} {d tm l sl : Nat} {g : q_G} {M : q_M} {s p : Int} {Q : Option q_V → q_G → q_M → Prop} (C : q_XI Vt tm l sl M) (hq : ∀ (v : Int) (l2 : Nat) (M2 : q_M), q_XI Vt tm l2 sl M2 → q_cfr M M2 → Q (some (qI v)) g M2) : q_S 1 (d + 50) 87 [qR 5 0, qI s, qI p] g M Q := by
  have T := C.1
  have c := C.2.2.1
  have w := c.2.1
  have n5 := q_ci_n c
  have tas := c.1
  exact sp_laws (d := d + 44) c T (fun M2 h => hq _ l M2 (q_XI_tq C h) (q_cfr_tq h))
set_option maxHeartbeats 4000000 in
theorem cv_odds {Vt : Nat → Nat → (Nat → Int) → Int} {d tm l sl : Nat} {g : q_G} {M : q_M} {seed seeds most part : Int} {Q : Option q_V → q_G → q_M → Prop} (C : q_XI Vt tm l sl M) (hq : ∀ (v : Int) (l2 : Nat) (M2 : q_M), q_XI Vt tm l2 sl M2 → q_cfr M M2 → Q (some (qL v)) g M2) : q_S 1 (d + 50) 90 [qR 5 0, qI seed, qI seeds, qI most, qI part] g M Q := by
  have T := C.1
  have c := C.2.2.1
  have w := c.2.1
  have n5 := q_ci_n c
  have tas := c.1
  exact sp_odds (d := d + 44) c (fun M2 h => hq _ l M2 (q_XI_tq C h) (q_cfr_tq h))
set_option maxHeartbeats 4000000 in
theorem cv_share {Vt : Nat → Nat → (Nat → Int) → Int} {d tm l sl : Nat} {g : q_G} {M : q_M} {part : Int} {Q : Option q_V → q_G → q_M → Prop} (C : q_XI Vt tm l sl M) (hq : ∀ (v : Int) (l2 : Nat) (M2 : q_M), q_XI Vt tm l2 sl M2 → q_cfr M M2 → Q (some (qL v)) g M2) : q_S 1 (d + 50) 82 [qR 5 0, qI part] g M Q := by
  have T := C.1
  have c := C.2.2.1
  have w := c.2.1
  have n5 := q_ci_n c
  have tas := c.1
  exact sp_share (d := d + 49) w (hq _ l M C q_cfr_rf)
theorem q_XI_one {Vt : Nat → Nat → (Nat → Int) → Int} {tm l sl S : Nat} {M M2 : q_M} (C : q_XI Vt tm l sl M) (hS : S < 4) (hf : ∀ a i, a ≠ 6 + (86 + 2 * S) → a ≠ 6 + (86 + 2 * S) + 1 → M2 a i = M a i) (hn : 0 ≤ M2 (6 + (86 + 2 * S)) 2 ∧ M2 (6 + (86 + 2 * S)) 2 ≤ 40) : q_XI Vt tm l sl M2 ∧ q_cfr M M2 := by
  refine ⟨q_XI_sh C (fun a i ha => hf a i (by omega) (by omega)) (by rw [hf 1 1 (by omega) (by omega)]; exact C.2.2.2.2.2.1) (fun s hs => ?_), fun a i ha => hf a i (by omega) (by omega)⟩
  by_cases e : s = S
  · subst e
    exact hn
  · rw [hf _ _ (by omega) (by omega)]
    exact C.2.2.1.2.2.2.2.2.2 s hs
set_option maxHeartbeats 4000000 in
theorem cv_film {Vt : Nat → Nat → (Nat → Int) → Int} {d tm l sl : Nat} {g : q_G} {M : q_M} {s p n : Int} {Q : Option q_V → q_G → q_M → Prop} (C : q_XI Vt tm l sl M) (hq : ∀ (v : Int) (l2 : Nat) (M2 : q_M), q_XI Vt tm l2 sl M2 → q_cfr M M2 → Q (some (qI v)) g M2) : q_S 1 (d + 50) 88 [qR 5 0, qI s, qI p, qI n] g M Q := by
  have T := C.1
  have c := C.2.2.1
  have w := c.2.1
  have n5 := q_ci_n c
  have tas := c.1
  refine sp_film (d := d + 44) c (fun M2 h => ?_)
  have hx : q_XI Vt tm l sl (q_filmM (Vt l) M s p n) ∧ q_cfr M (q_filmM (Vt l) M s p n) := by
    unfold q_filmM
    split
    · exact q_XI_one (S := s.toNat) C (by omega) (fun a i h1 h2 => q_shM_n h1 h2) (by rw [q_shM_2]; omega)
    · exact ⟨C, q_cfr_rf⟩
  exact hq _ l M2 (q_XI_tq hx.1 h) (fun a i ha => (q_cfr_tq h a i ha).trans (hx.2 a i ha))
set_option maxHeartbeats 4000000 in
theorem cv_image {Vt : Nat → Nat → (Nat → Int) → Int} {d tm l sl : Nat} {g : q_G} {M : q_M} {Q : Option q_V → q_G → q_M → Prop} (C : q_XI Vt tm l sl M) (hq : ∀ (v : Int) (l2 : Nat) (M2 : q_M), q_XI Vt tm l2 sl M2 → q_cfw M M2 → M2 11 9 = M 11 9 → M2 65 9 = M 11 9 → M2 0 6 = 1 → (∀ a i, ((a = 11 ∧ i = 10) ∨ (a = 1 ∧ i = 1) ∨ a = 2) → M2 a i = M a i) → M2 65 10 = M 11 10 → Q (some (qI v)) g M2) : q_S 1 (d + 50) 91 [qR 5 0] g M Q := by
  have T := C.1
  have c := C.2.2.1
  have w := c.2.1
  have n5 := q_ci_n c
  have tas := c.1
  have hta := q_ta_b (t := l) (by have := T.2.1; have := C.2.1; omega)
  refine sp_image (d := d + 48) w (fun M2 h => ?_)
  have hw := q_cpd_wl w (q_rg5_of C.2.2.2.1.1) (by omega) h
  have hf : ∀ a i, (a < 65 ∨ 90 < a) → M2 a i = M a i := fun a i ha => h.2.2.2.2 a i (by omega)
  exact hq _ l _ (q_XI_kp C (fun a i ha => by rw [q_upd_n (by omega)]; exact hf a i (by omega)) (q_rgW_c (fun a i h1 h2 => q_upd_n (by omega)) hw.1) (by rw [q_upd_n (by omega), h.2.2.1]; exact c.2.2.2.2.2.1) ⟨l, C.2.1, by rw [q_upd_n (by omega)]; exact hw.2.2.2.1⟩) (fun a i ha => by rw [q_upd_n (by omega)]; exact hf a i (by omega)) (by rw [q_upd_n (by omega)]; exact hf 11 9 (by omega)) (by rw [q_upd_n (by omega)]; exact h.2.2.1) q_upd_s (fun a i ha => by rw [q_upd_n (by omega)]; exact hf a i (by omega)) (by rw [q_upd_n (by omega), hw.2.2.2.1, w.2.2.2.1])
set_option maxHeartbeats 4000000 in
theorem cv_back {Vt : Nat → Nat → (Nat → Int) → Int} {d tm l sl : Nat} {g : q_G} {M : q_M} {Q : Option q_V → q_G → q_M → Prop} (C : q_XI Vt tm l sl M) (hq : ∀ (v : Int) (l2 : Nat) (M2 : q_M), q_XI Vt tm l2 sl M2 → q_cfw M M2 → M2 11 9 = (if M 0 6 = 0 then M 11 9 else M 65 9) → M2 65 9 = M 65 9 → M2 0 6 = M 0 6 → (∀ a i, ((a = 65 ∧ i = 10) ∨ (a = 1 ∧ i = 1) ∨ a = 2) → M2 a i = M a i) → M2 11 10 = (if M 0 6 = 0 then M 11 10 else M 65 10) → Q (some (qI v)) g M2) : q_S 1 (d + 50) 92 [qR 5 0] g M Q := by
  have T := C.1
  have c := C.2.2.1
  have w := c.2.1
  have n5 := q_ci_n c
  have tas := c.1
  by_cases h : M 0 6 = 0
  · exact sp_backF h (hq _ l M C (fun _ _ _ => rfl) (by rw [if_pos h]) rfl rfl (fun _ _ _ => rfl) (by rw [if_pos h]))
  · obtain ⟨kl, hkl, hla⟩ := C.2.2.2.2.1 h
    have hta := q_ta_b (t := kl) (by have := T.2.1; omega)
    have hx := T.2.2.2 kl hkl
    refine sp_back (V := Vt kl) (d := d + 48) h hla (by omega) (fun M2 h2 => ?_)
    have hw := q_cpd_wl (V := Vt kl) (ta := q_ta kl) ⟨C.2.2.2.1.1, hx.2.2.1, hx.2.2.2, hla, by omega, by omega⟩ (q_rg5_of w.1) (by omega) h2
    have hf : ∀ a i, (a < 11 ∨ (14 < a ∧ a < 30) ∨ 36 < a) → M2 a i = M a i := fun a i ha => h2.2.2.2.2 a i (by omega)
    exact hq _ kl M2 (q_XI_now C hkl (fun a i ha => hf a i (by omega)) hw.1 (by rw [h2.2.2.1]; exact C.2.2.2.1.2) hw.2.2.2.1 (q_z5_eq (fun a h3 h4 => hf a 5 (by omega)) c.2.2.2.1)) (fun a i ha => hf a i (by omega)) (by rw [if_neg h]; exact h2.2.2.1) (hf 65 9 (by omega)) (hf 0 6 (by omega)) (fun a i ha => hf a i (by omega)) (by rw [if_neg h, hw.2.2.2.1, hla])
set_option maxHeartbeats 4000000 in
theorem cv_sheet {Vt : Nat → Nat → (Nat → Int) → Int} {d tm l sl : Nat} {g : q_G} {M : q_M} {s so n : Int} {Q : Option q_V → q_G → q_M → Prop} (C : q_XI Vt tm l sl M) (hq : ∀ (l2 : Nat) (M2 : q_M), q_XI Vt tm l2 sl M2 → q_cfr M M2 → Q (some (qI (A_sheet s so n))) g M2) : q_S 1 (d + 50) 93 [qR 5 0, qI s, qI so, qI n] g M Q := by
  have hx : q_XI Vt tm l sl (q_sheetM M s so n) ∧ q_cfr M (q_sheetM M s so n) := by
    unfold q_sheetM
    split
    · next h =>
      unfold A_sheet at h
      exact q_XI_one (S := s.toNat) C (by omega) (fun a i h1 h2 => q_shM_n h1 h2) (by rw [q_shM_2]; omega)
    · exact ⟨C, q_cfr_rf⟩
  exact sp_sheet (d := d + 49) (hq l _ hx.1 hx.2)
set_option maxHeartbeats 4000000 in
theorem cv_cell {Vt : Nat → Nat → (Nat → Int) → Int} {d tm l sl : Nat} {g : q_G} {M : q_M} {s i v0 : Int} {Q : Option q_V → q_G → q_M → Prop} (C : q_XI Vt tm l sl M) (hq : ∀ (v : Int) (l2 : Nat) (M2 : q_M), q_XI Vt tm l2 sl M2 → q_cfr M M2 → Q (some (qI v)) g M2) : q_S 1 (d + 50) 94 [qR 5 0, qI s, qI i, qI v0] g M Q := by
  have T := C.1
  have c := C.2.2.1
  have w := c.2.1
  have n5 := q_ci_n c
  have tas := c.1
  have hx : q_XI Vt tm l sl (q_cellM M s i v0) ∧ q_cfr M (q_cellM M s i v0) := by
    unfold q_cellM
    split
    · next h =>
      unfold A_cell at h
      have hS : s.toNat < 4 := by omega
      exact q_XI_one (S := s.toNat) C hS (fun a i h1 h2 => q_upd_n (by omega)) (by rw [q_upd_n (by omega)]; exact c.2.2.2.2.2.2 _ hS)
    · exact ⟨C, q_cfr_rf⟩
  exact sp_cell (d := d + 49) c.2.2.2.2.2.2 (hq _ l _ hx.1 hx.2)
set_option maxHeartbeats 4000000 in
theorem cv_copy {Vt : Nat → Nat → (Nat → Int) → Int} {d tm l sl : Nat} {g : q_G} {M : q_M} {s i o j n : Int} {Q : Option q_V → q_G → q_M → Prop} (C : q_XI Vt tm l sl M) (hq : ∀ (v : Int) (l2 : Nat) (M2 : q_M), q_XI Vt tm l2 sl M2 → q_cfr M M2 → Q (some (qI v)) g M2) (hn : n ≤ 2147483647) : q_S 1 (d + 50) 95 [qR 5 0, qI s, qI i, qI o, qI j, qI n] g M Q := by
  have T := C.1
  have c := C.2.2.1
  have w := c.2.1
  have n5 := q_ci_n c
  have tas := c.1
  have hx : q_XI Vt tm l sl (q_copyM M s i o j n) ∧ q_cfr M (q_copyM M s i o j n) := by
    unfold q_copyM
    split
    · next h =>
      unfold A_copy at h
      have hS : o.toNat < 4 := by
        split at h
        · omega
        · omega
      refine q_XI_one (S := o.toNat) C hS (fun a i h1 h2 => ?_) ?_
      · unfold q_cpy
        rw [if_neg (fun z => h2 z.1)]
      · unfold q_cpy
        rw [if_neg (fun z => by omega)]
        exact c.2.2.2.2.2.2 _ hS
    · exact ⟨C, q_cfr_rf⟩
  exact sp_copy (d := d + 49) c.2.2.2.2.2.2 hn (hq _ l _ hx.1 hx.2)
theorem q_XI_sb {Vt : Nat → Nat → (Nat → Int) → Int} {tm l sl : Nat} {Cl : Nat → Int} {fr sz : Int} : ∀ (j k : Nat) (came : Int) (M : q_M), q_XI Vt tm l sl M → q_XI Vt tm l sl (q_sb Cl fr sz j k came M).2 ∧ q_cfr M (q_sb Cl fr sz j k came M).2 := by
  intro j
  induction j with
  | zero => intro k came M C; exact ⟨C, q_cfr_rf⟩
  | succ j ih =>
    intro k came M C
    unfold q_sb
    split
    · exact ⟨C, q_cfr_rf⟩
    · split
      · next h =>
        have hx := q_XI_ad C (of_decide_eq_true h.1) h.2
        have hy := ih (k + 1) (came + 1) _ hx.1
        exact ⟨hy.1, fun a i ha => (hy.2 a i ha).trans (hx.2 a i ha)⟩
      · exact ih (k + 1) came M C
set_option maxHeartbeats 4000000 in
theorem cv_stonesBy {Vt : Nat → Nat → (Nat → Int) → Int} {d tm l sl : Nat} {g : q_G} {M : q_M} {s so fr n : Int} {Q : Option q_V → q_G → q_M → Prop} (C : q_XI Vt tm l sl M) (hq : ∀ (v : Int) (l2 : Nat) (M2 : q_M), q_XI Vt tm l2 sl M2 → q_cfr M M2 → Q (some (qI v)) g M2) : q_S 1 (d + 50) 96 [qR 5 0, qI s, qI so, qI fr, qI n] g M Q := by
  have T := C.1
  have c := C.2.2.1
  have w := c.2.1
  have n5 := q_ci_n c
  have tas := c.1
  have hx : q_XI Vt tm l sl (q_stonesBy M s so fr n).2 ∧ q_cfr M (q_stonesBy M s so fr n).2 := by
    unfold q_stonesBy
    split
    · exact ⟨C, q_cfr_rf⟩
    · split
      · exact ⟨C, q_cfr_rf⟩
      · split
        · exact ⟨C, q_cfr_rf⟩
        · split
          · exact ⟨C, q_cfr_rf⟩
          · exact q_XI_sb _ _ _ _ C
  exact sp_stonesBy (d := d + 48) c.2.2.2.2.2.2 n5.1 n5.2 (hq _ l _ hx.1 hx.2)
set_option maxHeartbeats 4000000 in
theorem cv_taken {Vt : Nat → Nat → (Nat → Int) → Int} {d tm l sl : Nat} {g : q_G} {M : q_M} {i k : Int} {Q : Option q_V → q_G → q_M → Prop} (C : q_XI Vt tm l sl M) (hq : ∀ (v : Int) (l2 : Nat) (M2 : q_M), q_XI Vt tm l2 sl M2 → q_cfr M M2 → Q (some (qI v)) g M2) : q_S 1 (d + 50) 97 [qR 5 0, qI i, qI k] g M Q := by
  have T := C.1
  have c := C.2.2.1
  have w := c.2.1
  have n5 := q_ci_n c
  have tas := c.1
  exact sp_taken (d := d + 49) n5.1 n5.2 (hq _ l M C q_cfr_rf)
