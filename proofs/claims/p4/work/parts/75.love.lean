/-! THE CLASS'S ENTRIES: love; the thought -/
theorem sp_love {V : Nat → (Nat → Int) → Int} {d : Nat} {g : q_G} {M : q_M} {ta p b : Nat} {wt : Int} {Q : Option q_V → q_G → q_M → Prop} (hw : q_wl V M 11 ta) (hp : p < (M (11 + 1) 5).toNat) (hb : b < 5) (hq : ∀ M2 : q_M, q_fwd 11 ta M M2 → Q (some (qI (if wt = 0 then F_likes V (cW M 11) p b else if wt = 1 then F_wants V (cW M 11) p b else -7000))) g M2) : q_S 1 (d + 3) 73 [qR 5 0, qI p, qI b, qI wt] g M Q := by
  have hst : 0 ≤ (p : Int) ∧ (p : Int) < M 12 5 := ⟨by omega, by have h : p < (M 12 5).toNat := hp; omega⟩
  have hsb : 0 ≤ (b : Int) ∧ (b : Int) < 5 := ⟨by omega, by omega⟩
  rw [s_X5_love]
  by_cases k0 : wt = 0
  · rw [if_pos k0] at hq
    simp (disch := omega) only [b_X5_love_0, x_loadR_0, x_loadS_0, x_loadI_1, y_if_eq_t, y_if_eq_f, b_X5_love_8, x_loadI_2, y_if_ne_t, y_if_ne_f, b_X5_love_15, x_iconst, x_ret0, b_X5_love_19, x_loadI_3, tw_5_0, tw_5_1, tw_5_o, b_X5_love_48, f_5_3, b_X5_love_58, b_X5_love_68, q_isL_I, q_isL_R, q_isL_S, true_and, and_true, and_self, List.length_nil, List.length_cons, Nat.zero_add, x_K, x_Kn, Int.reduceToNat, Nat.reduceAdd, Nat.reduceMul, Nat.reduceLeDiff, Nat.reduceLT, Nat.zero_le, Int.reduceAdd, Int.reduceSub, Int.reduceMul, Int.reduceNeg, q_add_e, q_sub_e, q_mul_e, q_neg_e, q_upd_s, q_upd_n, zr_shr0, zr_shr1, zr_shr2, zr_shr3, zr_shr4, zr_and, zr_dyn8, zr_or, zr_shl, q_cpy_n, y_cpy26, c_X5_isStone, sp_isStone, hst, c_X5_isBuilding, sp_isBuilding, hsb, and_self, if_true, Int.toNat_natCast, c_X4_likes, k0]
    refine sp_likes hw hp hb (fun M2 h2 => ?_)
    simp (disch := omega) only [b_X5_love_0, x_loadR_0, x_loadS_0, x_loadI_1, y_if_eq_t, y_if_eq_f, b_X5_love_8, x_loadI_2, y_if_ne_t, y_if_ne_f, b_X5_love_15, x_iconst, x_ret0, b_X5_love_19, x_loadI_3, tw_5_0, tw_5_1, tw_5_o, b_X5_love_48, f_5_3, b_X5_love_58, b_X5_love_68, q_isL_I, q_isL_R, q_isL_S, true_and, and_true, and_self, List.length_nil, List.length_cons, Nat.zero_add, x_K, x_Kn, Int.reduceToNat, Nat.reduceAdd, Nat.reduceMul, Nat.reduceLeDiff, Nat.reduceLT, Nat.zero_le, Int.reduceAdd, Int.reduceSub, Int.reduceMul, Int.reduceNeg, q_add_e, q_sub_e, q_mul_e, q_neg_e, q_upd_s, q_upd_n, zr_shr0, zr_shr1, zr_shr2, zr_shr3, zr_shr4, zr_and, zr_dyn8, zr_or, zr_shl, q_cpy_n, y_cpy26]
    exact hq M2 h2
  rw [if_neg k0] at hq
  by_cases k1 : wt = 1
  · rw [if_pos k1] at hq
    simp (disch := omega) only [b_X5_love_0, x_loadR_0, x_loadS_0, x_loadI_1, y_if_eq_t, y_if_eq_f, b_X5_love_8, x_loadI_2, y_if_ne_t, y_if_ne_f, b_X5_love_15, x_iconst, x_ret0, b_X5_love_19, x_loadI_3, tw_5_0, tw_5_1, tw_5_o, b_X5_love_48, f_5_3, b_X5_love_58, b_X5_love_68, q_isL_I, q_isL_R, q_isL_S, true_and, and_true, and_self, List.length_nil, List.length_cons, Nat.zero_add, x_K, x_Kn, Int.reduceToNat, Nat.reduceAdd, Nat.reduceMul, Nat.reduceLeDiff, Nat.reduceLT, Nat.zero_le, Int.reduceAdd, Int.reduceSub, Int.reduceMul, Int.reduceNeg, q_add_e, q_sub_e, q_mul_e, q_neg_e, q_upd_s, q_upd_n, zr_shr0, zr_shr1, zr_shr2, zr_shr3, zr_shr4, zr_and, zr_dyn8, zr_or, zr_shl, q_cpy_n, y_cpy26, c_X5_isStone, sp_isStone, hst, c_X5_isBuilding, sp_isBuilding, hsb, and_self, if_true, Int.toNat_natCast, c_X4_wants, k1]
    refine sp_wants hw hp hb (fun M2 h2 => ?_)
    simp (disch := omega) only [b_X5_love_0, x_loadR_0, x_loadS_0, x_loadI_1, y_if_eq_t, y_if_eq_f, b_X5_love_8, x_loadI_2, y_if_ne_t, y_if_ne_f, b_X5_love_15, x_iconst, x_ret0, b_X5_love_19, x_loadI_3, tw_5_0, tw_5_1, tw_5_o, b_X5_love_48, f_5_3, b_X5_love_58, b_X5_love_68, q_isL_I, q_isL_R, q_isL_S, true_and, and_true, and_self, List.length_nil, List.length_cons, Nat.zero_add, x_K, x_Kn, Int.reduceToNat, Nat.reduceAdd, Nat.reduceMul, Nat.reduceLeDiff, Nat.reduceLT, Nat.zero_le, Int.reduceAdd, Int.reduceSub, Int.reduceMul, Int.reduceNeg, q_add_e, q_sub_e, q_mul_e, q_neg_e, q_upd_s, q_upd_n, zr_shr0, zr_shr1, zr_shr2, zr_shr3, zr_shr4, zr_and, zr_dyn8, zr_or, zr_shl, q_cpy_n, y_cpy26]
    exact hq M2 h2
  · rw [if_neg k1] at hq
    simp (disch := omega) only [b_X5_love_0, x_loadR_0, x_loadS_0, x_loadI_1, y_if_eq_t, y_if_eq_f, b_X5_love_8, x_loadI_2, y_if_ne_t, y_if_ne_f, b_X5_love_15, x_iconst, x_ret0, b_X5_love_19, x_loadI_3, tw_5_0, tw_5_1, tw_5_o, b_X5_love_48, f_5_3, b_X5_love_58, b_X5_love_68, q_isL_I, q_isL_R, q_isL_S, true_and, and_true, and_self, List.length_nil, List.length_cons, Nat.zero_add, x_K, x_Kn, Int.reduceToNat, Nat.reduceAdd, Nat.reduceMul, Nat.reduceLeDiff, Nat.reduceLT, Nat.zero_le, Int.reduceAdd, Int.reduceSub, Int.reduceMul, Int.reduceNeg, q_add_e, q_sub_e, q_mul_e, q_neg_e, q_upd_s, q_upd_n, zr_shr0, zr_shr1, zr_shr2, zr_shr3, zr_shr4, zr_and, zr_dyn8, zr_or, zr_shl, q_cpy_n, y_cpy26, c_X5_isStone, sp_isStone, hst, c_X5_isBuilding, sp_isBuilding, hsb, and_self, if_true, Int.toNat_natCast]
    exact hq M q_fwd_rf
/-- years one after another -/
def F_ys (V : Nat → (Nat → Int) → Int) (S : q_M) : Nat → q_M
  | 0 => S
  | n + 1 => (F_year V (F_ys V S n)).2
/-- what a thought changes: its own cells and the text's stack -/
def q_th (ta : Nat) (M M2 : q_M) : Prop := ∀ a i, (a < 38 ∨ 65 ≤ a ∨ (5 ≤ i ∧ 40 ≤ a ∧ a < 64)) → a ≠ ta + 2 → M2 a i = M a i
theorem q_th_rf {ta : Nat} {M : q_M} : q_th ta M M := fun _ _ _ _ => rfl
theorem q_th_tr {ta : Nat} {M M2 M3 : q_M} (h : q_th ta M M2) (h2 : q_th ta M2 M3) : q_th ta M M3 := fun a i h3 h4 => (h2 a i h3 h4).trans (h a i h3 h4)
theorem q_th_yn {ta : Nat} {M M2 : q_M} (h : q_yn 38 ta M M2) : q_th ta M M2 := fun a i h1 h2 => h a i (by omega) (by omega) h2 (fun _ => by omega)
theorem q_th_cpd {ta : Nat} {M M2 : q_M} (h : q_cpd 38 11 M M2) : q_th ta M M2 := fun a i h1 _ => h.2.2.2.2 a i (by omega)
