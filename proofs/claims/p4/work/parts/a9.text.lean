/-! THE CLASS'S READER: a part, the whole; a text made of it -/
theorem q_zM_self {M : q_M} : q_zM M (M 1 3, M 1 5, M 1 6, M 1 7, M 1 8, M 1 9, M 3) (M 4) = M := by
  funext a i
  unfold q_zM
  by_cases c : a = 1
  · rw [if_pos c, c]
    simp only
    by_cases k3 : i = 3
    · rw [if_pos k3, k3]
    rw [if_neg k3]
    by_cases k5 : i = 5
    · rw [if_pos k5, k5]
    rw [if_neg k5]
    by_cases k6 : i = 6
    · rw [if_pos k6, k6]
    rw [if_neg k6]
    by_cases k7 : i = 7
    · rw [if_pos k7, k7]
    rw [if_neg k7]
    by_cases k8 : i = 8
    · rw [if_pos k8, k8]
    rw [if_neg k8]
    by_cases k9 : i = 9
    · rw [if_pos k9, k9]
    rw [if_neg k9]
  · rw [if_neg c]
    by_cases c3 : a = 3
    · rw [if_pos c3, c3]
    rw [if_neg c3]
    by_cases c4 : a = 4
    · rw [if_pos c4, c4]
    rw [if_neg c4]
set_option maxHeartbeats 4000000 in
theorem sp_part {d n p : Nat} {key : Int} {g : q_G} {M : q_M} {z : q_Z} {s : Nat → Int} {Q : Option q_V → q_G → q_M → Prop} (hn : M 1 1 = n) (hn2 : n ≤ 160) (hp : p < 3) (hz : q_zI n z) (hq : Q none g (q_zM M (R_pt (M 2) n key z) (F_u s p (R_ex (M 2) n key z).1))) : q_S 1 (d + 45) 25 [qR 1 1, qI p, qI key] g (q_zM M z s) Q := by
  have z1 := R_ex_I (T := M 2) (w := key) hz
  have z2 := (R_lv_I (T := M 2) 5).2.2 _ z1
  have z3 := R_ex_I (T := M 2) (w := 59) z2
  have ex : ∀ (z : q_Z) (s : Nat → Int) (w : Int) (nx : Nat) (ops : List Instr) (ls st : List q_V), q_zI n z → q_T 1 (d + 45) qP_X1_part nx ops ls st g (q_zM M (R_ex (M 2) n w z) s) Q → q_S 1 (d + 44) 26 [qR 1 1, qI w] g (q_zM M z s) (q_K 1 (d + 45) qP_X1_part nx ops ls st Q) := fun z s w nx ops ls st hz h => sp_expect hn hn2 hz h
  have em : ∀ (z : q_Z) (s : Nat → Int) (a b : Int) (nx : Nat) (ops : List Instr) (ls st : List q_V), q_zI n z → q_T 1 (d + 45) qP_X1_part nx ops ls st g (q_zM M (R_em a b z) s) Q → q_S 1 (d + 44) 28 [qR 1 1, qI a, qI b] g (q_zM M z s) (q_K 1 (d + 45) qP_X1_part nx ops ls st Q) := fun z s a b nx ops ls st hz h => sp_emit hz h
  have ei : ∀ (z : q_Z) (s : Nat → Int) (nx : Nat) (ops : List Instr) (ls st : List q_V), q_zI n z → q_T 1 (d + 45) qP_X1_part nx ops ls st g (q_zM M ((R_lv (M 2) n 5).2.2 z) s) Q → q_S 1 (d + 44) 29 [qR 1 1, qI 0] g (q_zM M z s) (q_K 1 (d + 45) qP_X1_part nx ops ls st Q) := fun z s nx ops ls st hz h => (sp_lv (g := g) hn hn2 5 d (by omega)).2.2 z s _ hz h
  rw [s_X1_part]
  simp (disch := omega) only [b_X1_part_0, x_loadR_0, x_loadS_0, x_loadI_2, f_1_4, x_loadI_1, f_1_3, y_iast_23, x_iconst, x_vret, q_isL_I, q_isL_R, q_isL_S, true_and, and_true, and_self, List.length_nil, List.length_cons, Nat.zero_add, x_K, x_Kn, Int.reduceToNat, Nat.reduceAdd, Nat.reduceMul, Nat.reduceLeDiff, Nat.reduceLT, Nat.zero_le, Int.reduceAdd, Int.reduceSub, Int.reduceMul, Int.reduceNeg, q_add_e, q_sub_e, q_mul_e, q_neg_e, q_upd_s, q_upd_n, zr_shr0, zr_shr1, zr_shr2, zr_shr3, zr_shr4, zr_and, zr_dyn8, zr_or, zr_shl, q_cpy_n, y_cpy26, c_X1_expect]
  refine ex z s key _ _ _ _ hz ?_
  simp (disch := omega) only [b_X1_part_0, x_loadR_0, x_loadS_0, x_loadI_2, f_1_4, x_loadI_1, f_1_3, y_iast_23, x_iconst, x_vret, q_isL_I, q_isL_R, q_isL_S, true_and, and_true, and_self, List.length_nil, List.length_cons, Nat.zero_add, x_K, x_Kn, Int.reduceToNat, Nat.reduceAdd, Nat.reduceMul, Nat.reduceLeDiff, Nat.reduceLT, Nat.zero_le, Int.reduceAdd, Int.reduceSub, Int.reduceMul, Int.reduceNeg, q_add_e, q_sub_e, q_mul_e, q_neg_e, q_upd_s, q_upd_n, zr_shr0, zr_shr1, zr_shr2, zr_shr3, zr_shr4, zr_and, zr_dyn8, zr_or, zr_shl, q_cpy_n, y_cpy26, Int.toNat_natCast, rz_cn, ruz_s, c_X1_either]
  refine ei _ _ _ _ _ _ z1 ?_
  simp (disch := omega) only [b_X1_part_0, x_loadR_0, x_loadS_0, x_loadI_2, f_1_4, x_loadI_1, f_1_3, y_iast_23, x_iconst, x_vret, q_isL_I, q_isL_R, q_isL_S, true_and, and_true, and_self, List.length_nil, List.length_cons, Nat.zero_add, x_K, x_Kn, Int.reduceToNat, Nat.reduceAdd, Nat.reduceMul, Nat.reduceLeDiff, Nat.reduceLT, Nat.zero_le, Int.reduceAdd, Int.reduceSub, Int.reduceMul, Int.reduceNeg, q_add_e, q_sub_e, q_mul_e, q_neg_e, q_upd_s, q_upd_n, zr_shr0, zr_shr1, zr_shr2, zr_shr3, zr_shr4, zr_and, zr_dyn8, zr_or, zr_shl, q_cpy_n, y_cpy26, c_X1_expect]
  refine ex _ _ _ _ _ _ _ z2 ?_
  simp (disch := omega) only [b_X1_part_0, x_loadR_0, x_loadS_0, x_loadI_2, f_1_4, x_loadI_1, f_1_3, y_iast_23, x_iconst, x_vret, q_isL_I, q_isL_R, q_isL_S, true_and, and_true, and_self, List.length_nil, List.length_cons, Nat.zero_add, x_K, x_Kn, Int.reduceToNat, Nat.reduceAdd, Nat.reduceMul, Nat.reduceLeDiff, Nat.reduceLT, Nat.zero_le, Int.reduceAdd, Int.reduceSub, Int.reduceMul, Int.reduceNeg, q_add_e, q_sub_e, q_mul_e, q_neg_e, q_upd_s, q_upd_n, zr_shr0, zr_shr1, zr_shr2, zr_shr3, zr_shr4, zr_and, zr_dyn8, zr_or, zr_shl, q_cpy_n, y_cpy26, c_X1_emit]
  refine em _ _ _ _ _ _ _ _ z3 ?_
  simp (disch := omega) only [b_X1_part_0, x_loadR_0, x_loadS_0, x_loadI_2, f_1_4, x_loadI_1, f_1_3, y_iast_23, x_iconst, x_vret, q_isL_I, q_isL_R, q_isL_S, true_and, and_true, and_self, List.length_nil, List.length_cons, Nat.zero_add, x_K, x_Kn, Int.reduceToNat, Nat.reduceAdd, Nat.reduceMul, Nat.reduceLeDiff, Nat.reduceLT, Nat.zero_le, Int.reduceAdd, Int.reduceSub, Int.reduceMul, Int.reduceNeg, q_add_e, q_sub_e, q_mul_e, q_neg_e, q_upd_s, q_upd_n, zr_shr0, zr_shr1, zr_shr2, zr_shr3, zr_shr4, zr_and, zr_dyn8, zr_or, zr_shl, q_cpy_n, y_cpy26]
  exact hq
theorem R_nx_I0 {T : Nat → Int} {n : Nat} {tok val fr : Int} {C : Nat → Int} : q_zI n (R_nx T n (0, tok, val, fr, 0, -1, C)) := by
  unfold R_nx
  simp only
  rw [if_neg (by omega)]
  have hw := F_wh_le (P := F_blk) (T := T) (n - (0 : Int).toNat) (0 : Int).toNat
  have e0 : (0 : Int).toNat = 0 := rfl
  have hk := R_tk_ok (T := T) (n := n) (i := F_wh F_blk T (n - (0 : Int).toNat) (0 : Int).toNat) (v := val) (by omega)
  refine ⟨⟨by show (0 : Int) ≤ 0; omega, by show (0 : Int) ≤ 160; omega⟩, ⟨?_, ?_⟩, ⟨?_, ?_⟩, ⟨by show (-1 : Int) ≤ -1; omega, by show (-1 : Int) ≤ n; omega⟩, fun i hi => absurd hi (Nat.not_lt_zero i), hk.1⟩
  · show (0 : Int) ≤ ((F_wh F_blk T (n - (0 : Int).toNat) (0 : Int).toNat : Nat) : Int)
    omega
  · show ((F_wh F_blk T (n - (0 : Int).toNat) (0 : Int).toNat : Nat) : Int) ≤ n
    omega
  · show (0 : Int) ≤ (((R_tk T n (F_wh F_blk T (n - (0 : Int).toNat) (0 : Int).toNat) val).2.2 : Nat) : Int)
    omega
  · show (((R_tk T n (F_wh F_blk T (n - (0 : Int).toNat) (0 : Int).toNat) val).2.2 : Nat) : Int) ≤ n
    omega
/-- the whole: what the three parts and the end come to -/
def R_z2 (T : Nat → Int) (n : Nat) (z : q_Z) : q_Z := R_pt T n (-5) z
def R_z3 (T : Nat → Int) (n : Nat) (z : q_Z) : q_Z := R_pt T n (-6) (R_z2 T n z)
def R_z4 (T : Nat → Int) (n : Nat) (z : q_Z) : q_Z := R_pt T n (-7) (R_z3 T n z)
def R_z5 (T : Nat → Int) (n : Nat) (z : q_Z) : q_Z := R_ex T n (-2) (R_z4 T n z)
def R_st (T : Nat → Int) (n : Nat) (z : q_Z) (s : Nat → Int) : Nat → Int := F_u (F_u (F_u s 0 (R_ex T n (-5) z).1) 1 (R_ex T n (-6) (R_z2 T n z)).1) 2 (R_ex T n (-7) (R_z3 T n z)).1
/-- the first token of the tape, read over what the reader held -/
def R_z1 (M : q_M) (n : Nat) : q_Z := R_nx (M 2) n (0, M 1 5, M 1 6, M 1 7, 0, -1, M 3)
theorem R_z5_I {T : Nat → Int} {n : Nat} {z : q_Z} (h : q_zI n z) : q_zI n (R_z5 T n z) := R_ex_I (R_pt_I (R_pt_I (R_pt_I h)))
set_option maxHeartbeats 4000000 in
theorem sp_read {d n : Nat} {g : q_G} {M : q_M} {Q : Option q_V → q_G → q_M → Prop} (hn : M 1 1 = n) (hn2 : n ≤ 160) (hq : Q (some (qI (R_z5 (M 2) n (R_z1 M n)).2.2.2.2.2.1)) g (q_zM M (R_z5 (M 2) n (R_z1 M n)) (R_st (M 2) n (R_z1 M n) (M 4)))) : q_S 1 (d + 46) 23 [qR 1 1] g M Q := by
  have pt : ∀ (z : q_Z) (s : Nat → Int) (p : Nat) (key : Int) (nx : Nat) (ops : List Instr) (ls st : List q_V), p < 3 → q_zI n z → q_T 1 (d + 46) qP_X1_read nx ops ls st g (q_zM M (R_pt (M 2) n key z) (F_u s p (R_ex (M 2) n key z).1)) Q → q_S 1 (d + 45) 25 [qR 1 1, qI p, qI key] g (q_zM M z s) (q_K 1 (d + 46) qP_X1_read nx ops ls st Q) := fun z s p key nx ops ls st hp hz h => sp_part hn hn2 hp hz h
  have ex : ∀ (z : q_Z) (s : Nat → Int) (w : Int) (nx : Nat) (ops : List Instr) (ls st : List q_V), q_zI n z → q_T 1 (d + 46) qP_X1_read nx ops ls st g (q_zM M (R_ex (M 2) n w z) s) Q → q_S 1 (d + 45) 26 [qR 1 1, qI w] g (q_zM M z s) (q_K 1 (d + 46) qP_X1_read nx ops ls st Q) := fun z s w nx ops ls st hz h => sp_expect hn hn2 hz h
  have nc : ∀ (nx : Nat) (ops : List Instr) (ls st : List q_V), q_T 1 (d + 46) qP_X1_read nx ops ls st g (q_zM M (R_z1 M n) (M 4)) Q → q_S 1 (d + 45) 35 [qR 1 1] g (q_zM M (0, M 1 5, M 1 6, M 1 7, 0, -1, M 3) (M 4)) (q_K 1 (d + 46) qP_X1_read nx ops ls st Q) := fun nx ops ls st h => sp_next hn hn2 (by show (0 : Int) ≤ 0; omega) (by show (0 : Int) ≤ n; omega) h
  have i1 : q_zI n (R_z1 M n) := R_nx_I0
  have i2 := R_pt_I (T := M 2) (key := -5) i1
  have i3 := R_pt_I (T := M 2) (key := -6) i2
  have i4 := R_pt_I (T := M 2) (key := -7) i3
  have e0 : q_upd (q_upd (q_upd M 1 3 0) 1 9 (-1)) 1 8 0 = q_zM M (0, M 1 5, M 1 6, M 1 7, 0, -1, M 3) (M 4) := by
    conv => lhs; rw [← q_zM_self (M := M)]
    rw [ru_cn, ru_ft, ru_bh]
  rw [s_X1_read]
  simp (disch := omega) only [b_X1_read_0, x_loadR_0, x_loadS_0, x_iconst, p_1_3, p_1_9, p_1_8, f_1_9, x_ret0, q_isL_I, q_isL_R, q_isL_S, true_and, and_true, and_self, List.length_nil, List.length_cons, Nat.zero_add, x_K, x_Kn, Int.reduceToNat, Nat.reduceAdd, Nat.reduceMul, Nat.reduceLeDiff, Nat.reduceLT, Nat.zero_le, Int.reduceAdd, Int.reduceSub, Int.reduceMul, Int.reduceNeg, q_add_e, q_sub_e, q_mul_e, q_neg_e, q_upd_s, q_upd_n, zr_shr0, zr_shr1, zr_shr2, zr_shr3, zr_shr4, zr_and, zr_dyn8, zr_or, zr_shl, q_cpy_n, y_cpy26, e0, c_X1_next]
  refine nc _ _ _ _ ?_
  simp (disch := omega) only [b_X1_read_0, x_loadR_0, x_loadS_0, x_iconst, p_1_3, p_1_9, p_1_8, f_1_9, x_ret0, q_isL_I, q_isL_R, q_isL_S, true_and, and_true, and_self, List.length_nil, List.length_cons, Nat.zero_add, x_K, x_Kn, Int.reduceToNat, Nat.reduceAdd, Nat.reduceMul, Nat.reduceLeDiff, Nat.reduceLT, Nat.zero_le, Int.reduceAdd, Int.reduceSub, Int.reduceMul, Int.reduceNeg, q_add_e, q_sub_e, q_mul_e, q_neg_e, q_upd_s, q_upd_n, zr_shr0, zr_shr1, zr_shr2, zr_shr3, zr_shr4, zr_and, zr_dyn8, zr_or, zr_shl, q_cpy_n, y_cpy26, c_X1_part]
  refine pt _ _ 0 (-5) _ _ _ _ (by omega) i1 ?_
  simp (disch := omega) only [b_X1_read_0, x_loadR_0, x_loadS_0, x_iconst, p_1_3, p_1_9, p_1_8, f_1_9, x_ret0, q_isL_I, q_isL_R, q_isL_S, true_and, and_true, and_self, List.length_nil, List.length_cons, Nat.zero_add, x_K, x_Kn, Int.reduceToNat, Nat.reduceAdd, Nat.reduceMul, Nat.reduceLeDiff, Nat.reduceLT, Nat.zero_le, Int.reduceAdd, Int.reduceSub, Int.reduceMul, Int.reduceNeg, q_add_e, q_sub_e, q_mul_e, q_neg_e, q_upd_s, q_upd_n, zr_shr0, zr_shr1, zr_shr2, zr_shr3, zr_shr4, zr_and, zr_dyn8, zr_or, zr_shl, q_cpy_n, y_cpy26, c_X1_part]
  refine pt _ _ 1 (-6) _ _ _ _ (by omega) i2 ?_
  simp (disch := omega) only [b_X1_read_0, x_loadR_0, x_loadS_0, x_iconst, p_1_3, p_1_9, p_1_8, f_1_9, x_ret0, q_isL_I, q_isL_R, q_isL_S, true_and, and_true, and_self, List.length_nil, List.length_cons, Nat.zero_add, x_K, x_Kn, Int.reduceToNat, Nat.reduceAdd, Nat.reduceMul, Nat.reduceLeDiff, Nat.reduceLT, Nat.zero_le, Int.reduceAdd, Int.reduceSub, Int.reduceMul, Int.reduceNeg, q_add_e, q_sub_e, q_mul_e, q_neg_e, q_upd_s, q_upd_n, zr_shr0, zr_shr1, zr_shr2, zr_shr3, zr_shr4, zr_and, zr_dyn8, zr_or, zr_shl, q_cpy_n, y_cpy26, c_X1_part]
  refine pt _ _ 2 (-7) _ _ _ _ (by omega) i3 ?_
  simp (disch := omega) only [b_X1_read_0, x_loadR_0, x_loadS_0, x_iconst, p_1_3, p_1_9, p_1_8, f_1_9, x_ret0, q_isL_I, q_isL_R, q_isL_S, true_and, and_true, and_self, List.length_nil, List.length_cons, Nat.zero_add, x_K, x_Kn, Int.reduceToNat, Nat.reduceAdd, Nat.reduceMul, Nat.reduceLeDiff, Nat.reduceLT, Nat.zero_le, Int.reduceAdd, Int.reduceSub, Int.reduceMul, Int.reduceNeg, q_add_e, q_sub_e, q_mul_e, q_neg_e, q_upd_s, q_upd_n, zr_shr0, zr_shr1, zr_shr2, zr_shr3, zr_shr4, zr_and, zr_dyn8, zr_or, zr_shl, q_cpy_n, y_cpy26, c_X1_expect]
  refine ex _ _ _ _ _ _ _ i4 ?_
  simp (disch := omega) only [b_X1_read_0, x_loadR_0, x_loadS_0, x_iconst, p_1_3, p_1_9, p_1_8, f_1_9, x_ret0, q_isL_I, q_isL_R, q_isL_S, true_and, and_true, and_self, List.length_nil, List.length_cons, Nat.zero_add, x_K, x_Kn, Int.reduceToNat, Nat.reduceAdd, Nat.reduceMul, Nat.reduceLeDiff, Nat.reduceLT, Nat.zero_le, Int.reduceAdd, Int.reduceSub, Int.reduceMul, Int.reduceNeg, q_add_e, q_sub_e, q_mul_e, q_neg_e, q_upd_s, q_upd_n, zr_shr0, zr_shr1, zr_shr2, zr_shr3, zr_shr4, zr_and, zr_dyn8, zr_or, zr_shl, q_cpy_n, y_cpy26, rz_ft]
  exact hq
