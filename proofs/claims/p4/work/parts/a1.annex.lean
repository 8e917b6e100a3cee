/-! THE CLASS'S ENTRIES: annex -/
theorem q_cM_up {M : q_M} {c a i : Nat} {v : Int} {x : (Nat → Int) × (Nat → Int)} (h : a ≠ c + 2) (h2 : a ≠ c + 17) : q_upd (q_cM M c x) a i v = q_cM (q_upd M a i v) c x := by
  funext b j
  by_cases e : b = a ∧ j = i
  · obtain ⟨rfl, rfl⟩ := e
    rw [q_upd_s, q_cM_n h h2, q_upd_s]
  · rw [q_upd_n (by omega)]
    unfold q_cM
    by_cases k1 : b = c + 2
    · rw [if_pos k1, if_pos k1]
    · rw [if_neg k1, if_neg k1]
      by_cases k2 : b = c + 17
      · rw [if_pos k2, if_pos k2]
      · rw [if_neg k2, if_neg k2, q_upd_n (by omega)]
theorem q_upd_bk {M : q_M} {a i : Nat} {u v : Int} (h : M a i = v) : q_upd (q_upd M a i u) a i v = M := by
  funext b j
  by_cases e : b = a ∧ j = i
  · obtain ⟨rfl, rfl⟩ := e
    rw [q_upd_s, h]
  · rw [q_upd_n (by omega), q_upd_n (by omega)]
/-- one asking in turn more, with room for one more in building b -/
def F_anX (L W : Nat → Nat → Int) (R : Nat → Int) (n b : Nat) (x : (Nat → Int) × (Nat → Int)) : (Nat → Int) × (Nat → Int) := F_turn L W (F_u R b (R b + 1)) n 1000 (F_fr x)
def F_an (L W : Nat → Nat → Int) (R : Nat → Int) (n : Nat) (x : (Nat → Int) × (Nat → Int)) : Nat → (Int × Int) × ((Nat → Int) × (Nat → Int))
  | 0 => ((-1, 0), x)
  | b + 1 => (if (F_an L W R n x b).1.1 = -1 ∨ (F_an L W R n x b).1.2 < F_sum L (F_anX L W R n b (F_an L W R n x b).2).1 n then ((b : Int), F_sum L (F_anX L W R n b (F_an L W R n x b).2).1 n) else (F_an L W R n x b).1, F_anX L W R n b (F_an L W R n x b).2)
theorem F_an_b {L W : Nat → Nat → Int} {R : Nat → Int} {n : Nat} {x : (Nat → Int) × (Nat → Int)} (h : q_f5 x.1) : ∀ b : Nat, q_f5 (F_an L W R n x b).2.1
  | 0 => h
  | b + 1 => by
    rw [F_an]
    exact F_turn_b 1000 _ (F_fr_b (F_an_b h b))
/-- what lies behind the fifth place stays -/
def q_hi (x y : (Nat → Int) × (Nat → Int)) : Prop := ∀ i, 5 ≤ i → y.1 i = x.1 i ∧ y.2 i = x.2 i
theorem q_hi_tr {x y z : (Nat → Int) × (Nat → Int)} (h : q_hi x y) (h2 : q_hi y z) : q_hi x z := fun i hi => ⟨(h2 i hi).1.trans (h i hi).1, (h2 i hi).2.trans (h i hi).2⟩
theorem q_hi_u1 {x y : (Nat → Int) × (Nat → Int)} {p : Nat} {v : Int} (hp : p < 5) (h : q_hi x y) : q_hi x (F_u y.1 p v, y.2) := fun i hi => ⟨(if_neg (by omega)).trans (h i hi).1, (h i hi).2⟩
theorem q_hi_u2 {x y : (Nat → Int) × (Nat → Int)} {p : Nat} {v : Int} (hp : p < 5) (h : q_hi x y) : q_hi x (y.1, F_u y.2 p v) := fun i hi => ⟨(h i hi).1, (if_neg (by omega)).trans (h i hi).2⟩
theorem F_ask_hi {W : Nat → Nat → Int} {R : Nat → Int} {n p b : Nat} {x : (Nat → Int) × (Nat → Int)} (hp : p < 5) (hn : n ≤ 5) : q_hi x (F_ask W R n p b x) := by
  have h0 : q_hi x x := fun _ _ => ⟨rfl, rfl⟩
  have ho : F_askO W R n b x.1 = 5 ∨ F_askO W R n b x.1 < 5 := by
    unfold F_askO F_cast
    split
    · exact Or.inl rfl
    · rcases F_last_1 x.1 (fun q => W q b) b n with h | h
      · exact Or.inr (by omega)
      · exact Or.inl h
  unfold F_ask
  split
  · split
    · exact q_hi_u1 hp h0
    · next c =>
      exact q_hi_u2 (y := (F_u (F_u x.1 (F_askO W R n b x.1) 5) p b, x.2)) (by omega) (q_hi_u1 (y := (F_u x.1 (F_askO W R n b x.1) 5, x.2)) hp (q_hi_u1 (by omega) h0))
  · exact q_hi_u2 hp h0
theorem F_rd_hi {L W : Nat → Nat → Int} {R : Nat → Int} {n : Nat} {x : (Nat → Int) × (Nat → Int)} (hn : n ≤ 5) : ∀ p : Nat, p ≤ 5 → q_hi x (F_rd L W R n x p).2
  | 0, _ => fun _ _ => ⟨rfl, rfl⟩
  | p + 1, hp => by
    have h1 := F_rd_hi (L := L) (W := W) (R := R) (x := x) hn p (by omega)
    rw [F_rd]
    split
    · exact q_hi_tr h1 (F_ask_hi (by omega) hn)
    · exact h1
theorem F_turn_hi {L W : Nat → Nat → Int} {R : Nat → Int} {n : Nat} (hn : n ≤ 5) : ∀ (k : Nat) (x : (Nat → Int) × (Nat → Int)), q_hi x (F_turn L W R n k x)
  | 0, _ => fun _ _ => ⟨rfl, rfl⟩
  | k + 1, x => by
    rw [F_turn]
    split
    · exact q_hi_tr (F_rd_hi hn n hn) (F_turn_hi hn k _)
    · exact F_rd_hi hn n hn
theorem F_fr_hi {x : (Nat → Int) × (Nat → Int)} : q_hi x (F_fr x) := by
  intro i hi
  unfold F_fr F_u
  simp only
  rw [if_neg (by omega), if_neg (by omega), if_neg (by omega), if_neg (by omega), if_neg (by omega), if_neg (by omega), if_neg (by omega), if_neg (by omega), if_neg (by omega), if_neg (by omega)]
  exact ⟨rfl, rfl⟩
theorem F_an_hi {L W : Nat → Nat → Int} {R : Nat → Int} {n : Nat} {x : (Nat → Int) × (Nat → Int)} (hn : n ≤ 5) : ∀ b : Nat, q_hi x (F_an L W R n x b).2
  | 0 => fun _ _ => ⟨rfl, rfl⟩
  | b + 1 => by
    rw [F_an]
    exact q_hi_tr (q_hi_tr (F_an_hi hn b) F_fr_hi) (F_turn_hi hn 1000 _)
theorem q_tq_cM {M M2 : q_M} {x : (Nat → Int) × (Nat → Int)} (h : q_tq M M2) (hx : q_hi (M2 41, M2 56) x) : q_tq M (q_cM M2 39 x) := by
  intro a i h1 h2 h3 h4
  unfold q_cM
  by_cases c : a = 39 + 2
  · rw [if_pos c, (hx i (by omega)).1, c]
    exact h 41 i (by omega) (by omega) (by omega) (by omega)
  · rw [if_neg c]
    by_cases c2 : a = 39 + 17
    · rw [if_pos c2, (hx i (by omega)).2, c2]
      exact h 56 i (by omega) (by omega) (by omega) (by omega)
    · rw [if_neg c2]
      exact h a i h1 h2 h3 h4
def A_annex (L W : Nat → Nat → Int) (R : Nat → Int) (n : Nat) (x : (Nat → Int) × (Nat → Int)) (wt : Int) : Int := if wt = 0 then (F_an L W R n x 5).1.1 else (F_an L W R n x 5).1.2
theorem sp_annexF {d : Nat} {g : q_G} {M : q_M} {wt : Int} {Q : Option q_V → q_G → q_M → Prop} (h : wt < 0 ∨ 1 < wt) (hq : Q (some (qI (-100000))) g M) : q_S 1 d 80 [qR 5 0, qI wt] g M Q := by
  rw [s_X5_annex]
  rcases h with h | h
  · simp (disch := omega) only [b_X5_annex_0, x_loadI_1, y_if_lt_t, y_if_lt_f, b_X5_annex_4, x_iconst, y_ic_le_t, y_ic_le_f, b_X5_annex_9, x_ret0, b_X5_annex_12, x_loadR_0, x_loadS_0, f_5_4, f_5_3, x_storeI_2, x_storeI_3, x_storeI_4, x_loadI_4, y_ic_ge_t, y_ic_ge_f, b_X5_annex_43, f_4_0, f_0_0, x_dup2, y_iald_26, x_iadd, y_iast_26, x_isub, x_storeI_5, x_loadI_2, y_ic_eq_t, y_ic_eq_f, b_X5_annex_104, x_loadI_5, x_loadI_3, b_X5_annex_110, b_X5_annex_116, x_iinc_4, x_goto, b_X5_annex_122, y_if_ne_t, y_if_ne_f, b_X5_annex_126, b_X5_annex_130, b_X5_annex_131, q_isL_I, q_isL_R, q_isL_S, true_and, and_true, and_self, List.length_nil, List.length_cons, Nat.zero_add, x_K, x_Kn, Int.reduceToNat, Nat.reduceAdd, Nat.reduceMul, Nat.reduceLeDiff, Nat.reduceLT, Nat.zero_le, Int.reduceAdd, Int.reduceSub, Int.reduceMul, Int.reduceNeg, q_add_e, q_sub_e, q_mul_e, q_neg_e, q_upd_s, q_upd_n, zr_shr0, zr_shr1, zr_shr2, zr_shr3, zr_shr4, zr_and, zr_dyn8, zr_or, zr_shl, q_cpy_n, y_cpy26]
    exact hq
  · simp (disch := omega) only [b_X5_annex_0, x_loadI_1, y_if_lt_t, y_if_lt_f, b_X5_annex_4, x_iconst, y_ic_le_t, y_ic_le_f, b_X5_annex_9, x_ret0, b_X5_annex_12, x_loadR_0, x_loadS_0, f_5_4, f_5_3, x_storeI_2, x_storeI_3, x_storeI_4, x_loadI_4, y_ic_ge_t, y_ic_ge_f, b_X5_annex_43, f_4_0, f_0_0, x_dup2, y_iald_26, x_iadd, y_iast_26, x_isub, x_storeI_5, x_loadI_2, y_ic_eq_t, y_ic_eq_f, b_X5_annex_104, x_loadI_5, x_loadI_3, b_X5_annex_110, b_X5_annex_116, x_iinc_4, x_goto, b_X5_annex_122, y_if_ne_t, y_if_ne_f, b_X5_annex_126, b_X5_annex_130, b_X5_annex_131, q_isL_I, q_isL_R, q_isL_S, true_and, and_true, and_self, List.length_nil, List.length_cons, Nat.zero_add, x_K, x_Kn, Int.reduceToNat, Nat.reduceAdd, Nat.reduceMul, Nat.reduceLeDiff, Nat.reduceLT, Nat.zero_le, Int.reduceAdd, Int.reduceSub, Int.reduceMul, Int.reduceNeg, q_add_e, q_sub_e, q_mul_e, q_neg_e, q_upd_s, q_upd_n, zr_shr0, zr_shr1, zr_shr2, zr_shr3, zr_shr4, zr_and, zr_dyn8, zr_or, zr_shl, q_cpy_n, y_cpy26]
    exact hq
set_option maxHeartbeats 8000000 in
theorem sp_annex {V : Nat → (Nat → Int) → Int} {d : Nat} {g : q_G} {M : q_M} {ta : Nat} {wt : Int} {Q : Option q_V → q_G → q_M → Prop} (C : q_ci V M ta) (hwt : 0 ≤ wt ∧ wt ≤ 1) (hq : ∀ M2 M3 : q_M, q_td V M M2 ta → q_tq M M3 → Q (some (qI (A_annex (q_Lk M2 39) (q_Wn M2 39) (M2 40) (M2 39 5).toNat (M2 41, M2 56) wt))) g M3) : q_S 1 (d + 6) 80 [qR 5 0, qI wt] g M Q := by
  have h12 := q_ci_n C
  rw [s_X5_annex]
  simp (disch := omega) only [b_X5_annex_0, x_loadI_1, y_if_lt_t, y_if_lt_f, b_X5_annex_4, x_iconst, y_ic_le_t, y_ic_le_f, b_X5_annex_9, x_ret0, b_X5_annex_12, x_loadR_0, x_loadS_0, f_5_4, f_5_3, x_storeI_2, x_storeI_3, x_storeI_4, x_loadI_4, y_ic_ge_t, y_ic_ge_f, b_X5_annex_43, f_4_0, f_0_0, x_dup2, y_iald_26, x_iadd, y_iast_26, x_isub, x_storeI_5, x_loadI_2, y_ic_eq_t, y_ic_eq_f, b_X5_annex_104, x_loadI_5, x_loadI_3, b_X5_annex_110, b_X5_annex_116, x_iinc_4, x_goto, b_X5_annex_122, y_if_ne_t, y_if_ne_f, b_X5_annex_126, b_X5_annex_130, b_X5_annex_131, q_isL_I, q_isL_R, q_isL_S, true_and, and_true, and_self, List.length_nil, List.length_cons, Nat.zero_add, x_K, x_Kn, Int.reduceToNat, Nat.reduceAdd, Nat.reduceMul, Nat.reduceLeDiff, Nat.reduceLT, Nat.zero_le, Int.reduceAdd, Int.reduceSub, Int.reduceMul, Int.reduceNeg, q_add_e, q_sub_e, q_mul_e, q_neg_e, q_upd_s, q_upd_n, zr_shr0, zr_shr1, zr_shr2, zr_shr3, zr_shr4, zr_and, zr_dyn8, zr_or, zr_shl, q_cpy_n, y_cpy26, c_X4_copyFrom]
  refine sp_think C q_tq_rf (fun M1 h1 => ?_)
  simp (disch := omega) only [b_X5_annex_0, x_loadI_1, y_if_lt_t, y_if_lt_f, b_X5_annex_4, x_iconst, y_ic_le_t, y_ic_le_f, b_X5_annex_9, x_ret0, b_X5_annex_12, x_loadR_0, x_loadS_0, f_5_4, f_5_3, x_storeI_2, x_storeI_3, x_storeI_4, x_loadI_4, y_ic_ge_t, y_ic_ge_f, b_X5_annex_43, f_4_0, f_0_0, x_dup2, y_iald_26, x_iadd, y_iast_26, x_isub, x_storeI_5, x_loadI_2, y_ic_eq_t, y_ic_eq_f, b_X5_annex_104, x_loadI_5, x_loadI_3, b_X5_annex_110, b_X5_annex_116, x_iinc_4, x_goto, b_X5_annex_122, y_if_ne_t, y_if_ne_f, b_X5_annex_126, b_X5_annex_130, b_X5_annex_131, q_isL_I, q_isL_R, q_isL_S, true_and, and_true, and_self, List.length_nil, List.length_cons, Nat.zero_add, x_K, x_Kn, Int.reduceToNat, Nat.reduceAdd, Nat.reduceMul, Nat.reduceLeDiff, Nat.reduceLT, Nat.zero_le, Int.reduceAdd, Int.reduceSub, Int.reduceMul, Int.reduceNeg, q_add_e, q_sub_e, q_mul_e, q_neg_e, q_upd_s, q_upd_n, zr_shr0, zr_shr1, zr_shr2, zr_shr3, zr_shr4, zr_and, zr_dyn8, zr_or, zr_shl, q_cpy_n, y_cpy26, c_X4_tellAll]
  refine sp_tellT C h1 (fun M2 h2 => ?_)
  have hq2 := fun M3 => hq M2 M3 h2
  obtain ⟨w2, c2, z2, n2, f2, td2, bL, bW⟩ := h2
  have n0 : 0 ≤ M2 39 5 := w2.1.1.1
  have n5 : M2 39 5 ≤ 5 := w2.1.1.2
  have hin : q_f5 (M2 41) := w2.1.2.2.2.2.2.2.1
  have hrm : ∀ b, 0 ≤ M2 40 b ∧ M2 40 b ≤ 6 := w2.1.2.2.2.2.2.2.2.2.1
  have hfb := F_an_b (L := q_Lk M2 39) (W := q_Wn M2 39) (R := M2 40) (n := (M2 39 5).toNat) (x := (M2 41, M2 56)) hin
  have hfh := F_an_hi (L := q_Lk M2 39) (W := q_Wn M2 39) (R := M2 40) (n := (M2 39 5).toNat) (x := (M2 41, M2 56)) (by omega)
  simp (disch := omega) only [b_X5_annex_0, x_loadI_1, y_if_lt_t, y_if_lt_f, b_X5_annex_4, x_iconst, y_ic_le_t, y_ic_le_f, b_X5_annex_9, x_ret0, b_X5_annex_12, x_loadR_0, x_loadS_0, f_5_4, f_5_3, x_storeI_2, x_storeI_3, x_storeI_4, x_loadI_4, y_ic_ge_t, y_ic_ge_f, b_X5_annex_43, f_4_0, f_0_0, x_dup2, y_iald_26, x_iadd, y_iast_26, x_isub, x_storeI_5, x_loadI_2, y_ic_eq_t, y_ic_eq_f, b_X5_annex_104, x_loadI_5, x_loadI_3, b_X5_annex_110, b_X5_annex_116, x_iinc_4, x_goto, b_X5_annex_122, y_if_ne_t, y_if_ne_f, b_X5_annex_126, b_X5_annex_130, b_X5_annex_131, q_isL_I, q_isL_R, q_isL_S, true_and, and_true, and_self, List.length_nil, List.length_cons, Nat.zero_add, x_K, x_Kn, Int.reduceToNat, Nat.reduceAdd, Nat.reduceMul, Nat.reduceLeDiff, Nat.reduceLT, Nat.zero_le, Int.reduceAdd, Int.reduceSub, Int.reduceMul, Int.reduceNeg, q_add_e, q_sub_e, q_mul_e, q_neg_e, q_upd_s, q_upd_n, zr_shr0, zr_shr1, zr_shr2, zr_shr3, zr_shr4, zr_and, zr_dyn8, zr_or, zr_shl, q_cpy_n, y_cpy26]
  have loop : ∀ j b : Nat, b + j = 5 → ∀ l5 : q_V, q_isL l5 = false → q_T 1 (d + 6) qP_X5_annex 37 [] [qR 5 0, qI wt, qI (F_an (q_Lk M2 39) (q_Wn M2 39) (M2 40) (M2 39 5).toNat (M2 41, M2 56) b).1.1, qI (F_an (q_Lk M2 39) (q_Wn M2 39) (M2 40) (M2 39 5).toNat (M2 41, M2 56) b).1.2, qI b, l5] [] g (q_cM M2 39 (F_an (q_Lk M2 39) (q_Wn M2 39) (M2 40) (M2 39 5).toNat (M2 41, M2 56) b).2) Q := by
    intro j
    induction j with
    | zero =>
      intro b hb l5 hl5
      have e : b = 5 := by omega
      subst e
      have q3 := hq2 (q_cM M2 39 (F_an (q_Lk M2 39) (q_Wn M2 39) (M2 40) (M2 39 5).toNat (M2 41, M2 56) 5).2) (q_tq_cM f2 (hfh 5))
      unfold A_annex at q3
      rw [b_X5_annex_37]
      rcases (show wt = 0 ∨ wt = 1 by omega) with k | k
      · rw [if_pos k] at q3
        simp (disch := omega) only [b_X5_annex_0, x_loadI_1, y_if_lt_t, y_if_lt_f, b_X5_annex_4, x_iconst, y_ic_le_t, y_ic_le_f, b_X5_annex_9, x_ret0, b_X5_annex_12, x_loadR_0, x_loadS_0, f_5_4, f_5_3, x_storeI_2, x_storeI_3, x_storeI_4, x_loadI_4, y_ic_ge_t, y_ic_ge_f, b_X5_annex_43, f_4_0, f_0_0, x_dup2, y_iald_26, x_iadd, y_iast_26, x_isub, x_storeI_5, x_loadI_2, y_ic_eq_t, y_ic_eq_f, b_X5_annex_104, x_loadI_5, x_loadI_3, b_X5_annex_110, b_X5_annex_116, x_iinc_4, x_goto, b_X5_annex_122, y_if_ne_t, y_if_ne_f, b_X5_annex_126, b_X5_annex_130, b_X5_annex_131, q_isL_I, q_isL_R, q_isL_S, true_and, and_true, and_self, List.length_nil, List.length_cons, Nat.zero_add, x_K, x_Kn, Int.reduceToNat, Nat.reduceAdd, Nat.reduceMul, Nat.reduceLeDiff, Nat.reduceLT, Nat.zero_le, Int.reduceAdd, Int.reduceSub, Int.reduceMul, Int.reduceNeg, q_add_e, q_sub_e, q_mul_e, q_neg_e, q_upd_s, q_upd_n, zr_shr0, zr_shr1, zr_shr2, zr_shr3, zr_shr4, zr_and, zr_dyn8, zr_or, zr_shl, q_cpy_n, y_cpy26]
        exact q3
      · rw [if_neg (by omega)] at q3
        simp (disch := omega) only [b_X5_annex_0, x_loadI_1, y_if_lt_t, y_if_lt_f, b_X5_annex_4, x_iconst, y_ic_le_t, y_ic_le_f, b_X5_annex_9, x_ret0, b_X5_annex_12, x_loadR_0, x_loadS_0, f_5_4, f_5_3, x_storeI_2, x_storeI_3, x_storeI_4, x_loadI_4, y_ic_ge_t, y_ic_ge_f, b_X5_annex_43, f_4_0, f_0_0, x_dup2, y_iald_26, x_iadd, y_iast_26, x_isub, x_storeI_5, x_loadI_2, y_ic_eq_t, y_ic_eq_f, b_X5_annex_104, x_loadI_5, x_loadI_3, b_X5_annex_110, b_X5_annex_116, x_iinc_4, x_goto, b_X5_annex_122, y_if_ne_t, y_if_ne_f, b_X5_annex_126, b_X5_annex_130, b_X5_annex_131, q_isL_I, q_isL_R, q_isL_S, true_and, and_true, and_self, List.length_nil, List.length_cons, Nat.zero_add, x_K, x_Kn, Int.reduceToNat, Nat.reduceAdd, Nat.reduceMul, Nat.reduceLeDiff, Nat.reduceLT, Nat.zero_le, Int.reduceAdd, Int.reduceSub, Int.reduceMul, Int.reduceNeg, q_add_e, q_sub_e, q_mul_e, q_neg_e, q_upd_s, q_upd_n, zr_shr0, zr_shr1, zr_shr2, zr_shr3, zr_shr4, zr_and, zr_dyn8, zr_or, zr_shl, q_cpy_n, y_cpy26]
        exact q3
    | succ j ih =>
      intro b hb l5 hl5
      have ih2 := ih (b + 1) (by omega)
      have hfb1 := hfb (b + 1)
      rw [F_an] at ih2 hfb1
      generalize F_an (q_Lk M2 39) (q_Wn M2 39) (M2 40) (M2 39 5).toNat (M2 41, M2 56) b = Y at ih2 hfb1 ⊢
      have hR := hrm b
      have r1 : q_cM M2 39 Y.2 40 b = M2 40 b := q_cM_n (by omega) (by omega)
      have u1 : ∀ v, q_upd (q_cM M2 39 Y.2) 40 b v = q_cM (q_upd M2 40 b v) 39 Y.2 := fun v => q_cM_up (by omega) (by omega)
      have eR : q_upd M2 40 b (M2 40 b + 1) 40 = F_u (M2 40) b (M2 40 b + 1) := by
        funext i
        unfold F_u
        by_cases k : i = b
        · rw [if_pos k, k, q_upd_s]
        · rw [if_neg k, q_upd_n (by omega)]
      have eL : q_Lk (q_upd M2 40 b (M2 40 b + 1)) 39 = q_Lk M2 39 := by
        funext p i
        exact q_upd_n (by omega)
      have eW : q_Wn (q_upd M2 40 b (M2 40 b + 1)) 39 = q_Wn M2 39 := by
        funext p i
        exact q_upd_n (by omega)
      have e5 : q_upd M2 40 b (M2 40 b + 1) 39 5 = M2 39 5 := q_upd_n (by omega)
      have turn : ∀ (nx : Nat) (ops : List Instr) (ls st : List q_V), q_T 1 (d + 6) qP_X5_annex nx ops ls st g (q_cM (q_upd M2 40 b (M2 40 b + 1)) 39 (F_anX (q_Lk M2 39) (q_Wn M2 39) (M2 40) (M2 39 5).toNat b Y.2)) Q → q_S 1 (d + 5) 15 [qR 0 39] g (q_cM (q_upd M2 40 b (M2 40 b + 1)) 39 Y.2) (q_K 1 (d + 6) qP_X5_annex nx ops ls st Q) := fun nx ops ls st h => sp_askInTurn (by rw [e5]; exact n0) (by rw [e5]; exact n5) (fun p hp => (q_upd_n (by omega)).trans (z2.1 p hp)) (by rw [eL, eW, eR, e5]; exact h)
      rw [b_X5_annex_37]
      simp (disch := omega) only [b_X5_annex_0, x_loadI_1, y_if_lt_t, y_if_lt_f, b_X5_annex_4, x_iconst, y_ic_le_t, y_ic_le_f, b_X5_annex_9, x_ret0, b_X5_annex_12, x_loadR_0, x_loadS_0, f_5_4, f_5_3, x_storeI_2, x_storeI_3, x_storeI_4, x_loadI_4, y_ic_ge_t, y_ic_ge_f, b_X5_annex_43, f_4_0, f_0_0, x_dup2, y_iald_26, x_iadd, y_iast_26, x_isub, x_storeI_5, x_loadI_2, y_ic_eq_t, y_ic_eq_f, b_X5_annex_104, x_loadI_5, x_loadI_3, b_X5_annex_110, b_X5_annex_116, x_iinc_4, x_goto, b_X5_annex_122, y_if_ne_t, y_if_ne_f, b_X5_annex_126, b_X5_annex_130, b_X5_annex_131, q_isL_I, q_isL_R, q_isL_S, true_and, and_true, and_self, List.length_nil, List.length_cons, Nat.zero_add, x_K, x_Kn, Int.reduceToNat, Nat.reduceAdd, Nat.reduceMul, Nat.reduceLeDiff, Nat.reduceLT, Nat.zero_le, Int.reduceAdd, Int.reduceSub, Int.reduceMul, Int.reduceNeg, q_add_e, q_sub_e, q_mul_e, q_neg_e, q_upd_s, q_upd_n, zr_shr0, zr_shr1, zr_shr2, zr_shr3, zr_shr4, zr_and, zr_dyn8, zr_or, zr_shl, q_cpy_n, y_cpy26, Int.toNat_natCast, r1, u1, c_X0_askInTurn]
      refine turn _ _ _ _ ?_
      unfold F_anX at hfb1
      unfold F_anX at ih2
      unfold F_anX
      generalize F_turn (q_Lk M2 39) (q_Wn M2 39) (F_u (M2 40) b (M2 40 b + 1)) (M2 39 5).toNat 1000 (F_fr Y.2) = X at hfb1 ih2 ⊢
      have r2 : q_cM (q_upd M2 40 b (M2 40 b + 1)) 39 X 40 b = M2 40 b + 1 := (q_cM_n (by omega) (by omega)).trans q_upd_s
      have r3 : M2 40 b + 1 - 1 = M2 40 b := by omega
      have u2 : q_upd (q_cM (q_upd M2 40 b (M2 40 b + 1)) 39 X) 40 b (M2 40 b) = q_cM M2 39 X := by rw [q_cM_up (by omega) (by omega), q_upd_bk rfl]
      have m5 : q_cM M2 39 X 39 5 = M2 39 5 := q_cM_n (by omega) (by omega)
      have min5 : ∀ i, 0 ≤ q_cM M2 39 X (39 + 2) i ∧ q_cM M2 39 X (39 + 2) i ≤ 5 := fun i => by rw [q_cM_f]; exact hfb1 i
      have mL : ∀ p b, p < (q_cM M2 39 X 39 5).toNat → b < 6 → -1000 ≤ q_cM M2 39 X (39 + 3 + (1 + p)) b ∧ q_cM M2 39 X (39 + 3 + (1 + p)) b ≤ 1000 := fun p b q1 q2 => by
        rw [m5] at q1
        rw [q_cM_n (by omega) (by omega)]
        exact bL p b q1 q2
      have mL2 : F_sum (fun p => q_cM M2 39 X (39 + 3 + (1 + p))) (q_cM M2 39 X (39 + 2)) (q_cM M2 39 X 39 5).toNat = F_sum (q_Lk M2 39) X.1 (M2 39 5).toNat := by
        rw [m5, show q_cM M2 39 X (39 + 2) = X.1 from funext (fun i => q_cM_f)]
        have go : ∀ n : Nat, n ≤ 5 → F_sum (fun p => q_cM M2 39 X (39 + 3 + (1 + p))) X.1 n = F_sum (q_Lk M2 39) X.1 n := by
          intro n
          induction n with
          | zero => intro _; rfl
          | succ n ihn =>
            intro hn
            rw [F_sum, F_sum, ihn (by omega), q_cM_n (by omega) (by omega)]
            rfl
        exact go _ (by omega)
      have liked : ∀ (nx : Nat) (ops : List Instr) (ls st : List q_V), q_T 1 (d + 6) qP_X5_annex nx ops ls (qI (F_sum (q_Lk M2 39) X.1 (M2 39 5).toNat) :: st) g (q_cM M2 39 X) Q → q_S 1 (d + 5) 7 [qR 0 39] g (q_cM M2 39 X) (q_K 1 (d + 6) qP_X5_annex nx ops ls st Q) := fun nx ops ls st h => by
        rw [sp_liked2 (by rw [m5]; exact n0) (by rw [m5]; exact n5) min5 mL, mL2]
        exact h
      simp (disch := omega) only [b_X5_annex_0, x_loadI_1, y_if_lt_t, y_if_lt_f, b_X5_annex_4, x_iconst, y_ic_le_t, y_ic_le_f, b_X5_annex_9, x_ret0, b_X5_annex_12, x_loadR_0, x_loadS_0, f_5_4, f_5_3, x_storeI_2, x_storeI_3, x_storeI_4, x_loadI_4, y_ic_ge_t, y_ic_ge_f, b_X5_annex_43, f_4_0, f_0_0, x_dup2, y_iald_26, x_iadd, y_iast_26, x_isub, x_storeI_5, x_loadI_2, y_ic_eq_t, y_ic_eq_f, b_X5_annex_104, x_loadI_5, x_loadI_3, b_X5_annex_110, b_X5_annex_116, x_iinc_4, x_goto, b_X5_annex_122, y_if_ne_t, y_if_ne_f, b_X5_annex_126, b_X5_annex_130, b_X5_annex_131, q_isL_I, q_isL_R, q_isL_S, true_and, and_true, and_self, List.length_nil, List.length_cons, Nat.zero_add, x_K, x_Kn, Int.reduceToNat, Nat.reduceAdd, Nat.reduceMul, Nat.reduceLeDiff, Nat.reduceLT, Nat.zero_le, Int.reduceAdd, Int.reduceSub, Int.reduceMul, Int.reduceNeg, q_add_e, q_sub_e, q_mul_e, q_neg_e, q_upd_s, q_upd_n, zr_shr0, zr_shr1, zr_shr2, zr_shr3, zr_shr4, zr_and, zr_dyn8, zr_or, zr_shl, q_cpy_n, y_cpy26, Int.toNat_natCast, r2, r3, u2, c_X0_liked]
      refine liked _ _ _ _ ?_
      by_cases k : Y.1.1 = -1 ∨ Y.1.2 < F_sum (q_Lk M2 39) X.1 (M2 39 5).toNat
      · rw [if_pos k] at ih2
        rcases (show Y.1.1 = -1 ∨ (Y.1.1 ≠ -1 ∧ Y.1.2 < F_sum (q_Lk M2 39) X.1 (M2 39 5).toNat) by omega) with k2 | k2
        · simp (disch := omega) only [b_X5_annex_0, x_loadI_1, y_if_lt_t, y_if_lt_f, b_X5_annex_4, x_iconst, y_ic_le_t, y_ic_le_f, b_X5_annex_9, x_ret0, b_X5_annex_12, x_loadR_0, x_loadS_0, f_5_4, f_5_3, x_storeI_2, x_storeI_3, x_storeI_4, x_loadI_4, y_ic_ge_t, y_ic_ge_f, b_X5_annex_43, f_4_0, f_0_0, x_dup2, y_iald_26, x_iadd, y_iast_26, x_isub, x_storeI_5, x_loadI_2, y_ic_eq_t, y_ic_eq_f, b_X5_annex_104, x_loadI_5, x_loadI_3, b_X5_annex_110, b_X5_annex_116, x_iinc_4, x_goto, b_X5_annex_122, y_if_ne_t, y_if_ne_f, b_X5_annex_126, b_X5_annex_130, b_X5_annex_131, q_isL_I, q_isL_R, q_isL_S, true_and, and_true, and_self, List.length_nil, List.length_cons, Nat.zero_add, x_K, x_Kn, Int.reduceToNat, Nat.reduceAdd, Nat.reduceMul, Nat.reduceLeDiff, Nat.reduceLT, Nat.zero_le, Int.reduceAdd, Int.reduceSub, Int.reduceMul, Int.reduceNeg, q_add_e, q_sub_e, q_mul_e, q_neg_e, q_upd_s, q_upd_n, zr_shr0, zr_shr1, zr_shr2, zr_shr3, zr_shr4, zr_and, zr_dyn8, zr_or, zr_shl, q_cpy_n, y_cpy26, hl5]
          exact ih2 _ rfl
        · simp (disch := omega) only [b_X5_annex_0, x_loadI_1, y_if_lt_t, y_if_lt_f, b_X5_annex_4, x_iconst, y_ic_le_t, y_ic_le_f, b_X5_annex_9, x_ret0, b_X5_annex_12, x_loadR_0, x_loadS_0, f_5_4, f_5_3, x_storeI_2, x_storeI_3, x_storeI_4, x_loadI_4, y_ic_ge_t, y_ic_ge_f, b_X5_annex_43, f_4_0, f_0_0, x_dup2, y_iald_26, x_iadd, y_iast_26, x_isub, x_storeI_5, x_loadI_2, y_ic_eq_t, y_ic_eq_f, b_X5_annex_104, x_loadI_5, x_loadI_3, b_X5_annex_110, b_X5_annex_116, x_iinc_4, x_goto, b_X5_annex_122, y_if_ne_t, y_if_ne_f, b_X5_annex_126, b_X5_annex_130, b_X5_annex_131, q_isL_I, q_isL_R, q_isL_S, true_and, and_true, and_self, List.length_nil, List.length_cons, Nat.zero_add, x_K, x_Kn, Int.reduceToNat, Nat.reduceAdd, Nat.reduceMul, Nat.reduceLeDiff, Nat.reduceLT, Nat.zero_le, Int.reduceAdd, Int.reduceSub, Int.reduceMul, Int.reduceNeg, q_add_e, q_sub_e, q_mul_e, q_neg_e, q_upd_s, q_upd_n, zr_shr0, zr_shr1, zr_shr2, zr_shr3, zr_shr4, zr_and, zr_dyn8, zr_or, zr_shl, q_cpy_n, y_cpy26, hl5]
          exact ih2 _ rfl
      · rw [if_neg k] at ih2
        simp (disch := omega) only [b_X5_annex_0, x_loadI_1, y_if_lt_t, y_if_lt_f, b_X5_annex_4, x_iconst, y_ic_le_t, y_ic_le_f, b_X5_annex_9, x_ret0, b_X5_annex_12, x_loadR_0, x_loadS_0, f_5_4, f_5_3, x_storeI_2, x_storeI_3, x_storeI_4, x_loadI_4, y_ic_ge_t, y_ic_ge_f, b_X5_annex_43, f_4_0, f_0_0, x_dup2, y_iald_26, x_iadd, y_iast_26, x_isub, x_storeI_5, x_loadI_2, y_ic_eq_t, y_ic_eq_f, b_X5_annex_104, x_loadI_5, x_loadI_3, b_X5_annex_110, b_X5_annex_116, x_iinc_4, x_goto, b_X5_annex_122, y_if_ne_t, y_if_ne_f, b_X5_annex_126, b_X5_annex_130, b_X5_annex_131, q_isL_I, q_isL_R, q_isL_S, true_and, and_true, and_self, List.length_nil, List.length_cons, Nat.zero_add, x_K, x_Kn, Int.reduceToNat, Nat.reduceAdd, Nat.reduceMul, Nat.reduceLeDiff, Nat.reduceLT, Nat.zero_le, Int.reduceAdd, Int.reduceSub, Int.reduceMul, Int.reduceNeg, q_add_e, q_sub_e, q_mul_e, q_neg_e, q_upd_s, q_upd_n, zr_shr0, zr_shr1, zr_shr2, zr_shr3, zr_shr4, zr_and, zr_dyn8, zr_or, zr_shl, q_cpy_n, y_cpy26, hl5]
        exact ih2 _ rfl
  have l := loop 5 0 rfl (qS 0) rfl
  rw [show (F_an (q_Lk M2 39) (q_Wn M2 39) (M2 40) (M2 39 5).toNat (M2 41, M2 56) 0).2 = (M2 (39 + 2), M2 (39 + 17)) from rfl, q_cM_self] at l
  exact l
