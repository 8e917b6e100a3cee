/-! THE CLASS'S CHOICE: asking in turn -/
def F_u (f : Nat → Int) (p : Nat) (v : Int) : Nat → Int := fun i => if i = p then v else f i
/-- the memory with who is in what and who has sent whom away set -/
def q_cM (M : q_M) (c : Nat) (x : (Nat → Int) × (Nat → Int)) : q_M := fun a i => if a = c + 2 then x.1 i else if a = c + 17 then x.2 i else M a i
theorem q_cM_n {M : q_M} {c a i : Nat} {x : (Nat → Int) × (Nat → Int)} (h : a ≠ c + 2) (h2 : a ≠ c + 17) : q_cM M c x a i = M a i := by
  unfold q_cM
  rw [if_neg h, if_neg h2]
theorem q_cM_r {M : q_M} {c a : Nat} {x : (Nat → Int) × (Nat → Int)} (h : a ≠ c + 2) (h2 : a ≠ c + 17) : q_cM M c x a = M a := funext (fun _ => q_cM_n h h2)
theorem q_cM_f {M : q_M} {c i : Nat} {x : (Nat → Int) × (Nat → Int)} : q_cM M c x (c + 2) i = x.1 i := if_pos rfl
theorem q_cM_s {M : q_M} {c i : Nat} {x : (Nat → Int) × (Nat → Int)} : q_cM M c x (c + 17) i = x.2 i := by
  unfold q_cM
  rw [if_neg (by omega), if_pos rfl]
theorem q_cM_uf {M : q_M} {c p : Nat} {v : Int} {x : (Nat → Int) × (Nat → Int)} : q_upd (q_cM M c x) (c + 2) p v = q_cM M c (F_u x.1 p v, x.2) := by
  funext a i
  by_cases e : a = c + 2 ∧ i = p
  · obtain ⟨rfl, rfl⟩ := e
    rw [q_upd_s, q_cM_f]
    exact (if_pos rfl).symm
  · rw [q_upd_n (by omega)]
    unfold q_cM F_u
    by_cases h : a = c + 2
    · rw [if_pos h, if_pos h]
      exact (if_neg (fun z => e ⟨h, z⟩)).symm
    · rw [if_neg h, if_neg h]
theorem q_cM_us {M : q_M} {c p : Nat} {v : Int} {x : (Nat → Int) × (Nat → Int)} : q_upd (q_cM M c x) (c + 17) p v = q_cM M c (x.1, F_u x.2 p v) := by
  funext a i
  by_cases e : a = c + 17 ∧ i = p
  · obtain ⟨rfl, rfl⟩ := e
    rw [q_upd_s, q_cM_s]
    exact (if_pos rfl).symm
  · rw [q_upd_n (by omega)]
    unfold q_cM F_u
    by_cases h : a = c + 17
    · subst h
      rw [if_neg (show ¬c + 17 = c + 2 by omega), if_pos rfl, if_neg (show ¬c + 17 = c + 2 by omega), if_pos rfl]
      exact (if_neg (fun z => e ⟨rfl, z⟩)).symm
    · rw [if_neg h, if_neg h]
def F_askO (W : Nat → Nat → Int) (R : Nat → Int) (n b : Nat) (f : Nat → Int) : Nat := F_cast f (fun q => W q b) (R b) b n
def F_ask (W : Nat → Nat → Int) (R : Nat → Int) (n p b : Nat) (x : (Nat → Int) × (Nat → Int)) : (Nat → Int) × (Nat → Int) :=
  if F_takes1 x.1 (fun q => W q b) (R b) b n p = true then
    (if F_askO W R n b x.1 = 5 then (F_u x.1 p b, x.2) else (F_u (F_u x.1 (F_askO W R n b x.1) 5) p b, F_u x.2 (F_askO W R n b x.1) (q_or (x.2 (F_askO W R n b x.1)) (q_shl 1 b))))
  else (x.1, F_u x.2 p (q_or (x.2 p) (q_shl 1 b)))
def q_Wn (M : q_M) (c : Nat) : Nat → Nat → Int := fun q b => M (c + 10 + (1 + q)) b
def q_Lk (M : q_M) (c : Nat) : Nat → Nat → Int := fun p => M (c + 3 + (1 + p))
set_option maxHeartbeats 4000000 in
theorem sp_ask {d : Nat} {g : q_G} {M : q_M} {c p b : Nat} {x : (Nat → Int) × (Nat → Int)} {Q : Option q_V → q_G → q_M → Prop} (h0 : 0 ≤ M c 5) (h5 : M c 5 ≤ 5) (hp : p < (M c 5).toNat) (hb : b < 5) (hq : Q none g (q_cM M c (F_ask (q_Wn M c) (M (c + 1)) (M c 5).toNat p b x))) : q_S 1 (d + 3) 16 [qR 0 c, qI p, qI b] g (q_cM M c x) Q := by
  have e5 : q_cM M c x c 5 = M c 5 := q_cM_n (by omega) (by omega)
  have eF : ∀ k, k < (M c 5).toNat → q_cM M c x (c + 2) k = x.1 k := fun k _ => q_cM_f
  have eW : ∀ k, k < (M c 5).toNat → q_cM M c x (c + 10 + (1 + k)) b = q_Wn M c k b := fun k hk => q_cM_n (by omega) (by omega)
  have eR : q_cM M c x (c + 1) b = M (c + 1) b := q_cM_n (by omega) (by omega)
  have hT : F_takes1 (q_cM M c x (c + 2)) (fun q => q_cM M c x (c + 10 + (1 + q)) b) (q_cM M c x (c + 1) b) b (q_cM M c x c 5).toNat p = F_takes1 x.1 (fun q => q_Wn M c q b) (M (c + 1) b) b (M c 5).toNat p := by
    rw [eR, e5]
    exact F_takes1_cong hp eF (fun k hk _ => eW k hk)
  have hC : F_cast (q_cM M c x (c + 2)) (fun q => q_cM M c x (c + 10 + (1 + q)) b) (q_cM M c x (c + 1) b) b (q_cM M c x c 5).toNat = F_askO (q_Wn M c) (M (c + 1)) (M c 5).toNat b x.1 := by
    rw [eR, e5]
    exact F_cast_cong eF (fun k hk _ => eW k hk)
  have hout : F_askO (q_Wn M c) (M (c + 1)) (M c 5).toNat b x.1 = 5 ∨ F_askO (q_Wn M c) (M (c + 1)) (M c 5).toNat b x.1 < (M c 5).toNat := by
    unfold F_askO F_cast
    split
    · exact Or.inl rfl
    · rcases F_last_in (f := x.1) (w := fun q => q_Wn M c q b) (b := b) (M c 5).toNat with h | h
      · exact Or.inl h
      · exact Or.inr h.1
  rw [s_X0_ask]
  unfold F_ask at hq
  by_cases ct : F_takes1 x.1 (fun q => q_Wn M c q b) (M (c + 1) b) b (M c 5).toNat p = true
  · rw [if_pos ct] at hq
    generalize F_askO (q_Wn M c) (M (c + 1)) (M c 5).toNat b x.1 = O at hC hout hq
    by_cases c5 : O = 5
    · subst c5
      rw [if_pos rfl] at hq
      simp (disch := omega) only [b_X0_ask_0, x_loadR_0, x_loadS_0, x_loadI_1, x_loadI_2, y_if_eq_t, y_if_eq_f, b_X0_ask_9, x_goto, b_X0_ask_18, b_X0_ask_19, x_storeI_3, x_loadI_3, x_iconst, y_ic_eq_t, y_ic_eq_f, b_X0_ask_25, f_0_4, x_dup2, y_iald_26, x_ishl, x_ior, y_iast_26, b_X0_ask_37, x_vret, q_isL_I, q_isL_R, q_isL_S, true_and, and_true, and_self, List.length_nil, List.length_cons, Nat.zero_add, x_K, x_Kn, Int.reduceToNat, Nat.reduceAdd, Nat.reduceMul, Nat.reduceLeDiff, Nat.reduceLT, Nat.zero_le, Int.reduceAdd, Int.reduceSub, Int.reduceMul, Int.reduceNeg, q_add_e, q_sub_e, q_mul_e, q_neg_e, q_upd_s, q_upd_n, zr_shr0, zr_shr1, zr_shr2, zr_shr3, zr_shr4, zr_and, zr_dyn8, zr_or, zr_shl, q_cpy_n, y_cpy26, Int.toNat_natCast, c_X0_takes, c_X0_comeIn, sp_takes, sp_comeIn, hT, hC, ct, if_true, q_cM_uf]
      exact hq
    · rw [if_neg c5] at hq
      simp (disch := omega) only [b_X0_ask_0, x_loadR_0, x_loadS_0, x_loadI_1, x_loadI_2, y_if_eq_t, y_if_eq_f, b_X0_ask_9, x_goto, b_X0_ask_18, b_X0_ask_19, x_storeI_3, x_loadI_3, x_iconst, y_ic_eq_t, y_ic_eq_f, b_X0_ask_25, f_0_4, x_dup2, y_iald_26, x_ishl, x_ior, y_iast_26, b_X0_ask_37, x_vret, q_isL_I, q_isL_R, q_isL_S, true_and, and_true, and_self, List.length_nil, List.length_cons, Nat.zero_add, x_K, x_Kn, Int.reduceToNat, Nat.reduceAdd, Nat.reduceMul, Nat.reduceLeDiff, Nat.reduceLT, Nat.zero_le, Int.reduceAdd, Int.reduceSub, Int.reduceMul, Int.reduceNeg, q_add_e, q_sub_e, q_mul_e, q_neg_e, q_upd_s, q_upd_n, zr_shr0, zr_shr1, zr_shr2, zr_shr3, zr_shr4, zr_and, zr_dyn8, zr_or, zr_shl, q_cpy_n, y_cpy26, Int.toNat_natCast, c_X0_takes, c_X0_comeIn, sp_takes, sp_comeIn, hT, hC, ct, if_true, c5, if_false, q_cM_uf, q_cM_s, q_cM_us]
      exact hq
  · rw [if_neg ct] at hq
    simp (disch := omega) only [b_X0_ask_0, x_loadR_0, x_loadS_0, x_loadI_1, x_loadI_2, y_if_eq_t, y_if_eq_f, b_X0_ask_9, x_goto, b_X0_ask_18, b_X0_ask_19, x_storeI_3, x_loadI_3, x_iconst, y_ic_eq_t, y_ic_eq_f, b_X0_ask_25, f_0_4, x_dup2, y_iald_26, x_ishl, x_ior, y_iast_26, b_X0_ask_37, x_vret, q_isL_I, q_isL_R, q_isL_S, true_and, and_true, and_self, List.length_nil, List.length_cons, Nat.zero_add, x_K, x_Kn, Int.reduceToNat, Nat.reduceAdd, Nat.reduceMul, Nat.reduceLeDiff, Nat.reduceLT, Nat.zero_le, Int.reduceAdd, Int.reduceSub, Int.reduceMul, Int.reduceNeg, q_add_e, q_sub_e, q_mul_e, q_neg_e, q_upd_s, q_upd_n, zr_shr0, zr_shr1, zr_shr2, zr_shr3, zr_shr4, zr_and, zr_dyn8, zr_or, zr_shl, q_cpy_n, y_cpy26, Int.toNat_natCast, c_X0_takes, sp_takes, hT, ct, Bool.false_eq_true, if_false, q_cM_s, q_cM_us]
    exact hq
