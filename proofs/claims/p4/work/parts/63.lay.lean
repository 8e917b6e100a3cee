/-! THE CLASS'S WORLD: one more stone, one laid, a building moved -/
set_option maxHeartbeats 4000000 in
theorem cW_adM {M : q_M} {w : Nat} {km wh hv : Int} (h0 : 0 ≤ M (w + 1) 5) (h5 : M (w + 1) 5 < 5) : cW (q_adM M w km wh hv) w = F_add (cW M w) km wh hv := by
  funext f i
  have e1 : q_adM M w km wh hv (w + 1) 5 = M (w + 1) 5 + 1 := q_upd_s
  have en : (M (w + 1) 5 + 1).toNat = (M (w + 1) 5).toNat + 1 := by omega
  have hN : (M (w + 1) 5).toNat < 5 := by omega
  unfold F_add
  rw [show F_n (cW M w) = (M (w + 1) 5).toNat from rfl]
  rcases (show f = 0 ∨ f = 1 ∨ f = 2 ∨ f = 3 ∨ f = 4 ∨ f = 5 ∨ f = 6 ∨ f = 7 ∨ f = 8 ∨ f = 9 ∨ 10 ≤ f by omega) with h | h | h | h | h | h | h | h | h | h | h
  · subst h
    show (if i < (q_adM M w km wh hv (w + 1) 5).toNat then q_adM M w km wh hv (w + 22) i else 0) = _
    rw [e1, en]
    by_cases c : i < (M (w + 1) 5).toNat
    · rw [if_pos (by omega)]
      unfold q_adM
      simp (disch := omega) only [q_upd_n, cW_0]
    · by_cases c2 : i = (M (w + 1) 5).toNat
      · rw [if_pos (by omega), c2]
        unfold q_adM
        simp (disch := omega) only [q_upd_n, q_upd_s]
      · rw [if_neg (by omega)]
        simp (disch := omega) only [q_upd_n]
        show 0 = if i < (M (w + 1) 5).toNat then _ else 0
        rw [if_neg c]
  · subst h
    show (if i < (q_adM M w km wh hv (w + 1) 5).toNat then q_adM M w km wh hv (w + 23) i else 0) = _
    rw [e1, en]
    by_cases c : i < (M (w + 1) 5).toNat
    · rw [if_pos (by omega)]
      unfold q_adM
      simp (disch := omega) only [q_upd_n, cW_1]
    · by_cases c2 : i = (M (w + 1) 5).toNat
      · rw [if_pos (by omega), c2]
        unfold q_adM
        simp (disch := omega) only [q_upd_n, q_upd_s]
      · rw [if_neg (by omega)]
        simp (disch := omega) only [q_upd_n]
        show 0 = if i < (M (w + 1) 5).toNat then _ else 0
        rw [if_neg c]
  · subst h
    show (if i < (q_adM M w km wh hv (w + 1) 5).toNat then q_adM M w km wh hv (w + 24) i else 0) = _
    rw [e1, en]
    by_cases c : i < (M (w + 1) 5).toNat
    · rw [if_pos (by omega)]
      unfold q_adM
      simp (disch := omega) only [q_upd_n, cW_2]
    · by_cases c2 : i = (M (w + 1) 5).toNat
      · rw [if_pos (by omega), c2]
        unfold q_adM
        simp (disch := omega) only [q_upd_n, q_upd_s]
      · rw [if_neg (by omega)]
        simp (disch := omega) only [q_upd_n]
        show 0 = if i < (M (w + 1) 5).toNat then _ else 0
        rw [if_neg c]
  · subst h
    show (if i < (q_adM M w km wh hv (w + 1) 5).toNat then q_adM M w km wh hv (w + 25) i else 0) = _
    rw [e1, en]
    by_cases c : i < (M (w + 1) 5).toNat
    · rw [if_pos (by omega)]
      unfold q_adM
      simp (disch := omega) only [q_upd_n, cW_3]
    · by_cases c2 : i = (M (w + 1) 5).toNat
      · rw [if_pos (by omega), c2]
        unfold q_adM
        simp (disch := omega) only [q_upd_n, q_upd_s]
      · rw [if_neg (by omega)]
        simp (disch := omega) only [q_upd_n]
        show 0 = if i < (M (w + 1) 5).toNat then _ else 0
        rw [if_neg c]
  · subst h
    show (if i < (q_adM M w km wh hv (w + 1) 5).toNat then q_adM M w km wh hv (w + 3) i else 0) = _
    rw [e1, en]
    by_cases c : i < (M (w + 1) 5).toNat
    · rw [if_pos (by omega)]
      unfold q_adM
      simp (disch := omega) only [q_upd_n, cW_4]
    · by_cases c2 : i = (M (w + 1) 5).toNat
      · rw [if_pos (by omega), c2]
        unfold q_adM
        simp (disch := omega) only [q_upd_n, q_upd_s, Nat.add_assoc, Nat.reduceAdd]
      · rw [if_neg (by omega)]
        simp (disch := omega) only [q_upd_n]
        show 0 = if i < (M (w + 1) 5).toNat then _ else 0
        rw [if_neg c]
  · subst h
    simp (disch := omega) only [q_upd_n]
    show (if i < 5 then q_adM M w km wh hv (w + 19) i else 0) = if i < 5 then M (w + 19) i else 0
    unfold q_adM
    simp (disch := omega) only [q_upd_n]
  · subst h
    simp (disch := omega) only [q_upd_n]
    show (if i < 5 then q_adM M w km wh hv (w + 2) i else 0) = if i < 5 then M (w + 2) i else 0
    unfold q_adM
    simp (disch := omega) only [q_upd_n]
  · subst h
    simp (disch := omega) only [q_upd_n]
    show (if i < 5 then q_adM M w km wh hv (w + 20) i else 0) = if i < 5 then M (w + 20) i else 0
    unfold q_adM
    simp (disch := omega) only [q_upd_n]
  · subst h
    simp (disch := omega) only [q_upd_n]
    show (if i < 5 then q_adM M w km wh hv (w + 21) i else 0) = if i < 5 then M (w + 21) i else 0
    unfold q_adM
    simp (disch := omega) only [q_upd_n]
  · subst h
    by_cases c : i = 0
    · subst c
      rw [q_upd_s]
      exact e1
    · rw [q_upd_n (by omega)]
      simp (disch := omega) only [q_upd_n]
      show (if i = 0 then q_adM M w km wh hv (w + 1) 5 else if i = 1 then q_adM M w km wh hv w 9 else 0) = if i = 0 then M (w + 1) 5 else if i = 1 then M w 9 else 0
      rw [if_neg c, if_neg c]
      unfold q_adM
      simp (disch := omega) only [q_upd_n]
  · simp (disch := omega) only [q_upd_n]
    unfold cW
    split <;> first | omega | rfl
theorem q_wl_adM {V : Nat → (Nat → Int) → Int} {M : q_M} {w ta : Nat} {km wh hv : Int} (hw : q_wl V M w ta) (h5 : M (w + 1) 5 < 5) (hk : 0 ≤ km) (hk2 : km ≤ 59) (hh0 : 0 ≤ wh) (hh : wh ≤ 99) (hv0 : 0 ≤ hv) (hv1 : hv ≤ 99) : q_wl V (q_adM M w km wh hv) w ta := by
  obtain ⟨⟨r0, r1, r2, r3, r4, r5, r6, r7, r8, r9, ra, rb, rc⟩, h2, h3, h4, h6, h7⟩ := hw
  unfold q_adM
  refine ⟨⟨?_, ?_, ?_, ?_, ?_, ?_, ?_, ?_, ?_, ?_, ?_, ?_, ?_⟩, h2, fun M' hM => h3 M' (fun x j hx => (hM x j hx).trans (by simp (disch := omega) only [q_upd_n])), ?_, h6, h7⟩
  · rw [q_upd_s]
    omega
  · simp (disch := omega) only [q_upd_n]
    exact r1
  · exact q_upd_b (q_upd_b (q_upd_b (q_upd_b (q_upd_b (q_upd_b r2 (by omega)) (by omega)) (by omega)) (by omega)) (by omega)) (by omega)
  · exact q_upd_b (q_upd_b (q_upd_b (q_upd_b (q_upd_b (q_upd_b r3 (by omega)) (by omega)) (by omega)) (by omega)) (by omega)) (by omega)
  · exact q_upd_b (q_upd_b (q_upd_b (q_upd_b (q_upd_b (q_upd_b r4 (by omega)) (by omega)) (by omega)) (by omega)) (by omega)) (by omega)
  · exact q_upd_b (q_upd_b (q_upd_b (q_upd_b (q_upd_b (q_upd_b r5 (by omega)) (by omega)) (by omega)) (by omega)) (by omega)) (by omega)
  · exact q_upd_b (q_upd_b (q_upd_b (q_upd_b (q_upd_b (q_upd_b r6 (by omega)) (by omega)) (by omega)) (by omega)) (by omega)) (by omega)
  · exact q_upd_b (q_upd_b (q_upd_b (q_upd_b (q_upd_b (q_upd_b r7 (by omega)) (by omega)) (by omega)) (by omega)) (by omega)) (by omega)
  · exact q_upd_b (q_upd_b (q_upd_b (q_upd_b (q_upd_b (q_upd_b r8 (by omega)) (by omega)) (by omega)) (by omega)) (by omega)) (by omega)
  · exact q_upd_b (q_upd_b (q_upd_b (q_upd_b (q_upd_b (q_upd_b r9 (by omega)) (by omega)) (by omega)) (by omega)) (by omega)) (by omega)
  · exact q_upd_b (q_upd_b (q_upd_b (q_upd_b (q_upd_b (q_upd_b ra (by omega)) (by omega)) (by omega)) (by omega)) (by omega)) (by omega)
  · simp (disch := omega) only [q_upd_n]
    exact rb
  · simp (disch := omega) only [q_upd_n]
    exact rc
  · simp (disch := omega) only [q_upd_n]
    exact h4
def F_lay (S : q_M) (p : Nat) (wh : Int) : q_M := q_upd (q_upd S 2 p wh) 4 p 5
theorem sp_lay {d : Nat} {g : q_G} {M : q_M} {w p : Nat} {wh : Int} {Q : Option q_V → q_G → q_M → Prop} (hp : p < 6) (hq : Q none g (q_upd (q_upd M (w + 24) p wh) (w + 3) p 5)) : q_S 1 d 51 [qR 4 w, qI p, qI wh] g M Q := by
  rw [s_X4_lay]
  simp (disch := omega) only [b_X4_lay_0, x_loadR_0, x_loadS_0, f_4_6, x_loadI_1, x_loadI_2, y_iast_26, f_4_0, f_0_1, x_iconst, x_vret, q_isL_I, q_isL_R, q_isL_S, true_and, and_true, and_self, List.length_nil, List.length_cons, Nat.zero_add, x_K, x_Kn, Int.reduceToNat, Nat.reduceAdd, Nat.reduceMul, Nat.reduceLeDiff, Nat.reduceLT, Nat.zero_le, Int.reduceAdd, Int.reduceSub, Int.reduceMul, Int.reduceNeg, q_add_e, q_sub_e, q_mul_e, q_neg_e, q_upd_s, q_upd_n, zr_shr0, zr_shr1, zr_shr2, zr_shr3, zr_shr4, zr_and, zr_dyn8, zr_or, zr_shl, q_cpy_n, y_cpy26, Int.toNat_natCast]
  exact hq
theorem cW_lay {M : q_M} {w p : Nat} {wh : Int} (hp : p < (M (w + 1) 5).toNat) : cW (q_upd (q_upd M (w + 24) p wh) (w + 3) p 5) w = F_lay (cW M w) p wh := by
  rw [cW_up4 (by rw [q_upd_n (by omega)]; exact hp), cW_up2 hp]
  rfl
def F_move (S : q_M) (b : Nat) (wh : Int) : q_M := fun f i => if f = 2 ∧ i < F_n S ∧ S 4 i = b then wh else q_upd S 5 b wh f i
def q_mvM (M : q_M) (w b : Nat) (wh : Int) (k : Nat) : q_M := fun a i => if a = w + 24 ∧ i < k ∧ M (w + 3) i = b then wh else q_upd M (w + 19) b wh a i
theorem q_mvM_n {M : q_M} {w b : Nat} {wh : Int} {k a i : Nat} (h : a ≠ w + 24) : q_mvM M w b wh k a i = q_upd M (w + 19) b wh a i := if_neg (fun z => h z.1)
theorem q_mvM_s {M : q_M} {w b : Nat} {wh : Int} {k : Nat} (h : M (w + 3) k = b) : q_upd (q_mvM M w b wh k) (w + 24) k wh = q_mvM M w b wh (k + 1) := by
  funext a i
  by_cases c : a = w + 24 ∧ i = k
  · obtain ⟨rfl, rfl⟩ := c
    rw [q_upd_s]
    exact (if_pos ⟨rfl, by omega, h⟩).symm
  · rw [q_upd_n (by omega)]
    unfold q_mvM
    by_cases c2 : a = w + 24 ∧ i < k ∧ M (w + 3) i = b
    · rw [if_pos c2, if_pos ⟨c2.1, by omega, c2.2.2⟩]
    · rw [if_neg c2, if_neg (fun z => c2 ⟨z.1, by omega, z.2.2⟩)]
theorem q_mvM_k {M : q_M} {w b : Nat} {wh : Int} {k : Nat} (h : M (w + 3) k ≠ b) : q_mvM M w b wh k = q_mvM M w b wh (k + 1) := by
  funext a i
  unfold q_mvM
  by_cases c2 : a = w + 24 ∧ i < k ∧ M (w + 3) i = b
  · rw [if_pos c2, if_pos ⟨c2.1, by omega, c2.2.2⟩]
  · rw [if_neg c2, if_neg ?_]
    intro z
    by_cases e : i = k
    · subst e
      exact h z.2.2
    · exact c2 ⟨z.1, by omega, z.2.2⟩
set_option maxHeartbeats 4000000 in
theorem sp_move {d : Nat} {g : q_G} {M : q_M} {w b : Nat} {wh : Int} {Q : Option q_V → q_G → q_M → Prop} (h0 : 0 ≤ M (w + 1) 5) (h5 : M (w + 1) 5 ≤ 5) (hb : b < 5) (hq : Q none g (q_mvM M w b wh (M (w + 1) 5).toNat)) : q_S 1 d 52 [qR 4 w, qI b, qI wh] g M Q := by
  rw [s_X4_move]
  have loop : ∀ j p : Nat, p + j = (M (w + 1) 5).toNat → q_T 1 d qP_X4_move 9 [] [qR 4 w, qI b, qI wh, qI p] [] g (q_mvM M w b wh p) Q := by
    intro j
    induction j with
    | zero =>
      intro p hp
      have hpn : p = (M (w + 1) 5).toNat := by omega
      rw [b_X4_move_9]
      simp (disch := omega) only [b_X4_move_0, x_loadR_0, x_loadS_0, f_4_1, x_loadI_1, x_loadI_2, y_iast_26, x_iconst, x_storeI_3, x_loadI_3, f_4_0, f_0_5, y_ic_ge_t, y_ic_ge_f, b_X4_move_20, f_0_1, y_iald_26, y_ic_ne_t, y_ic_ne_f, b_X4_move_33, f_4_6, b_X4_move_40, x_iinc_3, x_goto, b_X4_move_46, x_vret, q_isL_I, q_isL_R, q_isL_S, true_and, and_true, and_self, List.length_nil, List.length_cons, Nat.zero_add, x_K, x_Kn, Int.reduceToNat, Nat.reduceAdd, Nat.reduceMul, Nat.reduceLeDiff, Nat.reduceLT, Nat.zero_le, Int.reduceAdd, Int.reduceSub, Int.reduceMul, Int.reduceNeg, q_add_e, q_sub_e, q_mul_e, q_neg_e, q_upd_s, q_upd_n, zr_shr0, zr_shr1, zr_shr2, zr_shr3, zr_shr4, zr_and, zr_dyn8, zr_or, zr_shl, q_cpy_n, y_cpy26, q_mvM_n]
      rw [hpn]
      exact hq
    | succ j ih =>
      intro p hp
      have ih2 := ih (p + 1) (by omega)
      rw [b_X4_move_9]
      by_cases c : M (w + 3) p = b
      · rw [← q_mvM_s c] at ih2
        simp (disch := omega) only [b_X4_move_0, x_loadR_0, x_loadS_0, f_4_1, x_loadI_1, x_loadI_2, y_iast_26, x_iconst, x_storeI_3, x_loadI_3, f_4_0, f_0_5, y_ic_ge_t, y_ic_ge_f, b_X4_move_20, f_0_1, y_iald_26, y_ic_ne_t, y_ic_ne_f, b_X4_move_33, f_4_6, b_X4_move_40, x_iinc_3, x_goto, b_X4_move_46, x_vret, q_isL_I, q_isL_R, q_isL_S, true_and, and_true, and_self, List.length_nil, List.length_cons, Nat.zero_add, x_K, x_Kn, Int.reduceToNat, Nat.reduceAdd, Nat.reduceMul, Nat.reduceLeDiff, Nat.reduceLT, Nat.zero_le, Int.reduceAdd, Int.reduceSub, Int.reduceMul, Int.reduceNeg, q_add_e, q_sub_e, q_mul_e, q_neg_e, q_upd_s, q_upd_n, zr_shr0, zr_shr1, zr_shr2, zr_shr3, zr_shr4, zr_and, zr_dyn8, zr_or, zr_shl, q_cpy_n, y_cpy26, q_mvM_n, Int.toNat_natCast, c]
        exact ih2
      · rw [← q_mvM_k c] at ih2
        simp (disch := omega) only [b_X4_move_0, x_loadR_0, x_loadS_0, f_4_1, x_loadI_1, x_loadI_2, y_iast_26, x_iconst, x_storeI_3, x_loadI_3, f_4_0, f_0_5, y_ic_ge_t, y_ic_ge_f, b_X4_move_20, f_0_1, y_iald_26, y_ic_ne_t, y_ic_ne_f, b_X4_move_33, f_4_6, b_X4_move_40, x_iinc_3, x_goto, b_X4_move_46, x_vret, q_isL_I, q_isL_R, q_isL_S, true_and, and_true, and_self, List.length_nil, List.length_cons, Nat.zero_add, x_K, x_Kn, Int.reduceToNat, Nat.reduceAdd, Nat.reduceMul, Nat.reduceLeDiff, Nat.reduceLT, Nat.zero_le, Int.reduceAdd, Int.reduceSub, Int.reduceMul, Int.reduceNeg, q_add_e, q_sub_e, q_mul_e, q_neg_e, q_upd_s, q_upd_n, zr_shr0, zr_shr1, zr_shr2, zr_shr3, zr_shr4, zr_and, zr_dyn8, zr_or, zr_shl, q_cpy_n, y_cpy26, q_mvM_n, Int.toNat_natCast, c]
        exact ih2
  have e0 : q_upd M (w + 19) b wh = q_mvM M w b wh 0 := by
    funext a i
    exact (if_neg (fun z => absurd z.2.1 (by omega))).symm
  simp (disch := omega) only [b_X4_move_0, x_loadR_0, x_loadS_0, f_4_1, x_loadI_1, x_loadI_2, y_iast_26, x_iconst, x_storeI_3, x_loadI_3, f_4_0, f_0_5, y_ic_ge_t, y_ic_ge_f, b_X4_move_20, f_0_1, y_iald_26, y_ic_ne_t, y_ic_ne_f, b_X4_move_33, f_4_6, b_X4_move_40, x_iinc_3, x_goto, b_X4_move_46, x_vret, q_isL_I, q_isL_R, q_isL_S, true_and, and_true, and_self, List.length_nil, List.length_cons, Nat.zero_add, x_K, x_Kn, Int.reduceToNat, Nat.reduceAdd, Nat.reduceMul, Nat.reduceLeDiff, Nat.reduceLT, Nat.zero_le, Int.reduceAdd, Int.reduceSub, Int.reduceMul, Int.reduceNeg, q_add_e, q_sub_e, q_mul_e, q_neg_e, q_upd_s, q_upd_n, zr_shr0, zr_shr1, zr_shr2, zr_shr3, zr_shr4, zr_and, zr_dyn8, zr_or, zr_shl, q_cpy_n, y_cpy26, Int.toNat_natCast]
  rw [e0]
  exact loop (M (w + 1) 5).toNat 0 (by omega)
