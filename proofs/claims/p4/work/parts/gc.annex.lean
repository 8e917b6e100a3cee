/-! BOTH SIDES: the annex, just so -/
theorem F_says_r6 {V : Nat → (Nat → Int) → Int} {S : q_M} {part p c b : Nat} {v : Int} : F_says V (q_upd S 6 b v) part p c = F_says V S part p c := by
  have e : F_nm (q_upd S 6 b v) p c = F_nm S p c := by
    funext k
    unfold F_nm
    simp (disch := omega) only [q_upd_n]
  unfold F_says
  rw [e]
theorem EL_r6 {V : Nat → (Nat → Int) → Int} {S : q_M} {b : Nat} {v : Int} : EL V (q_upd S 6 b v) = EL V S ∧ EW V (q_upd S 6 b v) = EW V S := by
  constructor
  · funext p c
    unfold EL F_likes
    simp (disch := omega) only [q_upd_n, F_says_r6]
  · funext p c
    unfold EW F_wants
    simp (disch := omega) only [q_upd_n, F_says_r6]
/-- liked, were there room for one more in b -/
def E_ans (V : Nat → (Nat → Int) → Int) (S : q_M) (b : Nat) : Int := F_sum (EL V S) (G_trn (EL V S) (EW V S) (F_u (S 6) b (S 6 b + 1)) (F_n S) 1000 G_x0).1 (F_n S)
def E_an (V : Nat → (Nat → Int) → Int) (S : q_M) : Nat → Int × Int
  | 0 => (-1, 0)
  | b + 1 => if (E_an V S b).1 = -1 ∨ (E_an V S b).2 < E_ans V S b then ((b : Int), E_ans V S b) else E_an V S b
def E_annex (V : Nat → (Nat → Int) → Int) (S : q_M) (wt : Int) : Int := if ¬(0 ≤ wt ∧ wt ≤ 1) then -100000 else if wt = 0 then (E_an V S 5).1 else (E_an V S 5).2
theorem E_annex_n {V : Nat → (Nat → Int) → Int} {S : q_M} {wt : Int} (h : ¬(0 ≤ wt ∧ wt ≤ 1)) : E_annex V S wt = -100000 := if_pos h
theorem E_annex_0 {V : Nat → (Nat → Int) → Int} {S : q_M} : E_annex V S 0 = (E_an V S 5).1 := rfl
theorem E_annex_1 {V : Nat → (Nat → Int) → Int} {S : q_M} : E_annex V S 1 = (E_an V S 5).2 := rfl
theorem E_ans_e {V : Nat → (Nat → Int) → Int} {S : q_M} {L W : Nat → Nat → Int} {R : Nat → Int} {b : Nat} {x : (Nat → Int) × (Nat → Int)} (iv : q_ivS S) (hL : ∀ p c, p < F_n S → c < 6 → L p c = EL V S p c) (hW : ∀ p c, p < F_n S → c < 6 → W p c = EW V S p c) (hR : ∀ c, c < 5 → R c = S 6 c) (hb : b < 5) : F_sum L (F_turn L W (F_u R b (R b + 1)) (F_n S) 1000 (F_fr x)).1 (F_n S) = E_ans V S b := by
  have hn : F_n S ≤ 5 := by have := iv.1; unfold F_n; omega
  have r0 : ∀ c : Nat, c < 5 → 0 ≤ S 6 c := fun c hc => by
    have := iv.2.2.1 c hc
    have := (F_cnt_le (S 4) c (F_n S)).1
    omega
  obtain ⟨k1, k2⟩ := F_turn_e (R := F_u R b (R b + 1)) (R' := F_u (S 6) b (S 6 b + 1)) hn hL hW (fun c hc => by
    unfold F_u
    rw [hR c hc, hR b hb]) 1000 (F_fr x) G_x0 (F_fr_e hn) (q_Jn_0 (fun c hc => by
    unfold F_u
    have := r0 c hc
    have := r0 b hb
    split <;> omega))
  exact F_sum_e (N := F_n S) hL (fun p hp => (k1 p hp).1) (fun p hp => by rw [(k1 p hp).1]; exact k2.2 p hp) _ (Nat.le_refl _)
theorem F_an_e {V : Nat → (Nat → Int) → Int} {S : q_M} {L W : Nat → Nat → Int} {R : Nat → Int} {x : (Nat → Int) × (Nat → Int)} (iv : q_ivS S) (hL : ∀ p c, p < F_n S → c < 6 → L p c = EL V S p c) (hW : ∀ p c, p < F_n S → c < 6 → W p c = EW V S p c) (hR : ∀ c, c < 5 → R c = S 6 c) : ∀ b : Nat, b ≤ 5 → (F_an L W R (F_n S) x b).1 = E_an V S b
  | 0, _ => rfl
  | b + 1, hb => by
    have ih := F_an_e (x := x) iv hL hW hR b (by omega)
    rw [F_an, E_an]
    unfold F_anX
    rw [ih, E_ans_e iv hL hW hR (by omega)]
theorem cy_annex {Vt : Nat → Nat → (Nat → Int) → Int} {d tm l sl : Nat} {g : q_G} {M : q_M} {wt : Int} {Q : Option q_V → q_G → q_M → Prop} (C : q_XI Vt tm l sl M) (iv : q_ivS (cW M 11)) (hq : ∀ M2 : q_M, q_tq M M2 → Q (some (qI (E_annex (Vt l) (cW M 11) wt))) g M2) : q_S 1 (d + 50) 80 [qR 5 0, qI wt] g M Q := by
  have c := C.2.2.1
  have n5 := q_ci_n c
  by_cases c1 : 0 ≤ wt ∧ wt ≤ 1
  · refine sp_annex (d := d + 44) c c1 (fun M2 M3 h h3 => q_ans (hq M3 h3) ?_)
    obtain ⟨t1, t2, t3, t4, t5, t6, _⟩ := h
    have en : F_n (cW M 11) = (M 12 5).toNat := rfl
    have eL : ∀ p b, p < F_n (cW M 11) → b < 6 → q_Lk M2 39 p b = EL (Vt l) (cW M 11) p b := fun p b hp hb => by
      unfold EL
      by_cases cb : b < 5
      · rw [if_pos cb]
        exact (t6 p b hp cb).1
      · have e : b = 5 := by omega
        subst e
        rw [if_neg cb]
        exact t3.1 p (by omega)
    have eW : ∀ p b, p < F_n (cW M 11) → b < 6 → q_Wn M2 39 p b = EW (Vt l) (cW M 11) p b := fun p b hp hb => by
      unfold EW
      by_cases cb : b < 5
      · rw [if_pos cb]
        exact (t6 p b hp cb).2
      · have e : b = 5 := by omega
        subst e
        rw [if_neg cb]
        exact t3.2 p (by omega)
    have eR : ∀ b, b < 5 → M2 40 b = cW M 11 6 b := fun b hb => by
      rw [← t2]
      exact (if_pos hb).symm
    have k := F_an_e (x := (M2 41, M2 56)) iv eL eW eR 5 (Nat.le_refl 5)
    have e5 : (M2 39 5).toNat = F_n (cW M 11) := by rw [t4]; rfl
    unfold A_annex E_annex
    rw [if_neg (show ¬¬(0 ≤ wt ∧ wt ≤ 1) from fun z => z c1), e5, k]
  · exact sp_annexF (by omega) (q_ans (hq M q_tq_rf) (E_annex_n c1).symm)
set_option maxHeartbeats 4000000 in
theorem mp_annexE {V : Nat → (Nat → Int) → Int} {d : Nat} {g : q_G} {M : q_M} {wt : Int} {Q : Option q_V → q_G → q_M → Prop} (hm : q_ml V M) (hR : ∀ b, b < 5 → M 103 (4 * b + 1) ≤ 5) (hiv : q_ivS (mW M)) (hq : ∀ M2 : q_M, q_mq M M2 → Q (some (qI (E_annex V (mW M) wt))) g M2) : q_S 1 (d + 6) 175 [qR 6 100, qI wt] g M Q := by
  have n0 := hm.1.1
  rw [s_X6_annex]
  by_cases c1 : 0 ≤ wt ∧ wt ≤ 1
  · have loop : ∀ j b : Nat, b + j = 5 → ∀ (M1 : q_M) (best most : Int) (l5 l6 : q_V), E_an V (mW M) b = (best, most) → q_isL l5 = false → q_isL l6 = false → q_mq M M1 → q_T 1 (d + 6) qP_X6_annex 19 [] [qR 6 100, qI wt, qI best, qI most, qI b, l5, l6] [] g M1 Q := by
      intro j
      induction j with
      | zero =>
        intro b hb M1 best most l5 l6 hE hl5 hl6 h1
        rw [b_X6_annex_19]
        rcases (show wt = 0 ∨ wt = 1 by omega) with k | k
        · have e5 : b = 5 := by omega
          subst e5
          subst k
          simp (disch := omega) only [b_X6_annex_0, x_loadI_1, x_iconst, y_if_ne_t, y_if_ne_f, b_X6_annex_9, x_ret0, b_X6_annex_12, x_storeI_2, x_storeI_3, x_storeI_4, x_loadI_4, y_ic_ge_t, y_ic_ge_f, b_X6_annex_25, x_loadR_0, x_loadS_0, f_6_3, x_imul, x_iadd, x_dup2, y_iald_40, y_iast_40, x_storeI_5, x_isub, x_loadI_2, y_ic_eq_t, y_ic_eq_f, b_X6_annex_71, x_loadI_5, x_loadI_3, y_ic_le_t, y_ic_le_f, b_X6_annex_77, x_goto, b_X6_annex_81, b_X6_annex_82, x_storeI_6, x_loadI_6, y_if_eq_t, y_if_eq_f, b_X6_annex_89, b_X6_annex_94, b_X6_annex_95, b_X6_annex_101, b_X6_annex_106, b_X6_annex_107, x_iinc_4, b_X6_annex_114, b_X6_annex_118, b_X6_annex_122, b_X6_annex_123, q_isL_I, q_isL_R, q_isL_S, true_and, and_true, and_self, List.length_nil, List.length_cons, Nat.zero_add, x_K, x_Kn, Int.reduceToNat, Nat.reduceAdd, Nat.reduceMul, Nat.reduceLeDiff, Nat.reduceLT, Nat.zero_le, Int.reduceAdd, Int.reduceSub, Int.reduceMul, Int.reduceNeg, q_add_e, q_sub_e, q_mul_e, q_neg_e, q_upd_s, q_upd_n, zr_shr0, zr_shr1, zr_shr2, zr_shr3, zr_shr4, zr_and, zr_dyn8, zr_or, zr_shl, q_cpy_n, y_cpy26]
          exact q_ans (hq M1 h1) (by first | (rw [E_annex_0, hE]; done) | (rw [E_annex_1, hE]))
        · have e5 : b = 5 := by omega
          subst e5
          subst k
          simp (disch := omega) only [b_X6_annex_0, x_loadI_1, x_iconst, y_if_ne_t, y_if_ne_f, b_X6_annex_9, x_ret0, b_X6_annex_12, x_storeI_2, x_storeI_3, x_storeI_4, x_loadI_4, y_ic_ge_t, y_ic_ge_f, b_X6_annex_25, x_loadR_0, x_loadS_0, f_6_3, x_imul, x_iadd, x_dup2, y_iald_40, y_iast_40, x_storeI_5, x_isub, x_loadI_2, y_ic_eq_t, y_ic_eq_f, b_X6_annex_71, x_loadI_5, x_loadI_3, y_ic_le_t, y_ic_le_f, b_X6_annex_77, x_goto, b_X6_annex_81, b_X6_annex_82, x_storeI_6, x_loadI_6, y_if_eq_t, y_if_eq_f, b_X6_annex_89, b_X6_annex_94, b_X6_annex_95, b_X6_annex_101, b_X6_annex_106, b_X6_annex_107, x_iinc_4, b_X6_annex_114, b_X6_annex_118, b_X6_annex_122, b_X6_annex_123, q_isL_I, q_isL_R, q_isL_S, true_and, and_true, and_self, List.length_nil, List.length_cons, Nat.zero_add, x_K, x_Kn, Int.reduceToNat, Nat.reduceAdd, Nat.reduceMul, Nat.reduceLeDiff, Nat.reduceLT, Nat.zero_le, Int.reduceAdd, Int.reduceSub, Int.reduceMul, Int.reduceNeg, q_add_e, q_sub_e, q_mul_e, q_neg_e, q_upd_s, q_upd_n, zr_shr0, zr_shr1, zr_shr2, zr_shr3, zr_shr4, zr_and, zr_dyn8, zr_or, zr_shl, q_cpy_n, y_cpy26]
          exact q_ans (hq M1 h1) (by first | (rw [E_annex_0, hE]; done) | (rw [E_annex_1, hE]))
      | succ j ih =>
        intro b hb M1 best most l5 l6 hE hl5 hl6 h1
        have hb5 : b < 5 := by omega
        have m1 := q_mq_ml h1 hm
        have r1 := m1.1.2.2.2.2.2.2.2.2.1 b hb5
        have r2 : M1 103 (4 * b + 1) ≤ 5 := by rw [h1 103 _ (by omega) (by omega)]; exact hR b hb5
        have m2 : q_ml V (q_upd M1 103 (4 * b + 1) (M1 103 (4 * b + 1) + 1)) := q_ml_up m1 (q_ok6 (by omega)) (by omega) (by omega) (by omega)
        have crt : ∀ (nx : Nat) (ops : List Instr) (ls st : List q_V), (∀ (M2 : q_M) (x : (Nat → Int) × (Nat → Int)), m_td V (q_upd M1 103 (4 * b + 1) (M1 103 (4 * b + 1) + 1)) M2 → q_iv (M2 100 0).toNat x → x = G_trn (mL M2) (mWn M2) (mR M2) (M2 100 0).toNat 1000 G_x0 → q_T 1 (d + 6) qP_X6_annex nx ops ls st g (q_yM M2 x) Q) → q_S 1 (d + 5) 170 [qR 6 100] g (q_upd M1 103 (4 * b + 1) (M1 103 (4 * b + 1) + 1)) (q_K 1 (d + 6) qP_X6_annex nx ops ls st Q) := fun nx ops ls st h => mp_courts m2 (fun M2 h2 => by
          have e0 : M2 100 0 = M1 100 0 := (h2.1 100 0 (by omega) (by omega)).trans (q_upd_n (by omega))
          have n1 := m1.1.1
          exact h M2 _ h2 (G_trn_iv (by omega) 1000 G_x0 G_x0_iv) rfl)
        rw [b_X6_annex_19]
        simp (disch := omega) only [b_X6_annex_0, x_loadI_1, x_iconst, y_if_ne_t, y_if_ne_f, b_X6_annex_9, x_ret0, b_X6_annex_12, x_storeI_2, x_storeI_3, x_storeI_4, x_loadI_4, y_ic_ge_t, y_ic_ge_f, b_X6_annex_25, x_loadR_0, x_loadS_0, f_6_3, x_imul, x_iadd, x_dup2, y_iald_40, y_iast_40, x_storeI_5, x_isub, x_loadI_2, y_ic_eq_t, y_ic_eq_f, b_X6_annex_71, x_loadI_5, x_loadI_3, y_ic_le_t, y_ic_le_f, b_X6_annex_77, x_goto, b_X6_annex_81, b_X6_annex_82, x_storeI_6, x_loadI_6, y_if_eq_t, y_if_eq_f, b_X6_annex_89, b_X6_annex_94, b_X6_annex_95, b_X6_annex_101, b_X6_annex_106, b_X6_annex_107, x_iinc_4, b_X6_annex_114, b_X6_annex_118, b_X6_annex_122, b_X6_annex_123, q_isL_I, q_isL_R, q_isL_S, true_and, and_true, and_self, List.length_nil, List.length_cons, Nat.zero_add, x_K, x_Kn, Int.reduceToNat, Nat.reduceAdd, Nat.reduceMul, Nat.reduceLeDiff, Nat.reduceLT, Nat.zero_le, Int.reduceAdd, Int.reduceSub, Int.reduceMul, Int.reduceNeg, q_add_e, q_sub_e, q_mul_e, q_neg_e, q_upd_s, q_upd_n, zr_shr0, zr_shr1, zr_shr2, zr_shr3, zr_shr4, zr_and, zr_dyn8, zr_or, zr_shl, q_cpy_n, y_cpy26, tn_41, c_X6_courts]
        refine crt _ _ _ _ (fun M2 x h2 hx hxe => ?_)
        have eW1 : mW (q_upd M1 103 (4 * b + 1) (M1 103 (4 * b + 1) + 1)) = q_upd (mW M) 6 b (mW M 6 b + 1) := by
          have e6 : mW M 6 b = M1 103 (4 * b + 1) := (if_pos hb5).trans (h1 103 _ (by omega) (by omega)).symm
          rw [mW_up6 hb5, q_mq_mW h1, e6]
        obtain ⟨g0, gL, gW, _, gR, _⟩ := m_td_e m2.1 h2
        rw [eW1, EL_r6.1] at gL
        rw [eW1, EL_r6.2] at gW
        rw [eW1] at gR
        have gn : (q_upd M1 103 (4 * b + 1) (M1 103 (4 * b + 1) + 1) 100 0).toNat = F_n (mW M) := by
          rw [q_upd_n (by omega), h1 100 0 (by omega) (by omega)]
          rfl
        have gn2 : (M2 100 0).toNat = F_n (mW M) := by rw [g0]; exact gn
        rw [gn] at gL gW
        have iv := hiv
        have nle : F_n (mW M) ≤ 5 := by have := iv.1; unfold F_n; omega
        have gy : F_sum (mL M2) x.1 (M2 100 0).toNat = E_ans V (mW M) b := by
          obtain ⟨k1, k2⟩ := G_trn_e (n := F_n (mW M)) (R := mR M2) (R' := F_u (mW M 6) b (mW M 6 b + 1)) nle gL gW (fun c hc => by
            rw [gR c hc]
            unfold F_u
            by_cases z : c = b
            · rw [if_pos z, z, q_upd_s]
            · rw [if_neg z, q_upd_n (by omega)]) 1000 G_x0 G_x0 (fun i _ => ⟨rfl, rfl⟩) (q_Jn_0 (fun c hc => by
            have := iv.2.2.1 c hc
            have := (F_cnt_le (mW M 4) c (F_n (mW M))).1
            have := iv.2.2.1 b hb5
            have := (F_cnt_le (mW M 4) b (F_n (mW M))).1
            unfold F_u
            split <;> omega))
          rw [hxe, gn2]
          exact F_sum_e (N := F_n (mW M)) gL (fun p hp => (k1 p hp).1) (fun p hp => by rw [(k1 p hp).1]; exact k2.2 p hp) _ (Nat.le_refl _)
        have e0 : M2 100 0 = M1 100 0 := (h2.1 100 0 (by omega) (by omega)).trans (q_upd_n (by omega))
        have n1 := m1.1.1
        have sm := fun (QQ : Option q_V → q_G → q_M → Prop) => mp_sumOf (d := d + 5) (g := g) (wt := 1) (M := M2) (x := x) (by omega) (by omega) (q_iv_x5 hx) (m_td_L h2) (m_td_W m2 h2) QQ
        have er : q_yM M2 x 103 (4 * b + 1) = M1 103 (4 * b + 1) + 1 := (ry_n (by omega) (by omega)).trans ((h2.1 103 _ (by omega) (by omega)).trans q_upd_s)
        have ex : M1 103 (4 * b + 1) + 1 - 1 = M1 103 (4 * b + 1) := by omega
        have h3 : q_mq M (q_upd (q_yM M2 x) 103 (4 * b + 1) (M1 103 (4 * b + 1))) := by
          intro a i q1 q2
          by_cases k : a = 103 ∧ i = 4 * b + 1
          · obtain ⟨rfl, rfl⟩ := k
            rw [q_upd_s]
            exact h1 103 _ (by omega) (by omega)
          · rw [q_upd_n (by omega), ry_n (by omega) (by omega), h2.1 a i q1 q2, q_upd_n (by omega)]
            exact h1 a i q1 q2
        simp (disch := omega) only [b_X6_annex_0, x_loadI_1, x_iconst, y_if_ne_t, y_if_ne_f, b_X6_annex_9, x_ret0, b_X6_annex_12, x_storeI_2, x_storeI_3, x_storeI_4, x_loadI_4, y_ic_ge_t, y_ic_ge_f, b_X6_annex_25, x_loadR_0, x_loadS_0, f_6_3, x_imul, x_iadd, x_dup2, y_iald_40, y_iast_40, x_storeI_5, x_isub, x_loadI_2, y_ic_eq_t, y_ic_eq_f, b_X6_annex_71, x_loadI_5, x_loadI_3, y_ic_le_t, y_ic_le_f, b_X6_annex_77, x_goto, b_X6_annex_81, b_X6_annex_82, x_storeI_6, x_loadI_6, y_if_eq_t, y_if_eq_f, b_X6_annex_89, b_X6_annex_94, b_X6_annex_95, b_X6_annex_101, b_X6_annex_106, b_X6_annex_107, x_iinc_4, b_X6_annex_114, b_X6_annex_118, b_X6_annex_122, b_X6_annex_123, q_isL_I, q_isL_R, q_isL_S, true_and, and_true, and_self, List.length_nil, List.length_cons, Nat.zero_add, x_K, x_Kn, Int.reduceToNat, Nat.reduceAdd, Nat.reduceMul, Nat.reduceLeDiff, Nat.reduceLT, Nat.zero_le, Int.reduceAdd, Int.reduceSub, Int.reduceMul, Int.reduceNeg, q_add_e, q_sub_e, q_mul_e, q_neg_e, q_upd_s, q_upd_n, zr_shr0, zr_shr1, zr_shr2, zr_shr3, zr_shr4, zr_and, zr_dyn8, zr_or, zr_shl, q_cpy_n, y_cpy26, tn_41, c_X6_sumOf, sm, if_true, er, ex, hl5]
        rw [gy]
        generalize hy : E_ans V (mW M) b = y
        by_cases k1 : best = -1
        · simp (disch := omega) only [b_X6_annex_0, x_loadI_1, x_iconst, y_if_ne_t, y_if_ne_f, b_X6_annex_9, x_ret0, b_X6_annex_12, x_storeI_2, x_storeI_3, x_storeI_4, x_loadI_4, y_ic_ge_t, y_ic_ge_f, b_X6_annex_25, x_loadR_0, x_loadS_0, f_6_3, x_imul, x_iadd, x_dup2, y_iald_40, y_iast_40, x_storeI_5, x_isub, x_loadI_2, y_ic_eq_t, y_ic_eq_f, b_X6_annex_71, x_loadI_5, x_loadI_3, y_ic_le_t, y_ic_le_f, b_X6_annex_77, x_goto, b_X6_annex_81, b_X6_annex_82, x_storeI_6, x_loadI_6, y_if_eq_t, y_if_eq_f, b_X6_annex_89, b_X6_annex_94, b_X6_annex_95, b_X6_annex_101, b_X6_annex_106, b_X6_annex_107, x_iinc_4, b_X6_annex_114, b_X6_annex_118, b_X6_annex_122, b_X6_annex_123, q_isL_I, q_isL_R, q_isL_S, true_and, and_true, and_self, List.length_nil, List.length_cons, Nat.zero_add, x_K, x_Kn, Int.reduceToNat, Nat.reduceAdd, Nat.reduceMul, Nat.reduceLeDiff, Nat.reduceLT, Nat.zero_le, Int.reduceAdd, Int.reduceSub, Int.reduceMul, Int.reduceNeg, q_add_e, q_sub_e, q_mul_e, q_neg_e, q_upd_s, q_upd_n, zr_shr0, zr_shr1, zr_shr2, zr_shr3, zr_shr4, zr_and, zr_dyn8, zr_or, zr_shl, q_cpy_n, y_cpy26, hl6]
          exact ih (b + 1) (by omega) _ _ _ _ _ (by rw [E_an, hE, hy, if_pos (Or.inl k1)]) rfl rfl h3
        · by_cases k2 : y ≤ most
          · simp (disch := omega) only [b_X6_annex_0, x_loadI_1, x_iconst, y_if_ne_t, y_if_ne_f, b_X6_annex_9, x_ret0, b_X6_annex_12, x_storeI_2, x_storeI_3, x_storeI_4, x_loadI_4, y_ic_ge_t, y_ic_ge_f, b_X6_annex_25, x_loadR_0, x_loadS_0, f_6_3, x_imul, x_iadd, x_dup2, y_iald_40, y_iast_40, x_storeI_5, x_isub, x_loadI_2, y_ic_eq_t, y_ic_eq_f, b_X6_annex_71, x_loadI_5, x_loadI_3, y_ic_le_t, y_ic_le_f, b_X6_annex_77, x_goto, b_X6_annex_81, b_X6_annex_82, x_storeI_6, x_loadI_6, y_if_eq_t, y_if_eq_f, b_X6_annex_89, b_X6_annex_94, b_X6_annex_95, b_X6_annex_101, b_X6_annex_106, b_X6_annex_107, x_iinc_4, b_X6_annex_114, b_X6_annex_118, b_X6_annex_122, b_X6_annex_123, q_isL_I, q_isL_R, q_isL_S, true_and, and_true, and_self, List.length_nil, List.length_cons, Nat.zero_add, x_K, x_Kn, Int.reduceToNat, Nat.reduceAdd, Nat.reduceMul, Nat.reduceLeDiff, Nat.reduceLT, Nat.zero_le, Int.reduceAdd, Int.reduceSub, Int.reduceMul, Int.reduceNeg, q_add_e, q_sub_e, q_mul_e, q_neg_e, q_upd_s, q_upd_n, zr_shr0, zr_shr1, zr_shr2, zr_shr3, zr_shr4, zr_and, zr_dyn8, zr_or, zr_shl, q_cpy_n, y_cpy26, hl6]
            exact ih (b + 1) (by omega) _ _ _ _ _ (by rw [E_an, hE, hy, if_neg (by simp only []; omega)]) rfl rfl h3
          · simp (disch := omega) only [b_X6_annex_0, x_loadI_1, x_iconst, y_if_ne_t, y_if_ne_f, b_X6_annex_9, x_ret0, b_X6_annex_12, x_storeI_2, x_storeI_3, x_storeI_4, x_loadI_4, y_ic_ge_t, y_ic_ge_f, b_X6_annex_25, x_loadR_0, x_loadS_0, f_6_3, x_imul, x_iadd, x_dup2, y_iald_40, y_iast_40, x_storeI_5, x_isub, x_loadI_2, y_ic_eq_t, y_ic_eq_f, b_X6_annex_71, x_loadI_5, x_loadI_3, y_ic_le_t, y_ic_le_f, b_X6_annex_77, x_goto, b_X6_annex_81, b_X6_annex_82, x_storeI_6, x_loadI_6, y_if_eq_t, y_if_eq_f, b_X6_annex_89, b_X6_annex_94, b_X6_annex_95, b_X6_annex_101, b_X6_annex_106, b_X6_annex_107, x_iinc_4, b_X6_annex_114, b_X6_annex_118, b_X6_annex_122, b_X6_annex_123, q_isL_I, q_isL_R, q_isL_S, true_and, and_true, and_self, List.length_nil, List.length_cons, Nat.zero_add, x_K, x_Kn, Int.reduceToNat, Nat.reduceAdd, Nat.reduceMul, Nat.reduceLeDiff, Nat.reduceLT, Nat.zero_le, Int.reduceAdd, Int.reduceSub, Int.reduceMul, Int.reduceNeg, q_add_e, q_sub_e, q_mul_e, q_neg_e, q_upd_s, q_upd_n, zr_shr0, zr_shr1, zr_shr2, zr_shr3, zr_shr4, zr_and, zr_dyn8, zr_or, zr_shl, q_cpy_n, y_cpy26, hl6]
            exact ih (b + 1) (by omega) _ _ _ _ _ (by rw [E_an, hE, hy, if_pos (Or.inr (by simp only []; omega))]) rfl rfl h3
    simp (disch := omega) only [b_X6_annex_0, x_loadI_1, x_iconst, y_if_ne_t, y_if_ne_f, b_X6_annex_9, x_ret0, b_X6_annex_12, x_storeI_2, x_storeI_3, x_storeI_4, x_loadI_4, y_ic_ge_t, y_ic_ge_f, b_X6_annex_25, x_loadR_0, x_loadS_0, f_6_3, x_imul, x_iadd, x_dup2, y_iald_40, y_iast_40, x_storeI_5, x_isub, x_loadI_2, y_ic_eq_t, y_ic_eq_f, b_X6_annex_71, x_loadI_5, x_loadI_3, y_ic_le_t, y_ic_le_f, b_X6_annex_77, x_goto, b_X6_annex_81, b_X6_annex_82, x_storeI_6, x_loadI_6, y_if_eq_t, y_if_eq_f, b_X6_annex_89, b_X6_annex_94, b_X6_annex_95, b_X6_annex_101, b_X6_annex_106, b_X6_annex_107, x_iinc_4, b_X6_annex_114, b_X6_annex_118, b_X6_annex_122, b_X6_annex_123, q_isL_I, q_isL_R, q_isL_S, true_and, and_true, and_self, List.length_nil, List.length_cons, Nat.zero_add, x_K, x_Kn, Int.reduceToNat, Nat.reduceAdd, Nat.reduceMul, Nat.reduceLeDiff, Nat.reduceLT, Nat.zero_le, Int.reduceAdd, Int.reduceSub, Int.reduceMul, Int.reduceNeg, q_add_e, q_sub_e, q_mul_e, q_neg_e, q_upd_s, q_upd_n, zr_shr0, zr_shr1, zr_shr2, zr_shr3, zr_shr4, zr_and, zr_dyn8, zr_or, zr_shl, q_cpy_n, y_cpy26, c_X6_in, mp_in, c1, and_self, if_true]
    exact loop 5 0 rfl M _ _ _ _ rfl rfl rfl q_mq_rf
  · simp (disch := omega) only [b_X6_annex_0, x_loadI_1, x_iconst, y_if_ne_t, y_if_ne_f, b_X6_annex_9, x_ret0, b_X6_annex_12, x_storeI_2, x_storeI_3, x_storeI_4, x_loadI_4, y_ic_ge_t, y_ic_ge_f, b_X6_annex_25, x_loadR_0, x_loadS_0, f_6_3, x_imul, x_iadd, x_dup2, y_iald_40, y_iast_40, x_storeI_5, x_isub, x_loadI_2, y_ic_eq_t, y_ic_eq_f, b_X6_annex_71, x_loadI_5, x_loadI_3, y_ic_le_t, y_ic_le_f, b_X6_annex_77, x_goto, b_X6_annex_81, b_X6_annex_82, x_storeI_6, x_loadI_6, y_if_eq_t, y_if_eq_f, b_X6_annex_89, b_X6_annex_94, b_X6_annex_95, b_X6_annex_101, b_X6_annex_106, b_X6_annex_107, x_iinc_4, b_X6_annex_114, b_X6_annex_118, b_X6_annex_122, b_X6_annex_123, q_isL_I, q_isL_R, q_isL_S, true_and, and_true, and_self, List.length_nil, List.length_cons, Nat.zero_add, x_K, x_Kn, Int.reduceToNat, Nat.reduceAdd, Nat.reduceMul, Nat.reduceLeDiff, Nat.reduceLT, Nat.zero_le, Int.reduceAdd, Int.reduceSub, Int.reduceMul, Int.reduceNeg, q_add_e, q_sub_e, q_mul_e, q_neg_e, q_upd_s, q_upd_n, zr_shr0, zr_shr1, zr_shr2, zr_shr3, zr_shr4, zr_and, zr_dyn8, zr_or, zr_shl, q_cpy_n, y_cpy26, c_X6_in, mp_in, c1, if_false]
    exact q_ans (hq M q_mq_rf) (E_annex_n c1).symm
theorem mz_annex {Vt : Nat → Nat → (Nat → Int) → Int} {d tm : Nat} {g : q_G} {M : q_M} {wt : Int} {Q : Option q_V → q_G → q_M → Prop} (hI : q_MI Vt tm M) (iv : q_ivS (mW M)) (hq : ∀ M2 : q_M, q_mq M M2 → Q (some (qI (E_annex (q_Vr Vt M) (mW M) wt))) g M2) : q_S 1 (d + 11) 175 [qR 6 100, qI wt] g M Q :=
  mp_annexE (d := d + 5) (q_MI_mi hI).1 hI.2.2.1 iv hq
