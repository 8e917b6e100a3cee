/-! THE MODEL: calls that change the world, just so -/
/-- two things that a run comes to -/
theorem q_S_and {md d id : Nat} {as : List q_V} {g : q_G} {M : q_M} {Q1 Q2 : Option q_V → q_G → q_M → Prop} (h1 : q_S md d id as g M Q1) (h2 : q_S md d id as g M Q2) : q_S md d id as g M (fun v g M => Q1 v g M ∧ Q2 v g M) := by
  obtain ⟨f, r, e1, q1⟩ := h1
  obtain ⟨f2, r2, e2, q2⟩ := h2
  have z1 := q_run_le e1 (Nat.le_max_left f f2)
  have z2 := q_run_le e2 (Nat.le_max_right f f2)
  rw [z1] at z2
  injection z2 with z2
  subst z2
  exact ⟨_, r, z1, q1, q2⟩
/-- what is known of the model's call, and what it answers -/
theorem q_S_mi {Vt : Nat → Nat → (Nat → Int) → Int} {d tm id : Nat} {as : List q_V} {g : q_G} {M : q_M} {Q Q2 : Option q_V → q_G → q_M → Prop} (h1 : q_S 1 d id as g M (fun v _ M2 => (∃ vi, v = some (qI vi)) ∧ q_MI Vt tm M2 ∧ q_mfr M M2)) (h2 : q_S 1 d id as g M Q2) (hq : ∀ v g M2, Q2 v g M2 → q_MI Vt tm M2 → q_mfr M M2 → Q v g M2) : q_S 1 d id as g M Q :=
  q_S_mono (q_S_and h1 h2) (fun v g M2 z => hq v g M2 z.2 z.1.2.1 z.1.2.2)
def F_bd (S : q_M) (b : Nat) (w v : Int) : q_M := if w = 0 then F_move S b v else if w = 1 then q_upd S 6 b v else if w = 2 then q_upd S 7 b v else q_upd S 8 b v
def m_mv (M : q_M) (b : Nat) (v : Int) (k : Nat) : q_M := fun a i => if a = 104 ∧ i % 3 = 0 ∧ i / 3 < k ∧ M 104 (i + 2) = b then v else q_upd M 103 (4 * b) v a i
theorem m_mv_n {M : q_M} {b a i k : Nat} {v : Int} (h : a ≠ 103 ∨ i ≠ 4 * b) (h2 : a ≠ 104 ∨ i % 3 ≠ 0) : m_mv M b v k a i = M a i := by
  unfold m_mv
  rw [if_neg (by omega), q_upd_n (by omega)]
theorem mW_mv {M : q_M} {b : Nat} {v : Int} (hb : b < 5) (h5 : M 100 0 ≤ 5) (hin : ∀ i, i < 5 → -1 ≤ M 104 (3 * i + 2) ∧ M 104 (3 * i + 2) ≤ 4) : mW (m_mv M b v (M 100 0).toNat) = F_move (mW M) b v := by
  have e0 : ∀ i, m_mv M b v (M 100 0).toNat 100 i = M 100 i := fun i => m_mv_n (by omega) (by omega)
  have e1 : ∀ i, m_mv M b v (M 100 0).toNat 101 i = M 101 i := fun i => m_mv_n (by omega) (by omega)
  have e2 : ∀ i, m_mv M b v (M 100 0).toNat 102 i = M 102 i := fun i => m_mv_n (by omega) (by omega)
  have e31 : ∀ i, m_mv M b v (M 100 0).toNat 104 (3 * i + 1) = M 104 (3 * i + 1) := fun i => m_mv_n (by omega) (by omega)
  have e32 : ∀ i, m_mv M b v (M 100 0).toNat 104 (3 * i + 2) = M 104 (3 * i + 2) := fun i => m_mv_n (by omega) (by omega)
  have e41 : ∀ i, m_mv M b v (M 100 0).toNat 103 (4 * i + 1) = M 103 (4 * i + 1) := fun i => m_mv_n (by omega) (by omega)
  have e42 : ∀ i, m_mv M b v (M 100 0).toNat 103 (4 * i + 2) = M 103 (4 * i + 2) := fun i => m_mv_n (by omega) (by omega)
  have e43 : ∀ i, m_mv M b v (M 100 0).toNat 103 (4 * i + 3) = M 103 (4 * i + 3) := fun i => m_mv_n (by omega) (by omega)
  have eI : mIn (m_mv M b v (M 100 0).toNat) = mIn M := by
    funext i
    unfold mIn
    rw [e32]
  have en : F_n (mW M) = (M 100 0).toNat := rfl
  funext f i
  unfold F_move
  by_cases f2 : f = 2
  · subst f2
    show (if i < (m_mv M b v (M 100 0).toNat 100 0).toNat then m_mv M b v (M 100 0).toNat 104 (3 * i) else 0) = _
    rw [e0, en]
    by_cases c : i < (M 100 0).toNat
    · rw [if_pos c, mW_4 c, q_upd_n (by omega), mW_2 c]
      have hi := hin i (by omega)
      have e : (mIn M i = (b : Int)) ↔ (M 104 (3 * i + 2) = b) := by
        unfold mIn
        split <;> omega
      unfold m_mv
      by_cases c2 : M 104 (3 * i + 2) = b
      · rw [if_pos ⟨rfl, by omega, by omega, c2⟩, if_pos ⟨rfl, c, e.mpr c2⟩]
      · rw [if_neg (fun z => c2 z.2.2.2), if_neg (fun z => c2 (e.mp z.2.2)), q_upd_n (by omega)]
    · rw [if_neg c, if_neg (fun z => c z.2.1), q_upd_n (by omega)]
      exact (if_neg c).symm
  · rw [if_neg (fun z => f2 z.1)]
    by_cases f5 : f = 5
    · subst f5
      show (if i < 5 then m_mv M b v (M 100 0).toNat 103 (4 * i) else 0) = _
      by_cases c : i = b
      · subst c
        rw [if_pos hb, q_upd_s]
        unfold m_mv
        rw [if_neg (by omega), q_upd_s]
      · rw [q_upd_n (by omega)]
        show _ = (if i < 5 then M 103 (4 * i) else 0)
        rw [m_mv_n (by omega) (by omega)]
    · rw [q_upd_n (by omega)]
      unfold mW
      split <;> first | exact absurd rfl f2 | exact absurd rfl f5 | simp only [e0, e1, e2, e31, e41, e42, e43, eI]
def B_bdC (S : q_M) (b w v : Int) : Int := if ¬(0 ≤ b ∧ b ≤ 4) then -5 else if ¬(0 ≤ w ∧ w ≤ 3) ∨ ¬((if w = 1 then F_cnt (S 4) b (F_n S) else 0) ≤ v ∧ v ≤ (if w = 1 then 5 else 99)) then -7 else F_site S b.toNat w
def B_bdk (S : q_M) (b w v : Int) : Prop := (0 ≤ b ∧ b ≤ 4) ∧ (0 ≤ w ∧ w ≤ 3) ∧ ((if w = 1 then F_cnt (S 4) b (F_n S) else 0) ≤ v ∧ v ≤ (if w = 1 then 5 else 99))
set_option maxHeartbeats 4000000 in
theorem mx_build {d tm : Nat} {Vt : Nat → Nat → (Nat → Int) → Int} {g : q_G} {M : q_M} {b w v : Int} {Q : Option q_V → q_G → q_M → Prop} (hI : q_MI Vt tm M) (hq0 : ¬B_bdk (mW M) b w v → Q (some (qI (B_bdC (mW M) b w v))) g M) (hq1 : B_bdk (mW M) b w v → ∀ M2 : q_M, mW M2 = F_bd (mW M) b.toNat w v → (∀ a i, a ≠ 103 → a ≠ 104 → M2 a i = M a i) → Q (some (qI (B_bdC (mW M) b w v))) g M2) : q_S 1 (d + 10) 119 [qR 6 100, qI b, qI w, qI v] g M Q := by
  have n0 := hI.1.1
  have hin := hI.1.2.2.2.2.2.2.1
  have ec : ∀ B : Nat, F_cnt (mW M 4) B (F_n (mW M)) = F_cnt (mIn M) B (M 100 0).toNat := fun B => F_cnt_cong _ (fun k hk => mW_4 hk)
  rw [s_X6_build]
  have n0a := n0.1
  have n0b := n0.2
  by_cases c1 : 0 ≤ b ∧ b ≤ 4
  · obtain ⟨B, rfl⟩ : ∃ B : Nat, b = B := ⟨b.toNat, by omega⟩
    have hB : B < 5 := by omega
    unfold B_bdC at hq0 hq1
    rw [if_neg (show ¬¬(0 ≤ (B : Int) ∧ (B : Int) ≤ 4) from fun z => z c1)] at hq0 hq1
    unfold B_bdk at hq0 hq1
    rw [ec] at hq0 hq1
    rw [Int.toNat_natCast] at hq0 hq1
    have e := F_ones_bits (f := mIn M) (b := B) (M 100 0).toNat (by omega)
    have hcl := F_cnt_le (mIn M) B (M 100 0).toNat
    generalize hcn : F_cnt (mIn M) B (M 100 0).toNat = cn at *
    have done : ∀ (W : Nat) (l4 : Int), w = W → W ≤ 3 → ((if w = 1 then cn else 0) ≤ v ∧ v ≤ (if w = 1 then 5 else 99)) → q_T 1 (d + 10) qP_X6_build 61 [] [qR 6 100, qI B, qI w, qI v, qI l4, qS 0, qS 0] [] g M Q := by
      intro W l4 hW h3 hv
      have t4 : (4 * (B : Int) + w).toNat = 4 * B + W := by omega
      have hk := hq1 ⟨c1, by omega, hv⟩
      rw [if_neg (show ¬(¬(0 ≤ w ∧ w ≤ 3) ∨ ¬((if w = 1 then cn else 0) ≤ v ∧ v ≤ (if w = 1 then 5 else 99))) from fun z => z.elim (fun z => z (by omega)) (fun z => z hv))] at hk
      rw [b_X6_build_61]
      simp (disch := omega) only [b_X6_build_0, x_loadI_1, y_if_ne_t, y_if_ne_f, b_X6_build_7, x_iconst, x_ret0, b_X6_build_10, x_loadI_2, y_ic_ne_t, y_ic_ne_f, b_X6_build_15, x_loadR_0, x_loadS_0, x_goto, b_X6_build_26, b_X6_build_27, x_storeI_4, y_if_eq_t, y_if_eq_f, b_X6_build_38, x_loadI_3, x_loadI_4, b_X6_build_46, b_X6_build_50, b_X6_build_52, b_X6_build_58, b_X6_build_61, f_6_3, x_imul, x_iadd, y_iald_35, y_iald_40, x_storeI_5, y_iast_35, y_iast_40, x_storeI_6, x_loadI_6, f_6_0, y_ic_ge_t, y_ic_ge_f, b_X6_build_96, b_X6_build_100, f_6_4, b_X6_build_115, b_X6_build_125, x_iinc_6, b_X6_build_131, x_loadI_5, q_isL_I, q_isL_R, q_isL_S, true_and, and_true, and_self, List.length_nil, List.length_cons, Nat.zero_add, x_K, x_Kn, Int.reduceToNat, Nat.reduceAdd, Nat.reduceMul, Nat.reduceLeDiff, Nat.reduceLT, Nat.zero_le, Int.reduceAdd, Int.reduceSub, Int.reduceMul, Int.reduceNeg, q_add_e, q_sub_e, q_mul_e, q_neg_e, q_upd_s, q_upd_n, zr_shr0, zr_shr1, zr_shr2, zr_shr3, zr_shr4, zr_and, zr_dyn8, zr_or, zr_shl, q_cpy_n, y_cpy26, t4]
      have fin : ∀ M2 : q_M, mW M2 = F_bd (mW M) B w v → (∀ a i, a ≠ 103 → a ≠ 104 → M2 a i = M a i) → Q (some (qI (M 103 (4 * B + W)))) g M2 := by
        intro M2 h1 h2
        have es : F_site (mW M) B w = M 103 (4 * B + W) := by
          unfold F_site
          rcases (show W = 0 ∨ W = 1 ∨ W = 2 ∨ W = 3 by omega) with e | e | e | e
          · rw [if_pos (by omega), mW_5 hB, e]; rfl
          · rw [if_neg (by omega), if_pos (by omega), mW_6 hB, e]
          · rw [if_neg (by omega), if_neg (by omega), if_pos (by omega), mW_7 hB, e]
          · rw [if_neg (by omega), if_neg (by omega), if_neg (by omega), if_pos (by omega), mW_8 hB, e]
        rw [← es]
        exact hk M2 h1 h2
      by_cases k0 : w = 0
      · have eW : W = 0 := by omega
        subst eW
        have loop : ∀ j p : Nat, p + j = (M 100 0).toNat → ∀ l4 : Int, q_T 1 (d + 10) qP_X6_build 87 [] [qR 6 100, qI B, qI w, qI v, qI l4, qI (M 103 (4 * B + 0)), qI p] [] g (m_mv M B v p) Q := by
          intro j
          induction j with
          | zero =>
            intro p hp l4
            have ep : p = (M 100 0).toNat := by omega
            have e0 : m_mv M B v p 100 0 = M 100 0 := m_mv_n (by omega) (by omega)
            rw [b_X6_build_87]
            simp (disch := omega) only [b_X6_build_0, x_loadI_1, y_if_ne_t, y_if_ne_f, b_X6_build_7, x_iconst, x_ret0, b_X6_build_10, x_loadI_2, y_ic_ne_t, y_ic_ne_f, b_X6_build_15, x_loadR_0, x_loadS_0, x_goto, b_X6_build_26, b_X6_build_27, x_storeI_4, y_if_eq_t, y_if_eq_f, b_X6_build_38, x_loadI_3, x_loadI_4, b_X6_build_46, b_X6_build_50, b_X6_build_52, b_X6_build_58, b_X6_build_61, f_6_3, x_imul, x_iadd, y_iald_35, y_iald_40, x_storeI_5, y_iast_35, y_iast_40, x_storeI_6, x_loadI_6, f_6_0, y_ic_ge_t, y_ic_ge_f, b_X6_build_96, b_X6_build_100, f_6_4, b_X6_build_115, b_X6_build_125, x_iinc_6, b_X6_build_131, x_loadI_5, q_isL_I, q_isL_R, q_isL_S, true_and, and_true, and_self, List.length_nil, List.length_cons, Nat.zero_add, x_K, x_Kn, Int.reduceToNat, Nat.reduceAdd, Nat.reduceMul, Nat.reduceLeDiff, Nat.reduceLT, Nat.zero_le, Int.reduceAdd, Int.reduceSub, Int.reduceMul, Int.reduceNeg, q_add_e, q_sub_e, q_mul_e, q_neg_e, q_upd_s, q_upd_n, zr_shr0, zr_shr1, zr_shr2, zr_shr3, zr_shr4, zr_and, zr_dyn8, zr_or, zr_shl, q_cpy_n, y_cpy26, e0]
            rw [ep]
            exact fin _ (by rw [mW_mv hB n0b hin]; unfold F_bd; rw [if_pos k0]) (fun a i h1 h2 => m_mv_n (by omega) (by omega))
          | succ j ih =>
            intro p hp l4
            have e0 : m_mv M B v p 100 0 = M 100 0 := m_mv_n (by omega) (by omega)
            have e2 : m_mv M B v p 104 (3 * p + 2) = M 104 (3 * p + 2) := m_mv_n (by omega) (by omega)
            have nxt := ih (p + 1) (by omega)
            rw [b_X6_build_87]
            by_cases k1 : M 104 (3 * p + 2) = B
            · have eM : q_upd (m_mv M B v p) 104 (3 * p) v = m_mv M B v (p + 1) := by
                funext a i
                by_cases z : a = 104 ∧ i = 3 * p
                · obtain ⟨rfl, rfl⟩ := z
                  rw [q_upd_s]
                  unfold m_mv
                  rw [if_pos ⟨rfl, by omega, by omega, k1⟩]
                · rw [q_upd_n (by omega)]
                  unfold m_mv
                  by_cases y : a = 104 ∧ i % 3 = 0 ∧ i / 3 < p ∧ M 104 (i + 2) = B
                  · rw [if_pos y, if_pos ⟨y.1, y.2.1, by omega, y.2.2.2⟩]
                  · rw [if_neg y, if_neg (fun x => y ⟨x.1, x.2.1, by omega, x.2.2.2⟩)]
              simp (disch := omega) only [b_X6_build_0, x_loadI_1, y_if_ne_t, y_if_ne_f, b_X6_build_7, x_iconst, x_ret0, b_X6_build_10, x_loadI_2, y_ic_ne_t, y_ic_ne_f, b_X6_build_15, x_loadR_0, x_loadS_0, x_goto, b_X6_build_26, b_X6_build_27, x_storeI_4, y_if_eq_t, y_if_eq_f, b_X6_build_38, x_loadI_3, x_loadI_4, b_X6_build_46, b_X6_build_50, b_X6_build_52, b_X6_build_58, b_X6_build_61, f_6_3, x_imul, x_iadd, y_iald_35, y_iald_40, x_storeI_5, y_iast_35, y_iast_40, x_storeI_6, x_loadI_6, f_6_0, y_ic_ge_t, y_ic_ge_f, b_X6_build_96, b_X6_build_100, f_6_4, b_X6_build_115, b_X6_build_125, x_iinc_6, b_X6_build_131, x_loadI_5, q_isL_I, q_isL_R, q_isL_S, true_and, and_true, and_self, List.length_nil, List.length_cons, Nat.zero_add, x_K, x_Kn, Int.reduceToNat, Nat.reduceAdd, Nat.reduceMul, Nat.reduceLeDiff, Nat.reduceLT, Nat.zero_le, Int.reduceAdd, Int.reduceSub, Int.reduceMul, Int.reduceNeg, q_add_e, q_sub_e, q_mul_e, q_neg_e, q_upd_s, q_upd_n, zr_shr0, zr_shr1, zr_shr2, zr_shr3, zr_shr4, zr_and, zr_dyn8, zr_or, zr_shl, q_cpy_n, y_cpy26, tn_30, tn_32, e0, e2]
              rw [eM]
              exact nxt _
            · have eM : m_mv M B v p = m_mv M B v (p + 1) := by
                funext a i
                unfold m_mv
                by_cases y : a = 104 ∧ i % 3 = 0 ∧ i / 3 < p ∧ M 104 (i + 2) = B
                · rw [if_pos y, if_pos ⟨y.1, y.2.1, by omega, y.2.2.2⟩]
                · rw [if_neg y, if_neg (fun x => y ⟨x.1, x.2.1, by
                    have x2 := x.2.2.1
                    by_cases q : i / 3 = p
                    · exfalso
                      have qi : i = 3 * p := by omega
                      rw [qi] at x
                      exact k1 x.2.2.2
                    · omega, x.2.2.2⟩)]
              simp (disch := omega) only [b_X6_build_0, x_loadI_1, y_if_ne_t, y_if_ne_f, b_X6_build_7, x_iconst, x_ret0, b_X6_build_10, x_loadI_2, y_ic_ne_t, y_ic_ne_f, b_X6_build_15, x_loadR_0, x_loadS_0, x_goto, b_X6_build_26, b_X6_build_27, x_storeI_4, y_if_eq_t, y_if_eq_f, b_X6_build_38, x_loadI_3, x_loadI_4, b_X6_build_46, b_X6_build_50, b_X6_build_52, b_X6_build_58, b_X6_build_61, f_6_3, x_imul, x_iadd, y_iald_35, y_iald_40, x_storeI_5, y_iast_35, y_iast_40, x_storeI_6, x_loadI_6, f_6_0, y_ic_ge_t, y_ic_ge_f, b_X6_build_96, b_X6_build_100, f_6_4, b_X6_build_115, b_X6_build_125, x_iinc_6, b_X6_build_131, x_loadI_5, q_isL_I, q_isL_R, q_isL_S, true_and, and_true, and_self, List.length_nil, List.length_cons, Nat.zero_add, x_K, x_Kn, Int.reduceToNat, Nat.reduceAdd, Nat.reduceMul, Nat.reduceLeDiff, Nat.reduceLT, Nat.zero_le, Int.reduceAdd, Int.reduceSub, Int.reduceMul, Int.reduceNeg, q_add_e, q_sub_e, q_mul_e, q_neg_e, q_upd_s, q_upd_n, zr_shr0, zr_shr1, zr_shr2, zr_shr3, zr_shr4, zr_and, zr_dyn8, zr_or, zr_shl, q_cpy_n, y_cpy26, tn_30, tn_32, e0, e2]
              rw [eM]
              exact nxt _
        have l0 := loop (M 100 0).toNat 0 (by omega) l4
        have eM0 : m_mv M B v 0 = q_upd M 103 (4 * B + 0) v := by
          funext a i
          unfold m_mv
          rw [if_neg (by omega), Nat.add_zero]
        rw [eM0] at l0
        exact l0
      · rw [b_X6_build_87]
        have fr : ∀ a i, a ≠ 103 → a ≠ 104 → q_upd M 103 (4 * B + W) v a i = M a i := fun a i h1 h2 => q_upd_n (by omega)
        have eM : mW (q_upd M 103 (4 * B + W) v) = F_bd (mW M) B w v := by
          unfold F_bd
          rcases (show W = 1 ∨ W = 2 ∨ W = 3 by omega) with e | e | e
          · rw [if_neg k0, if_pos (by omega), e, mW_up6 hB]
          · rw [if_neg k0, if_neg (by omega), if_pos (by omega), e, mW_up7 hB]
          · rw [if_neg k0, if_neg (by omega), if_neg (by omega), e, mW_up8 hB]
        by_cases z : M 100 0 = 0
        · simp (disch := omega) only [b_X6_build_0, x_loadI_1, y_if_ne_t, y_if_ne_f, b_X6_build_7, x_iconst, x_ret0, b_X6_build_10, x_loadI_2, y_ic_ne_t, y_ic_ne_f, b_X6_build_15, x_loadR_0, x_loadS_0, x_goto, b_X6_build_26, b_X6_build_27, x_storeI_4, y_if_eq_t, y_if_eq_f, b_X6_build_38, x_loadI_3, x_loadI_4, b_X6_build_46, b_X6_build_50, b_X6_build_52, b_X6_build_58, b_X6_build_61, f_6_3, x_imul, x_iadd, y_iald_35, y_iald_40, x_storeI_5, y_iast_35, y_iast_40, x_storeI_6, x_loadI_6, f_6_0, y_ic_ge_t, y_ic_ge_f, b_X6_build_96, b_X6_build_100, f_6_4, b_X6_build_115, b_X6_build_125, x_iinc_6, b_X6_build_131, x_loadI_5, q_isL_I, q_isL_R, q_isL_S, true_and, and_true, and_self, List.length_nil, List.length_cons, Nat.zero_add, x_K, x_Kn, Int.reduceToNat, Nat.reduceAdd, Nat.reduceMul, Nat.reduceLeDiff, Nat.reduceLT, Nat.zero_le, Int.reduceAdd, Int.reduceSub, Int.reduceMul, Int.reduceNeg, q_add_e, q_sub_e, q_mul_e, q_neg_e, q_upd_s, q_upd_n, zr_shr0, zr_shr1, zr_shr2, zr_shr3, zr_shr4, zr_and, zr_dyn8, zr_or, zr_shl, q_cpy_n, y_cpy26]
          exact fin _ eM fr
        · simp (disch := omega) only [b_X6_build_0, x_loadI_1, y_if_ne_t, y_if_ne_f, b_X6_build_7, x_iconst, x_ret0, b_X6_build_10, x_loadI_2, y_ic_ne_t, y_ic_ne_f, b_X6_build_15, x_loadR_0, x_loadS_0, x_goto, b_X6_build_26, b_X6_build_27, x_storeI_4, y_if_eq_t, y_if_eq_f, b_X6_build_38, x_loadI_3, x_loadI_4, b_X6_build_46, b_X6_build_50, b_X6_build_52, b_X6_build_58, b_X6_build_61, f_6_3, x_imul, x_iadd, y_iald_35, y_iald_40, x_storeI_5, y_iast_35, y_iast_40, x_storeI_6, x_loadI_6, f_6_0, y_ic_ge_t, y_ic_ge_f, b_X6_build_96, b_X6_build_100, f_6_4, b_X6_build_115, b_X6_build_125, x_iinc_6, b_X6_build_131, x_loadI_5, q_isL_I, q_isL_R, q_isL_S, true_and, and_true, and_self, List.length_nil, List.length_cons, Nat.zero_add, x_K, x_Kn, Int.reduceToNat, Nat.reduceAdd, Nat.reduceMul, Nat.reduceLeDiff, Nat.reduceLT, Nat.zero_le, Int.reduceAdd, Int.reduceSub, Int.reduceMul, Int.reduceNeg, q_add_e, q_sub_e, q_mul_e, q_neg_e, q_upd_s, q_upd_n, zr_shr0, zr_shr1, zr_shr2, zr_shr3, zr_shr4, zr_and, zr_dyn8, zr_or, zr_shl, q_cpy_n, y_cpy26]
          exact fin _ eM fr
    by_cases k1 : w = 1
    · subst k1
      by_cases c2 : cn ≤ v ∧ v ≤ 5
      · have dn := done 1 cn rfl (by omega) (by rw [if_pos rfl, if_pos rfl]; exact c2)
        simp (disch := omega) only [b_X6_build_0, x_loadI_1, y_if_ne_t, y_if_ne_f, b_X6_build_7, x_iconst, x_ret0, b_X6_build_10, x_loadI_2, y_ic_ne_t, y_ic_ne_f, b_X6_build_15, x_loadR_0, x_loadS_0, x_goto, b_X6_build_26, b_X6_build_27, x_storeI_4, y_if_eq_t, y_if_eq_f, b_X6_build_38, x_loadI_3, x_loadI_4, b_X6_build_46, b_X6_build_50, b_X6_build_52, b_X6_build_58, f_6_3, x_imul, x_iadd, y_iald_35, y_iald_40, x_storeI_5, y_iast_35, y_iast_40, x_storeI_6, x_loadI_6, f_6_0, y_ic_ge_t, y_ic_ge_f, b_X6_build_96, b_X6_build_100, f_6_4, b_X6_build_115, b_X6_build_125, x_iinc_6, b_X6_build_131, x_loadI_5, q_isL_I, q_isL_R, q_isL_S, true_and, and_true, and_self, List.length_nil, List.length_cons, Nat.zero_add, x_K, x_Kn, Int.reduceToNat, Nat.reduceAdd, Nat.reduceMul, Nat.reduceLeDiff, Nat.reduceLT, Nat.zero_le, Int.reduceAdd, Int.reduceSub, Int.reduceMul, Int.reduceNeg, q_add_e, q_sub_e, q_mul_e, q_neg_e, q_upd_s, q_upd_n, zr_shr0, zr_shr1, zr_shr2, zr_shr3, zr_shr4, zr_and, zr_dyn8, zr_or, zr_shl, q_cpy_n, y_cpy26, c_X6_isSite, mp_isSite, c1, c_X6_whoIn, mp_whoIn, c_X6_onesOf, mp_onesOf, e, c_X6_in, mp_in, c2, and_self, if_true, Int.reduceLE]
        exact dn
      · have h := hq0 (fun z => c2 (by have := z.2.2; rw [if_pos rfl, if_pos rfl] at this; exact this))
        rw [if_pos (Or.inr (fun z => c2 (by rw [if_pos rfl, if_pos rfl] at z; exact z)))] at h
        simp (disch := omega) only [b_X6_build_0, x_loadI_1, y_if_ne_t, y_if_ne_f, b_X6_build_7, x_iconst, x_ret0, b_X6_build_10, x_loadI_2, y_ic_ne_t, y_ic_ne_f, b_X6_build_15, x_loadR_0, x_loadS_0, x_goto, b_X6_build_26, b_X6_build_27, x_storeI_4, y_if_eq_t, y_if_eq_f, b_X6_build_38, x_loadI_3, x_loadI_4, b_X6_build_46, b_X6_build_50, b_X6_build_52, b_X6_build_58, f_6_3, x_imul, x_iadd, y_iald_35, y_iald_40, x_storeI_5, y_iast_35, y_iast_40, x_storeI_6, x_loadI_6, f_6_0, y_ic_ge_t, y_ic_ge_f, b_X6_build_96, b_X6_build_100, f_6_4, b_X6_build_115, b_X6_build_125, x_iinc_6, b_X6_build_131, x_loadI_5, q_isL_I, q_isL_R, q_isL_S, true_and, and_true, and_self, List.length_nil, List.length_cons, Nat.zero_add, x_K, x_Kn, Int.reduceToNat, Nat.reduceAdd, Nat.reduceMul, Nat.reduceLeDiff, Nat.reduceLT, Nat.zero_le, Int.reduceAdd, Int.reduceSub, Int.reduceMul, Int.reduceNeg, q_add_e, q_sub_e, q_mul_e, q_neg_e, q_upd_s, q_upd_n, zr_shr0, zr_shr1, zr_shr2, zr_shr3, zr_shr4, zr_and, zr_dyn8, zr_or, zr_shl, q_cpy_n, y_cpy26, c_X6_isSite, mp_isSite, c1, c_X6_whoIn, mp_whoIn, c_X6_onesOf, mp_onesOf, e, c_X6_in, mp_in, c2, and_self, if_true, Int.reduceLE, if_false]
        exact h
    · have e0 : (if w = 1 then cn else 0) = 0 := if_neg k1
      have e9 : (if w = 1 then (5 : Int) else 99) = 99 := if_neg k1
      by_cases k2 : 0 ≤ w ∧ w ≤ 3
      · by_cases c2 : 0 ≤ v ∧ v ≤ 99
        · have dn := done w.toNat 0 (by omega) (by omega) (by rw [e0, e9]; exact c2)
          simp (disch := omega) only [b_X6_build_0, x_loadI_1, y_if_ne_t, y_if_ne_f, b_X6_build_7, x_iconst, x_ret0, b_X6_build_10, x_loadI_2, y_ic_ne_t, y_ic_ne_f, b_X6_build_15, x_loadR_0, x_loadS_0, x_goto, b_X6_build_26, b_X6_build_27, x_storeI_4, y_if_eq_t, y_if_eq_f, b_X6_build_38, x_loadI_3, x_loadI_4, b_X6_build_46, b_X6_build_50, b_X6_build_52, b_X6_build_58, f_6_3, x_imul, x_iadd, y_iald_35, y_iald_40, x_storeI_5, y_iast_35, y_iast_40, x_storeI_6, x_loadI_6, f_6_0, y_ic_ge_t, y_ic_ge_f, b_X6_build_96, b_X6_build_100, f_6_4, b_X6_build_115, b_X6_build_125, x_iinc_6, b_X6_build_131, x_loadI_5, q_isL_I, q_isL_R, q_isL_S, true_and, and_true, and_self, List.length_nil, List.length_cons, Nat.zero_add, x_K, x_Kn, Int.reduceToNat, Nat.reduceAdd, Nat.reduceMul, Nat.reduceLeDiff, Nat.reduceLT, Nat.zero_le, Int.reduceAdd, Int.reduceSub, Int.reduceMul, Int.reduceNeg, q_add_e, q_sub_e, q_mul_e, q_neg_e, q_upd_s, q_upd_n, zr_shr0, zr_shr1, zr_shr2, zr_shr3, zr_shr4, zr_and, zr_dyn8, zr_or, zr_shl, q_cpy_n, y_cpy26, c_X6_isSite, mp_isSite, c1, c_X6_in, mp_in, k2, c2, and_self, if_true]
          exact dn
        · have h := hq0 (fun z => c2 (by have := z.2.2; rw [e0, e9] at this; exact this))
          rw [if_pos (Or.inr (fun z => c2 (by rw [e0, e9] at z; exact z)))] at h
          simp (disch := omega) only [b_X6_build_0, x_loadI_1, y_if_ne_t, y_if_ne_f, b_X6_build_7, x_iconst, x_ret0, b_X6_build_10, x_loadI_2, y_ic_ne_t, y_ic_ne_f, b_X6_build_15, x_loadR_0, x_loadS_0, x_goto, b_X6_build_26, b_X6_build_27, x_storeI_4, y_if_eq_t, y_if_eq_f, b_X6_build_38, x_loadI_3, x_loadI_4, b_X6_build_46, b_X6_build_50, b_X6_build_52, b_X6_build_58, f_6_3, x_imul, x_iadd, y_iald_35, y_iald_40, x_storeI_5, y_iast_35, y_iast_40, x_storeI_6, x_loadI_6, f_6_0, y_ic_ge_t, y_ic_ge_f, b_X6_build_96, b_X6_build_100, f_6_4, b_X6_build_115, b_X6_build_125, x_iinc_6, b_X6_build_131, x_loadI_5, q_isL_I, q_isL_R, q_isL_S, true_and, and_true, and_self, List.length_nil, List.length_cons, Nat.zero_add, x_K, x_Kn, Int.reduceToNat, Nat.reduceAdd, Nat.reduceMul, Nat.reduceLeDiff, Nat.reduceLT, Nat.zero_le, Int.reduceAdd, Int.reduceSub, Int.reduceMul, Int.reduceNeg, q_add_e, q_sub_e, q_mul_e, q_neg_e, q_upd_s, q_upd_n, zr_shr0, zr_shr1, zr_shr2, zr_shr3, zr_shr4, zr_and, zr_dyn8, zr_or, zr_shl, q_cpy_n, y_cpy26, c_X6_isSite, mp_isSite, c1, c_X6_in, mp_in, k2, c2, and_self, if_true, if_false]
          exact h
      · have h := hq0 (fun z => k2 z.2.1)
        rw [if_pos (Or.inl k2)] at h
        simp (disch := omega) only [b_X6_build_0, x_loadI_1, y_if_ne_t, y_if_ne_f, b_X6_build_7, x_iconst, x_ret0, b_X6_build_10, x_loadI_2, y_ic_ne_t, y_ic_ne_f, b_X6_build_15, x_loadR_0, x_loadS_0, x_goto, b_X6_build_26, b_X6_build_27, x_storeI_4, y_if_eq_t, y_if_eq_f, b_X6_build_38, x_loadI_3, x_loadI_4, b_X6_build_46, b_X6_build_50, b_X6_build_52, b_X6_build_58, f_6_3, x_imul, x_iadd, y_iald_35, y_iald_40, x_storeI_5, y_iast_35, y_iast_40, x_storeI_6, x_loadI_6, f_6_0, y_ic_ge_t, y_ic_ge_f, b_X6_build_96, b_X6_build_100, f_6_4, b_X6_build_115, b_X6_build_125, x_iinc_6, b_X6_build_131, x_loadI_5, q_isL_I, q_isL_R, q_isL_S, true_and, and_true, and_self, List.length_nil, List.length_cons, Nat.zero_add, x_K, x_Kn, Int.reduceToNat, Nat.reduceAdd, Nat.reduceMul, Nat.reduceLeDiff, Nat.reduceLT, Nat.zero_le, Int.reduceAdd, Int.reduceSub, Int.reduceMul, Int.reduceNeg, q_add_e, q_sub_e, q_mul_e, q_neg_e, q_upd_s, q_upd_n, zr_shr0, zr_shr1, zr_shr2, zr_shr3, zr_shr4, zr_and, zr_dyn8, zr_or, zr_shl, q_cpy_n, y_cpy26, c_X6_isSite, mp_isSite, c1, c_X6_in, mp_in, k2, and_self, if_true, if_false]
        exact h
  · have h := hq0 (fun z => c1 z.1)
    unfold B_bdC at h
    rw [if_pos c1] at h
    simp (disch := omega) only [b_X6_build_0, x_loadI_1, y_if_ne_t, y_if_ne_f, b_X6_build_7, x_iconst, x_ret0, b_X6_build_10, x_loadI_2, y_ic_ne_t, y_ic_ne_f, b_X6_build_15, x_loadR_0, x_loadS_0, x_goto, b_X6_build_26, b_X6_build_27, x_storeI_4, y_if_eq_t, y_if_eq_f, b_X6_build_38, x_loadI_3, x_loadI_4, b_X6_build_46, b_X6_build_50, b_X6_build_52, b_X6_build_58, b_X6_build_61, f_6_3, x_imul, x_iadd, y_iald_35, y_iald_40, x_storeI_5, y_iast_35, y_iast_40, x_storeI_6, x_loadI_6, f_6_0, y_ic_ge_t, y_ic_ge_f, b_X6_build_96, b_X6_build_100, f_6_4, b_X6_build_115, b_X6_build_125, x_iinc_6, b_X6_build_131, x_loadI_5, q_isL_I, q_isL_R, q_isL_S, true_and, and_true, and_self, List.length_nil, List.length_cons, Nat.zero_add, x_K, x_Kn, Int.reduceToNat, Nat.reduceAdd, Nat.reduceMul, Nat.reduceLeDiff, Nat.reduceLT, Nat.zero_le, Int.reduceAdd, Int.reduceSub, Int.reduceMul, Int.reduceNeg, q_add_e, q_sub_e, q_mul_e, q_neg_e, q_upd_s, q_upd_n, zr_shr0, zr_shr1, zr_shr2, zr_shr3, zr_shr4, zr_and, zr_dyn8, zr_or, zr_shl, q_cpy_n, y_cpy26, c_X6_isSite, mp_isSite, c1, if_false]
    exact h
theorem mW_add {M : q_M} {N : Nat} {km wh hv : Int} (hN : M 100 0 = N) : mW (q_upd (q_upd (q_upd (q_upd (q_upd (q_upd M 101 N (km / 10)) 102 N (km % 10)) 104 (3 * N) wh) 104 (3 * N + 1) hv) 104 (3 * N + 2) (-1)) 100 0 (N + 1)) = F_add (mW M) km wh hv := by
  have en : F_n (mW M) = N := by show (M 100 0).toNat = N; omega
  have e9 : mW M 9 0 = N := hN
  have tn : ((N : Int) + 1).toNat = N + 1 := by omega
  have tn2 : (N : Int).toNat = N := Int.toNat_natCast N
  unfold F_add
  rw [en, e9]
  funext f i
  rcases (show f = 0 ∨ f = 1 ∨ f = 2 ∨ f = 3 ∨ f = 4 ∨ f = 5 ∨ f = 6 ∨ f = 7 ∨ f = 8 ∨ f = 9 ∨ 10 ≤ f by omega) with e | e | e | e | e | e | e | e | e | e | e
  · subst e
    show (if i < (q_upd _ 100 0 _ 100 0).toNat then _ else 0) = _
    rw [q_upd_s, tn]
    by_cases c : i = N
    · subst c
      rw [if_pos (by omega)]
      simp (disch := omega) only [q_upd_n, q_upd_s]
    · simp (disch := omega) only [q_upd_n]
      show _ = (if i < (M 100 0).toNat then M 101 i else 0)
      rw [hN, tn2]
      by_cases k : i < N
      · rw [if_pos (by omega), if_pos k]
      · rw [if_neg (by omega), if_neg k]
  · subst e
    show (if i < (q_upd _ 100 0 _ 100 0).toNat then _ else 0) = _
    rw [q_upd_s, tn]
    by_cases c : i = N
    · subst c
      rw [if_pos (by omega)]
      simp (disch := omega) only [q_upd_n, q_upd_s]
    · simp (disch := omega) only [q_upd_n]
      show _ = (if i < (M 100 0).toNat then M 102 i else 0)
      rw [hN, tn2]
      by_cases k : i < N
      · rw [if_pos (by omega), if_pos k]
      · rw [if_neg (by omega), if_neg k]
  · subst e
    show (if i < (q_upd _ 100 0 _ 100 0).toNat then _ else 0) = _
    rw [q_upd_s, tn]
    by_cases c : i = N
    · subst c
      rw [if_pos (by omega)]
      simp (disch := omega) only [q_upd_n, q_upd_s]
    · simp (disch := omega) only [q_upd_n]
      show _ = (if i < (M 100 0).toNat then M 104 (3 * i) else 0)
      rw [hN, tn2]
      by_cases k : i < N
      · rw [if_pos (by omega), if_pos k]
      · rw [if_neg (by omega), if_neg k]
  · subst e
    show (if i < (q_upd _ 100 0 _ 100 0).toNat then _ else 0) = _
    rw [q_upd_s, tn]
    by_cases c : i = N
    · subst c
      rw [if_pos (by omega)]
      simp (disch := omega) only [q_upd_n, q_upd_s]
    · simp (disch := omega) only [q_upd_n]
      show _ = (if i < (M 100 0).toNat then M 104 (3 * i + 1) else 0)
      rw [hN, tn2]
      by_cases k : i < N
      · rw [if_pos (by omega), if_pos k]
      · rw [if_neg (by omega), if_neg k]
  · subst e
    show (if i < (q_upd _ 100 0 _ 100 0).toNat then mIn _ i else 0) = _
    rw [q_upd_s, tn]
    unfold mIn
    by_cases c : i = N
    · subst c
      rw [if_pos (by omega)]
      simp (disch := omega) only [q_upd_n, q_upd_s, if_true]
    · simp (disch := omega) only [q_upd_n]
      show _ = (if i < (M 100 0).toNat then mIn M i else 0)
      rw [hN, tn2]
      by_cases k : i < N
      · rw [if_pos (by omega), if_pos k]
        rfl
      · rw [if_neg (by omega), if_neg k]
  all_goals first
    | (subst e; simp (disch := omega) only [q_upd_n, mW]; done)
    | skip
  · subst e
    by_cases c : i = 0
    · subst c
      rw [q_upd_s, mW_90, q_upd_s]
    · simp (disch := omega) only [q_upd_n]
      show (if i = 0 then _ else if i = 1 then q_upd _ 100 0 _ 100 5 else 0) = (if i = 0 then M 100 0 else if i = 1 then M 100 5 else 0)
      rw [if_neg c, if_neg c]
      simp (disch := omega) only [q_upd_n]
  · simp (disch := omega) only [q_upd_n]
    unfold mW
    split <;> first | omega | rfl
