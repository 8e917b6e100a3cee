/-! THE MODEL'S READER: a text, just so -/
/-- what reading a text changes in the model -/
def q_txf (tm : Nat) (M M2 : q_M) : Prop := ∀ a i, (a = 106 → i < 200 * tm ∨ 200 * tm + 200 ≤ i) → (a = 107 → i < 4 * tm ∨ 4 * tm + 4 ≤ i) → (a = 100 → i ≠ 7 ∧ i ≠ 10 ∧ i ≠ 19 ∧ i ≠ 20 ∧ i ≠ 21 ∧ i ≠ 22 ∧ i ≠ 25 ∧ i ≠ 26 ∧ i ≠ 27) → a ≠ 115 → M2 a i = M a i
theorem q_txf_t {tm : Nat} {M M2 : q_M} (h : q_tfr tm M M2) : q_txf tm M M2 := fun a i q1 q2 q3 q4 => h a i q1 q2 (fun z => by have := q3 z; omega) q4
/-- the parts read so far, none deep -/
def q_tpx (tm i : Nat) (S : Nat → Nat) (M : q_M) : Prop := (∀ p, p < i → M 107 (4 * tm + p) = S p) ∧ M 100 27 = S i ∧ (∀ p, p < i → S (p + 1) ≤ S i) ∧ ∀ p, p < i → S p < S (p + 1) ∧ ∃ D, q_wfP (fun i => M 106 (200 * tm + i)) (S p) (S (p + 1)) D ∧ D (S (p + 1)) = 1 ∧ ∀ j, j ≤ S (p + 1) → D j ≤ 31
theorem q_tpx_nxf {tm i : Nat} {S : Nat → Nat} {M M2 : q_M} (h : q_tpx tm i S M) (hf : q_nxf M M2) : q_tpx tm i S M2 := ⟨fun p hp => (hf 107 _ (by omega)).trans (h.1 p hp), (hf 100 27 (by omega)).trans h.2.1, h.2.2.1, fun p hp => by
  obtain ⟨h1, D, h2, h3, h4⟩ := h.2.2.2 p hp
  exact ⟨h1, D, q_wfP_c h2 (fun j _ => hf 106 _ (by omega)), h3, h4⟩⟩
set_option maxHeartbeats 16000000 in
theorem mw_textX {Vt : Nat → Nat → (Nat → Int) → Int} {d tm n : Nat} {res : Option Nat} {O2 : List Int} {s2 : Nat → Nat} {g : q_G} {M : q_M} {Q : Option q_V → q_G → q_M → Prop} (hI : q_MI Vt tm M) (hwd : q_mwd M) (htm : tm < 6) (hn : M 100 7 = n) (hx : Y_tx (M 105) n 3 0 0 [] (fun _ => 0) res O2 s2)
    (hq0 : ∀ (f : Nat) (M2 : q_M), res = some f → q_MI Vt tm M2 → q_txf tm M M2 → M2 100 7 = 0 → M2 100 10 = tm → Q (some (qI (-100 - f))) g M2)
    (hq1 : ∀ M2 : q_M, res = none → q_MI (q_Vadd Vt tm (q_V1 (fun i => M2 106 (200 * tm + i)) (fun i => M2 107 (4 * tm + i)))) (tm + 1) M2 → q_txf tm M M2 → M2 100 7 = 0 → M2 100 10 = (tm : Int) + 1 → q_oL (fun i => M2 106 (200 * tm + i)) O2 → (∀ p, p < 4 → M2 107 (4 * tm + p) = s2 p) → (∀ p, p < 3 → s2 p < s2 (p + 1) ∧ s2 (p + 1) ≤ O2.length ∧ ∃ D, q_wfP (fun i => M2 106 (200 * tm + i)) (s2 p) (s2 (p + 1)) D ∧ D (s2 (p + 1)) = 1 ∧ ∀ j, j ≤ s2 (p + 1) → D j ≤ 31) → Q (some (qI tm)) g M2) : q_S 1 (d + 11) 133 [qR 6 100] g M Q := by
  have h10 := hI.2.2.2.2.1.2.2.1
  have hn2 : n ≤ 160 := by have := hI.2.2.2.2.2.2.1; omega
  rw [s_X6_text]
  have t3 : (4 * (tm : Int) + 3).toNat = 4 * tm + 3 := by omega
  have fail : ∀ (f : Nat) (M1 : q_M) (l2 : q_V), res = some f → q_isL l2 = false → q_tfr tm M M1 → M1 100 20 = (f : Nat) → q_T 1 (d + 11) qP_X6_text 122 [] [qR 6 100, qI 0, l2] [] g M1 Q := by
    intro f M1 l2 hrf i2 hf f20
    have e10 : M1 100 10 = tm := (hf 100 10 (by omega) (by omega) (by omega) (by omega)).trans h10
    have hf2 := q_tfr_up (v := 0) (q_tfr_up (v := M1 100 27) hf (Or.inl ⟨rfl, show 4 * tm ≤ 4 * tm + 3 by omega, by omega⟩)) (Or.inr ⟨rfl, Or.inl rfl⟩)
    have := hq0 f _ hrf (q_MI_tfr hI hf2 (by rw [q_upd_s]; omega)) (q_txf_t hf2) (by rw [q_upd_s]) (by simp (disch := omega) only [q_upd_n]; exact e10)
    by_cases hb : (f : Int) ≤ 1000000
    · rw [b_X6_text_122]
      simp (disch := omega) only [b_X6_text_0, x_loadR_0, x_loadS_0, f_6_10, x_iconst, y_ic_ne_t, y_ic_ne_f, b_X6_text_9, x_ret0, b_X6_text_12, p_6_19, p_6_27, x_storeI_1, x_storeI_2, x_loadI_2, y_ic_ge_t, y_ic_ge_f, b_X6_text_31, x_loadI_1, y_if_eq_t, y_if_eq_f, b_X6_text_35, f_6_21, b_X6_text_47, f_6_22, b_X6_text_55, x_goto, b_X6_text_59, b_X6_text_60, f_6_9, x_imul, x_iadd, f_6_27, y_iast_44, b_X6_text_82, b_X6_text_89, b_X6_text_93, b_X6_text_94, x_iinc_2, b_X6_text_101, b_X6_text_105, y_if_ne_t, y_if_ne_f, b_X6_text_116, b_X6_text_120, b_X6_text_121, p_6_7, b_X6_text_148, f_6_20, x_isub, b_X6_text_156, x_dupI, x_dupR, p_6_10, q_isL_I, q_isL_R, q_isL_S, true_and, and_true, and_self, List.length_nil, List.length_cons, Nat.zero_add, x_K, x_Kn, Int.reduceToNat, Nat.reduceAdd, Nat.reduceMul, Nat.reduceLeDiff, Nat.reduceLT, Nat.zero_le, Int.reduceAdd, Int.reduceSub, Int.reduceMul, Int.reduceNeg, q_add_e, q_sub_e, q_mul_e, q_neg_e, q_upd_s, q_upd_n, zr_shr0, zr_shr1, zr_shr2, zr_shr3, zr_shr4, zr_and, zr_dyn8, zr_or, zr_shl, q_cpy_n, y_cpy26, e10, t3, f20]
      exact this
    · exfalso
      unfold Y_tx at hx
      exact hb (by
        have hall : ∀ (k p a : Nat) (O : List Int) (s : Nat → Nat), O.length ≤ a → a ≤ n → Y_tx (M 105) n k p a O s res O2 s2 → (f : Int) ≤ 160 := by
          intro k
          induction k with
          | zero =>
            intro p a O s hO ha h
            unfold Y_tx at h
            by_cases c : L_t (M 105) n a = -2
            · rw [if_pos c] at h
              rw [hrf] at h
              exact absurd h.1 (by simp)
            · rw [if_neg c, hrf] at h
              injection h with h
              have L := L_ok (T := M 105) ha
              omega
          | succ k ih =>
            intro p a O s hO ha h
            unfold Y_tx at h
            have L := L_ok (T := M 105) ha
            by_cases c : L_t (M 105) n a = -5 - p
            · rw [if_pos c] at h
              rcases h with ⟨f2, ⟨kf, h1⟩, h2⟩ | ⟨i, a2, O1, ⟨kf, h1⟩, h2⟩
              · rw [hrf] at h2
                injection h2 with h2
                have hh : ∀ (kf : Nat) (c : q_Yc), c.2.2.2 ≤ n → q_Yic O.length c → Y_rd (M 105) n kf c = some (false, f2, 0, []) → (f2 : Int) ≤ 160 := by
                  intro kf
                  induction kf with
                  | zero =>
                    intro c _ _ hc
                    rw [Y_rd] at hc
                    exact absurd hc (by simp)
                  | succ kf ih2 =>
                    intro c hca hic hc
                    rw [Y_rd] at hc
                    have sti := Y_st_i (T := M 105) hca hic
                    cases e : Y_st (M 105) n c with
                    | inl c2 =>
                      rw [e] at hc
                      have := sti.1 c2 e
                      exact ih2 c2 this.2 this.1 hc
                    | inr r =>
                      rw [e] at hc
                      injection hc with hc
                      subst hc
                      have hb : f2 = L_i (M 105) n c.2.2.2 := Y_st_f e
                      have L2 := L_ok (T := M 105) hca
                      omega
                have := hh kf _ (by show L_b (M 105) n a ≤ n; omega) (q_Yi_0 (O := O) (a := L_b (M 105) n a) (by omega)) h1
                omega
              · have hri := Y_rd_i (T := M 105) (n := n) (s := O.length) kf _ _ (by show L_b (M 105) n a ≤ n; omega) (q_Yi_0 (O := O) (a := L_b (M 105) n a) (by omega)) h1 rfl
                exact ih (p + 1) a2 O1 _ hri.2.1 hri.2.2.1 h2
            · rw [if_neg c, hrf] at h
              injection h with h
              omega
        have := hall 3 0 0 [] (fun _ => 0) (Nat.zero_le _) (Nat.zero_le _) (by unfold Y_tx; exact hx)
        omega)
  have fail2 : ∀ (f : Nat) (M1 : q_M) (i : Nat), res = some f → i ≤ 3 → q_tfr tm M M1 → M1 100 20 = (f : Nat) → q_T 1 (d + 11) qP_X6_text 26 [] [qR 6 100, qI 0, qI i] [] g M1 Q := by
    intro f M1 i hrf hi hf f20
    rw [b_X6_text_26]
    by_cases c : i = 3
    · simp (disch := omega) only [b_X6_text_0, x_loadR_0, x_loadS_0, f_6_10, x_iconst, y_ic_ne_t, y_ic_ne_f, b_X6_text_9, x_ret0, b_X6_text_12, p_6_19, p_6_27, x_storeI_1, x_storeI_2, x_loadI_2, y_ic_ge_t, y_ic_ge_f, b_X6_text_31, x_loadI_1, y_if_eq_t, y_if_eq_f, b_X6_text_35, f_6_21, b_X6_text_47, f_6_22, b_X6_text_55, x_goto, b_X6_text_59, b_X6_text_60, f_6_9, x_imul, x_iadd, f_6_27, y_iast_44, b_X6_text_82, b_X6_text_89, b_X6_text_93, b_X6_text_94, x_iinc_2, b_X6_text_101, b_X6_text_105, y_if_ne_t, y_if_ne_f, b_X6_text_116, b_X6_text_120, b_X6_text_121, p_6_7, b_X6_text_148, f_6_20, x_isub, b_X6_text_156, x_dupI, x_dupR, p_6_10, q_isL_I, q_isL_R, q_isL_S, true_and, and_true, and_self, List.length_nil, List.length_cons, Nat.zero_add, x_K, x_Kn, Int.reduceToNat, Nat.reduceAdd, Nat.reduceMul, Nat.reduceLeDiff, Nat.reduceLT, Nat.zero_le, Int.reduceAdd, Int.reduceSub, Int.reduceMul, Int.reduceNeg, q_add_e, q_sub_e, q_mul_e, q_neg_e, q_upd_s, q_upd_n, zr_shr0, zr_shr1, zr_shr2, zr_shr3, zr_shr4, zr_and, zr_dyn8, zr_or, zr_shl, q_cpy_n, y_cpy26]
      exact fail f M1 _ hrf rfl hf f20
    · simp (disch := omega) only [b_X6_text_0, x_loadR_0, x_loadS_0, f_6_10, x_iconst, y_ic_ne_t, y_ic_ne_f, b_X6_text_9, x_ret0, b_X6_text_12, p_6_19, p_6_27, x_storeI_1, x_storeI_2, x_loadI_2, y_ic_ge_t, y_ic_ge_f, b_X6_text_31, x_loadI_1, y_if_eq_t, y_if_eq_f, b_X6_text_35, f_6_21, b_X6_text_47, f_6_22, b_X6_text_55, x_goto, b_X6_text_59, b_X6_text_60, f_6_9, x_imul, x_iadd, f_6_27, y_iast_44, b_X6_text_82, b_X6_text_89, b_X6_text_93, b_X6_text_94, x_iinc_2, b_X6_text_101, b_X6_text_105, y_if_ne_t, y_if_ne_f, b_X6_text_116, b_X6_text_120, b_X6_text_121, p_6_7, b_X6_text_148, f_6_20, x_isub, b_X6_text_156, x_dupI, x_dupR, p_6_10, q_isL_I, q_isL_R, q_isL_S, true_and, and_true, and_self, List.length_nil, List.length_cons, Nat.zero_add, x_K, x_Kn, Int.reduceToNat, Nat.reduceAdd, Nat.reduceMul, Nat.reduceLeDiff, Nat.reduceLT, Nat.zero_le, Int.reduceAdd, Int.reduceSub, Int.reduceMul, Int.reduceNeg, q_add_e, q_sub_e, q_mul_e, q_neg_e, q_upd_s, q_upd_n, zr_shr0, zr_shr1, zr_shr2, zr_shr3, zr_shr4, zr_and, zr_dyn8, zr_or, zr_shl, q_cpy_n, y_cpy26]
      exact fail f M1 _ hrf rfl hf f20
  have loop : ∀ j i : Nat, i + j = 3 → ∀ (M1 : q_M) (at1 : Nat) (O : List Int) (s : Nat → Nat), Y_tx (M 105) n j i at1 O s res O2 s2 → q_tfr tm M M1 → M1 100 7 = n → M1 100 19 = at1 → at1 ≤ n → O.length ≤ at1 → q_oL (fun x => M1 106 (200 * tm + x)) O → q_tpx tm i (fun x => if x = i then O.length else s x) M1 → q_T 1 (d + 11) qP_X6_text 26 [] [qR 6 100, qI 1, qI i] [] g M1 Q := by
    intro j
    induction j with
    | zero =>
      intro i hi M1 at1 O s hx hf e7 e19 hat hS hO hT
      have ei : i = 3 := by omega
      subst ei
      have e5 : M1 105 = M 105 := funext (fun x => hf 105 x (by omega) (by omega) (by omega) (by omega))
      have ewd : q_mwd M1 := fun w c h1 h2 => (hf 114 _ (by omega) (by omega) (by omega) (by omega)).trans (hwd w c h1 h2)
      have L := L_ok (T := M 105) hat
      rw [b_X6_text_26]
      simp (disch := omega) only [b_X6_text_0, x_loadR_0, x_loadS_0, f_6_10, x_iconst, y_ic_ne_t, y_ic_ne_f, b_X6_text_9, x_ret0, b_X6_text_12, p_6_19, p_6_27, x_storeI_1, x_storeI_2, x_loadI_2, y_ic_ge_t, y_ic_ge_f, b_X6_text_31, x_loadI_1, y_if_eq_t, y_if_eq_f, b_X6_text_35, f_6_21, b_X6_text_47, f_6_22, b_X6_text_55, x_goto, b_X6_text_59, b_X6_text_60, f_6_9, x_imul, x_iadd, f_6_27, y_iast_44, b_X6_text_82, b_X6_text_89, b_X6_text_93, b_X6_text_94, x_iinc_2, b_X6_text_101, b_X6_text_105, y_if_ne_t, y_if_ne_f, b_X6_text_116, b_X6_text_120, b_X6_text_121, p_6_7, b_X6_text_148, f_6_20, x_isub, b_X6_text_156, x_dupI, x_dupR, p_6_10, q_isL_I, q_isL_R, q_isL_S, true_and, and_true, and_self, List.length_nil, List.length_cons, Nat.zero_add, x_K, x_Kn, Int.reduceToNat, Nat.reduceAdd, Nat.reduceMul, Nat.reduceLeDiff, Nat.reduceLT, Nat.zero_le, Int.reduceAdd, Int.reduceSub, Int.reduceMul, Int.reduceNeg, q_add_e, q_sub_e, q_mul_e, q_neg_e, q_upd_s, q_upd_n, zr_shr0, zr_shr1, zr_shr2, zr_shr3, zr_shr4, zr_and, zr_dyn8, zr_or, zr_shl, q_cpy_n, y_cpy26, c_X6_next]
      refine mp_nextX (d := d + 9) ewd e7 hn2 e19 hat (fun M2 hn3 g19 g20 g21 g22 => ?_)
      rw [e5] at g19 g20 g21 g22
      have hf2 := q_tfr_tr hf (q_tfr_n (tm := tm) hn3)
      have hT2 := q_tpx_nxf hT hn3
      have e10 : M2 100 10 = tm := (hf2 100 10 (by omega) (by omega) (by omega) (by omega)).trans h10
      have ti := (Y_t_i L.2.2.2.2.2.1).2.2.2.2.2.2.2.2
      rw [← g21] at ti
      unfold Y_tx at hx
      by_cases t0 : L_t (M 105) n at1 = -2
      · rw [if_pos t0] at hx
        obtain ⟨x1, x2, x3⟩ := hx
        have z0 : M2 100 21 = 0 := ti.mpr t0
        obtain ⟨p1, p2, p3, p4⟩ := hT2
        rw [← x3] at p1 p2 p3 p4
        have hf3 := q_tfr_up (v := 0) (q_tfr_up (v := (s2 3 : Int)) hf2 (Or.inl ⟨rfl, show 4 * tm ≤ 4 * tm + 3 by omega, by omega⟩)) (Or.inr ⟨rfl, Or.inl rfl⟩)
        have hI3 := q_MI_tfr hI hf3 (by rw [q_upd_s]; omega)
        have es3 : s2 3 = O.length := by rw [x3]; exact if_pos rfl
        have hw : q_wfT (fun i => q_upd (q_upd M2 107 (4 * tm + 3) (s2 3 : Int)) 100 7 0 106 (200 * tm + i)) (fun i => q_upd (q_upd M2 107 (4 * tm + 3) (s2 3 : Int)) 100 7 0 107 (4 * tm + i)) := by
          intro p hp
          obtain ⟨h1, D, h2, h3, _⟩ := p4 p hp
          have h4 := p3 p hp
          refine ⟨s2 p, s2 (p + 1), D, ?_, ?_, h1, by omega, q_wfP_c h2 (fun x _ => by simp (disch := omega) only [q_upd_n]), h3⟩
          · show q_upd (q_upd M2 107 (4 * tm + 3) (s2 3 : Int)) 100 7 0 107 (4 * tm + p) = s2 p
            rw [q_upd_n (by omega), q_upd_n (by omega)]
            exact p1 p hp
          · show q_upd (q_upd M2 107 (4 * tm + 3) (s2 3 : Int)) 100 7 0 107 (4 * tm + (p + 1)) = s2 (p + 1)
            by_cases e : p = 2
            · subst e
              rw [q_upd_n (by omega), q_upd_s]
            · rw [q_upd_n (by omega), q_upd_n (by omega)]
              exact p1 (p + 1) (by omega)
        have e6 : ∀ x, q_upd (q_upd (q_upd M2 107 (4 * tm + 3) (s2 3 : Int)) 100 7 0) 100 10 ((tm : Int) + 1) 106 x = M2 106 x := fun x => by simp (disch := omega) only [q_upd_n]
        simp (disch := omega) only [b_X6_text_0, x_loadR_0, x_loadS_0, f_6_10, x_iconst, y_ic_ne_t, y_ic_ne_f, b_X6_text_9, x_ret0, b_X6_text_12, p_6_19, p_6_27, x_storeI_1, x_storeI_2, x_loadI_2, y_ic_ge_t, y_ic_ge_f, b_X6_text_31, x_loadI_1, y_if_eq_t, y_if_eq_f, b_X6_text_35, f_6_21, b_X6_text_47, f_6_22, b_X6_text_55, x_goto, b_X6_text_59, b_X6_text_60, f_6_9, x_imul, x_iadd, f_6_27, y_iast_44, b_X6_text_82, b_X6_text_89, b_X6_text_93, b_X6_text_94, x_iinc_2, b_X6_text_101, b_X6_text_105, y_if_ne_t, y_if_ne_f, b_X6_text_116, b_X6_text_120, b_X6_text_121, b_X6_text_122, p_6_7, b_X6_text_148, f_6_20, x_isub, b_X6_text_156, x_dupI, x_dupR, p_6_10, q_isL_I, q_isL_R, q_isL_S, true_and, and_true, and_self, List.length_nil, List.length_cons, Nat.zero_add, x_K, x_Kn, Int.reduceToNat, Nat.reduceAdd, Nat.reduceMul, Nat.reduceLeDiff, Nat.reduceLT, Nat.zero_le, Int.reduceAdd, Int.reduceSub, Int.reduceMul, Int.reduceNeg, q_add_e, q_sub_e, q_mul_e, q_neg_e, q_upd_s, q_upd_n, zr_shr0, zr_shr1, zr_shr2, zr_shr3, zr_shr4, zr_and, zr_dyn8, zr_or, zr_shl, q_cpy_n, y_cpy26, e10, t3, p2]
        have hMI := q_MI_add hI3 (by omega) hw
        have eC : (fun i => q_upd (q_upd M2 107 (4 * tm + 3) (s2 3 : Int)) 100 7 0 106 (200 * tm + i)) = (fun i => q_upd (q_upd (q_upd M2 107 (4 * tm + 3) (s2 3 : Int)) 100 7 0) 100 10 ((tm : Int) + 1) 106 (200 * tm + i)) := funext (fun i => by simp (disch := omega) only [q_upd_n])
        have eS : (fun i => q_upd (q_upd M2 107 (4 * tm + 3) (s2 3 : Int)) 100 7 0 107 (4 * tm + i)) = (fun i => q_upd (q_upd (q_upd M2 107 (4 * tm + 3) (s2 3 : Int)) 100 7 0) 100 10 ((tm : Int) + 1) 107 (4 * tm + i)) := funext (fun i => (q_upd_n (by omega)).symm)
        rw [eC, eS] at hMI
        have fin := hq1 (q_upd (q_upd (q_upd M2 107 (4 * tm + 3) (s2 3 : Int)) 100 7 0) 100 10 ((tm : Int) + 1)) x1 hMI (fun a i q1 q2 q3 q4 => (q_upd_n (by
          by_cases z : a = 100
          · exact Or.inr (q3 z).2.1
          · exact Or.inl z)).trans (hf3 a i q1 q2 (fun z => by have := q3 z; omega) q4)) (by rw [q_upd_n (by omega), q_upd_s]) (by rw [q_upd_s]) (by rw [x2]; exact q_oL_c (fun i _ => (e6 _).trans (hn3 106 _ (by omega))) hO) (fun p hp => ?_) (fun p hp => ?_)
        · rw [show (tm : Int) + 1 - 1 = tm by omega]
          exact fin
        · by_cases e : p = 3
          · subst e
            rw [q_upd_n (by omega), q_upd_n (by omega), q_upd_s]
          · rw [q_upd_n (by omega), q_upd_n (by omega), q_upd_n (by omega)]
            exact p1 p (by omega)
        · obtain ⟨h1, D, h2, h3, h4⟩ := p4 p hp
          have h5 := p3 p hp
          exact ⟨h1, by rw [x2]; omega, D, q_wfP_c h2 (fun x _ => e6 _), h3, h4⟩
      · rw [if_neg t0] at hx
        have z0 : M2 100 21 ≠ 0 := fun z => t0 (ti.mp z)
        simp (disch := omega) only [b_X6_text_0, x_loadR_0, x_loadS_0, f_6_10, x_iconst, y_ic_ne_t, y_ic_ne_f, b_X6_text_9, x_ret0, b_X6_text_12, p_6_19, p_6_27, x_storeI_1, x_storeI_2, x_loadI_2, y_ic_ge_t, y_ic_ge_f, b_X6_text_31, x_loadI_1, y_if_eq_t, y_if_eq_f, b_X6_text_35, f_6_21, b_X6_text_47, f_6_22, b_X6_text_55, x_goto, b_X6_text_59, b_X6_text_60, f_6_9, x_imul, x_iadd, f_6_27, y_iast_44, b_X6_text_82, b_X6_text_89, b_X6_text_93, b_X6_text_94, x_iinc_2, b_X6_text_101, b_X6_text_105, y_if_ne_t, y_if_ne_f, b_X6_text_116, b_X6_text_120, b_X6_text_121, p_6_7, b_X6_text_148, f_6_20, x_isub, b_X6_text_156, x_dupI, x_dupR, p_6_10, q_isL_I, q_isL_R, q_isL_S, true_and, and_true, and_self, List.length_nil, List.length_cons, Nat.zero_add, x_K, x_Kn, Int.reduceToNat, Nat.reduceAdd, Nat.reduceMul, Nat.reduceLeDiff, Nat.reduceLT, Nat.zero_le, Int.reduceAdd, Int.reduceSub, Int.reduceMul, Int.reduceNeg, q_add_e, q_sub_e, q_mul_e, q_neg_e, q_upd_s, q_upd_n, zr_shr0, zr_shr1, zr_shr2, zr_shr3, zr_shr4, zr_and, zr_dyn8, zr_or, zr_shl, q_cpy_n, y_cpy26]
        exact fail _ M2 _ hx rfl hf2 g20
    | succ j ih =>
      intro i hi M1 at1 O s hx hf e7 e19 hat hS hO hT
      have ti : (4 * (tm : Int) + (i : Int)).toNat = 4 * tm + i := by omega
      have e5 : M1 105 = M 105 := funext (fun x => hf 105 x (by omega) (by omega) (by omega) (by omega))
      have ewd : q_mwd M1 := fun w c h1 h2 => (hf 114 _ (by omega) (by omega) (by omega) (by omega)).trans (hwd w c h1 h2)
      have L := L_ok (T := M 105) hat
      rw [b_X6_text_26]
      simp (disch := omega) only [b_X6_text_0, x_loadR_0, x_loadS_0, f_6_10, x_iconst, y_ic_ne_t, y_ic_ne_f, b_X6_text_9, x_ret0, b_X6_text_12, p_6_19, p_6_27, x_storeI_1, x_storeI_2, x_loadI_2, y_ic_ge_t, y_ic_ge_f, b_X6_text_31, x_loadI_1, y_if_eq_t, y_if_eq_f, b_X6_text_35, f_6_21, b_X6_text_47, f_6_22, b_X6_text_55, x_goto, b_X6_text_59, b_X6_text_60, f_6_9, x_imul, x_iadd, f_6_27, y_iast_44, b_X6_text_82, b_X6_text_89, b_X6_text_93, b_X6_text_94, x_iinc_2, b_X6_text_101, b_X6_text_105, y_if_ne_t, y_if_ne_f, b_X6_text_116, b_X6_text_120, b_X6_text_121, p_6_7, b_X6_text_148, f_6_20, x_isub, b_X6_text_156, x_dupI, x_dupR, p_6_10, q_isL_I, q_isL_R, q_isL_S, true_and, and_true, and_self, List.length_nil, List.length_cons, Nat.zero_add, x_K, x_Kn, Int.reduceToNat, Nat.reduceAdd, Nat.reduceMul, Nat.reduceLeDiff, Nat.reduceLT, Nat.zero_le, Int.reduceAdd, Int.reduceSub, Int.reduceMul, Int.reduceNeg, q_add_e, q_sub_e, q_mul_e, q_neg_e, q_upd_s, q_upd_n, zr_shr0, zr_shr1, zr_shr2, zr_shr3, zr_shr4, zr_and, zr_dyn8, zr_or, zr_shl, q_cpy_n, y_cpy26, c_X6_next]
      refine mp_nextX (d := d + 9) ewd e7 hn2 e19 hat (fun M2 hn3 g19 g20 g21 g22 => ?_)
      rw [e5] at g19 g20 g21 g22
      have hf2 := q_tfr_tr hf (q_tfr_n (tm := tm) hn3)
      have hT2 := q_tpx_nxf hT hn3
      have hO2 : q_oL (fun x => M2 106 (200 * tm + x)) O := q_oL_c (fun x _ => hn3 106 _ (by omega)) hO
      have ewd2 : q_mwd M2 := fun w c h1 h2 => (hn3 114 _ (by omega)).trans (ewd w c h1 h2)
      have e52 : M2 105 = M 105 := funext (fun x => (hn3 105 x (by omega)).trans (congrFun e5 x))
      have e10 : M2 100 10 = tm := (hf2 100 10 (by omega) (by omega) (by omega) (by omega)).trans h10
      have e27 : M2 100 27 = O.length := by
        have h := hT2.2.1
        dsimp only at h
        rw [if_pos rfl] at h
        exact h
      have g7 : M2 100 7 = n := (hn3 100 7 (by omega)).trans e7
      have tt := Y_t_i L.2.2.2.2.2.1
      rw [← g21] at tt
      have tt3 := tt.2.2.1
      generalize hol : O.length = o at e27 hS
      have hf3 := fun v => q_tfr_up (v := v) hf2 (Or.inl ⟨rfl, show 4 * tm ≤ 4 * tm + i by omega, by omega⟩)
      unfold Y_tx at hx
      have bad : L_t (M 105) n at1 ≠ -5 - i → q_T 1 (d + 11) qP_X6_text 26 [] [qR 6 100, qI 0, qI ((i : Int) + 1)] [] g (q_upd M2 107 (4 * tm + i) (o : Int)) Q := by
        intro ht
        rw [if_neg ht] at hx
        exact fail2 _ _ (i + 1) hx (by omega) (hf3 _) ((q_upd_n (by omega)).trans g20)
      have good : L_t (M 105) n at1 = -5 - i → q_S 1 (d + 10) 132 [qR 6 100] g (q_upd M2 107 (4 * tm + i) (o : Int)) (q_K 1 (d + 11) qP_X6_text 89 [.ifCond .eq 93] [qR 6 100, qI 1, qI i] [] Q) := by
        intro ht
        rw [if_pos ht] at hx
        have lt := L.2.2.2.2.1 (by omega)
        have e53 : q_upd M2 107 (4 * tm + i) (o : Int) 105 = M 105 := by
          rw [← e52]
          exact funext (fun x => q_upd_n (by omega))
        have core := fun (r : q_Yr) (Q2 : Option q_V → q_G → q_M → Prop) (hev : Y_ev (M 105) n (true, true, ([], 0, O), L_b (M 105) n at1) r) hq2 => mp_eReadX (d := d + 7) (tm := tm) (n := n) (at0 := L_b (M 105) n at1) (O0 := O) (r := r) (g := g) (M := q_upd M2 107 (4 * tm + i) (o : Int)) (Q := Q2) (fun w c h1 h2 => (q_upd_n (by omega)).trans (ewd2 w c h1 h2)) (by rw [q_upd_n (by omega)]; exact e10) htm (by rw [q_upd_n (by omega), hol]; exact e27) (q_oL_c (fun x _ => q_upd_n (by omega)) hO2) (by rw [q_upd_n (by omega)]; exact g7) hn2 (by rw [q_upd_n (by omega)]; exact g19) L.2.2.2.1 (by rw [hol]; omega) (by rw [e53]; exact hev) hq2
        rcases hx with ⟨f, h1, h2⟩ | ⟨i1, a2, O1, h1, h2⟩
        · refine core _ _ h1 (fun M3 hf4 f20 _ => ?_)
          have eb : Y_b false = 0 := rfl
          show q_K 1 (d + 11) qP_X6_text 89 [.ifCond .eq 93] [qR 6 100, qI 1, qI i] [] Q (some (qI (Y_b false))) g M3
          rw [eb]
          simp (disch := omega) only [b_X6_text_0, x_loadR_0, x_loadS_0, f_6_10, x_iconst, y_ic_ne_t, y_ic_ne_f, b_X6_text_9, x_ret0, b_X6_text_12, p_6_19, p_6_27, x_storeI_1, x_storeI_2, x_loadI_2, y_ic_ge_t, y_ic_ge_f, b_X6_text_31, x_loadI_1, y_if_eq_t, y_if_eq_f, b_X6_text_35, f_6_21, b_X6_text_47, f_6_22, b_X6_text_55, x_goto, b_X6_text_59, b_X6_text_60, f_6_9, x_imul, x_iadd, f_6_27, y_iast_44, b_X6_text_82, b_X6_text_89, b_X6_text_93, b_X6_text_94, x_iinc_2, b_X6_text_101, b_X6_text_105, y_if_ne_t, y_if_ne_f, b_X6_text_116, b_X6_text_120, b_X6_text_121, p_6_7, b_X6_text_148, f_6_20, x_isub, b_X6_text_156, x_dupI, x_dupR, p_6_10, q_isL_I, q_isL_R, q_isL_S, true_and, and_true, and_self, List.length_nil, List.length_cons, Nat.zero_add, x_K, x_Kn, Int.reduceToNat, Nat.reduceAdd, Nat.reduceMul, Nat.reduceLeDiff, Nat.reduceLT, Nat.zero_le, Int.reduceAdd, Int.reduceSub, Int.reduceMul, Int.reduceNeg, q_add_e, q_sub_e, q_mul_e, q_neg_e, q_upd_s, q_upd_n, zr_shr0, zr_shr1, zr_shr2, zr_shr3, zr_shr4, zr_and, zr_dyn8, zr_or, zr_shl, q_cpy_n, y_cpy26]
          exact fail2 f _ (i + 1) h2 (by omega) (q_tfr_tr (hf3 _) (q_tfr_e hf4)) f20
        · obtain ⟨kf, h1'⟩ := h1
          have hri := Y_rd_i (T := M 105) (n := n) (s := O.length) kf _ _ (by show L_b (M 105) n at1 ≤ n; omega) (q_Yi_0 (O := O) (a := L_b (M 105) n at1) (by omega)) h1' rfl
          refine core _ _ ⟨kf, h1'⟩ (fun M3 hf4 f20 hgo => ?_)
          obtain ⟨f27, f19, fO⟩ := hgo rfl
          have eb : Y_b true = 1 := rfl
          show q_K 1 (d + 11) qP_X6_text 89 [.ifCond .eq 93] [qR 6 100, qI 1, qI i] [] Q (some (qI (Y_b true))) g M3
          rw [eb]
          simp (disch := omega) only [b_X6_text_0, x_loadR_0, x_loadS_0, f_6_10, x_iconst, y_ic_ne_t, y_ic_ne_f, b_X6_text_9, x_ret0, b_X6_text_12, p_6_19, p_6_27, x_storeI_1, x_storeI_2, x_loadI_2, y_ic_ge_t, y_ic_ge_f, b_X6_text_31, x_loadI_1, y_if_eq_t, y_if_eq_f, b_X6_text_35, f_6_21, b_X6_text_47, f_6_22, b_X6_text_55, x_goto, b_X6_text_59, b_X6_text_60, f_6_9, x_imul, x_iadd, f_6_27, y_iast_44, b_X6_text_82, b_X6_text_89, b_X6_text_93, b_X6_text_94, x_iinc_2, b_X6_text_101, b_X6_text_105, y_if_ne_t, y_if_ne_f, b_X6_text_116, b_X6_text_120, b_X6_text_121, p_6_7, b_X6_text_148, f_6_20, x_isub, b_X6_text_156, x_dupI, x_dupR, p_6_10, q_isL_I, q_isL_R, q_isL_S, true_and, and_true, and_self, List.length_nil, List.length_cons, Nat.zero_add, x_K, x_Kn, Int.reduceToNat, Nat.reduceAdd, Nat.reduceMul, Nat.reduceLeDiff, Nat.reduceLT, Nat.zero_le, Int.reduceAdd, Int.reduceSub, Int.reduceMul, Int.reduceNeg, q_add_e, q_sub_e, q_mul_e, q_neg_e, q_upd_s, q_upd_n, zr_shr0, zr_shr1, zr_shr2, zr_shr3, zr_shr4, zr_and, zr_dyn8, zr_or, zr_shl, q_cpy_n, y_cpy26]
          have f7 : M3 100 7 = n := (hf4 100 7 (by omega) (by omega) (by omega)).trans (by rw [q_upd_n (by omega)]; exact g7)
          obtain ⟨r1, r2, r3, D, r4, r5, r6⟩ := hri
          simp only at r1 r2 r3 r4 r5 r6 f27 f19 fO
          refine ih (i + 1) (by omega) M3 a2 O1 _ h2 (q_tfr_tr (hf3 _) (q_tfr_e hf4)) f7 f19 r3 r2 fO ?_
          obtain ⟨p1, p2, p3, p4⟩ := hT2
          rw [hol] at p2 p3 p4
          simp only at p1 p2 p3 p4
          rw [hol] at r1 r4
          refine ⟨fun p hp => ?_, ?_, fun p hp => ?_, fun p hp => ?_⟩
          · dsimp only
            rw [hf4 107 _ (by omega) (by omega) (by omega), if_neg (by omega)]
            by_cases e : p = i
            · subst e
              rw [q_upd_s, if_pos rfl, hol]
            · rw [q_upd_n (by omega), if_neg e]
              have := p1 p (by omega)
              rw [if_neg e] at this
              exact this
          · dsimp only
            rw [if_pos rfl]
            exact f27
          · dsimp only
            rw [if_pos rfl]
            by_cases e : p = i
            · rw [if_pos (by omega)]
              exact Nat.le_refl _
            · rw [if_neg (by omega)]
              have h := p3 p (by omega)
              rw [if_pos trivial] at h
              by_cases e2 : p + 1 = i
              · rw [if_pos e2, hol]
                omega
              · rw [if_neg e2]
                rw [if_neg e2] at h
                omega
          · dsimp only
            by_cases e : p = i
            · subst e
              rw [if_neg (show ¬p = p + 1 by omega), if_pos rfl, if_pos rfl, hol]
              exact ⟨r1, D, q_wfP_c r4 (fun x hx => fO x hx), r6, fun j hj => r5 j hj⟩
            · have h := p4 p (by omega)
              have h3 := p3 p (by omega)
              rw [if_pos trivial] at h3
              rw [if_neg (show ¬p = i + 1 by omega), if_neg e, if_neg (show ¬p + 1 = i + 1 by omega)]
              rw [if_neg e] at h
              rw [hol]
              obtain ⟨w1, D2, w2, w3, w4⟩ := h
              refine ⟨w1, D2, q_wfP_c w2 (fun x hx => (hf4 106 _ (fun _ => Or.inl (by rw [hol]; omega)) (by omega) (by omega)).trans (q_upd_n (by omega))), w3, w4⟩
      by_cases t3 : M2 100 21 = 3
      · have htr := tt3.mp t3
        have hv := g22 (by omega)
        have hv2 : Y_v (L_t (M 105) n at1) (L_v (M 105) n at1) = -5 - L_t (M 105) n at1 := by
          rcases htr with e | e | e <;> rw [e] <;> rfl
        rw [hv2] at hv
        by_cases t4 : M2 100 22 = i
        · simp (disch := omega) only [b_X6_text_0, x_loadR_0, x_loadS_0, f_6_10, x_iconst, y_ic_ne_t, y_ic_ne_f, b_X6_text_9, x_ret0, b_X6_text_12, p_6_19, p_6_27, x_storeI_1, x_storeI_2, x_loadI_2, y_ic_ge_t, y_ic_ge_f, b_X6_text_31, x_loadI_1, y_if_eq_t, y_if_eq_f, b_X6_text_35, f_6_21, b_X6_text_47, f_6_22, b_X6_text_55, x_goto, b_X6_text_59, b_X6_text_60, f_6_9, x_imul, x_iadd, f_6_27, y_iast_44, b_X6_text_82, b_X6_text_89, b_X6_text_93, b_X6_text_94, x_iinc_2, b_X6_text_101, b_X6_text_105, y_if_ne_t, y_if_ne_f, b_X6_text_116, b_X6_text_120, b_X6_text_121, p_6_7, b_X6_text_148, f_6_20, x_isub, b_X6_text_156, x_dupI, x_dupR, p_6_10, q_isL_I, q_isL_R, q_isL_S, true_and, and_true, and_self, List.length_nil, List.length_cons, Nat.zero_add, x_K, x_Kn, Int.reduceToNat, Nat.reduceAdd, Nat.reduceMul, Nat.reduceLeDiff, Nat.reduceLT, Nat.zero_le, Int.reduceAdd, Int.reduceSub, Int.reduceMul, Int.reduceNeg, q_add_e, q_sub_e, q_mul_e, q_neg_e, q_upd_s, q_upd_n, zr_shr0, zr_shr1, zr_shr2, zr_shr3, zr_shr4, zr_and, zr_dyn8, zr_or, zr_shl, q_cpy_n, y_cpy26, e10, ti, e27, c_X6_eRead]
          exact good (by omega)
        · simp (disch := omega) only [b_X6_text_0, x_loadR_0, x_loadS_0, f_6_10, x_iconst, y_ic_ne_t, y_ic_ne_f, b_X6_text_9, x_ret0, b_X6_text_12, p_6_19, p_6_27, x_storeI_1, x_storeI_2, x_loadI_2, y_ic_ge_t, y_ic_ge_f, b_X6_text_31, x_loadI_1, y_if_eq_t, y_if_eq_f, b_X6_text_35, f_6_21, b_X6_text_47, f_6_22, b_X6_text_55, x_goto, b_X6_text_59, b_X6_text_60, f_6_9, x_imul, x_iadd, f_6_27, y_iast_44, b_X6_text_82, b_X6_text_89, b_X6_text_93, b_X6_text_94, x_iinc_2, b_X6_text_101, b_X6_text_105, y_if_ne_t, y_if_ne_f, b_X6_text_116, b_X6_text_120, b_X6_text_121, p_6_7, b_X6_text_148, f_6_20, x_isub, b_X6_text_156, x_dupI, x_dupR, p_6_10, q_isL_I, q_isL_R, q_isL_S, true_and, and_true, and_self, List.length_nil, List.length_cons, Nat.zero_add, x_K, x_Kn, Int.reduceToNat, Nat.reduceAdd, Nat.reduceMul, Nat.reduceLeDiff, Nat.reduceLT, Nat.zero_le, Int.reduceAdd, Int.reduceSub, Int.reduceMul, Int.reduceNeg, q_add_e, q_sub_e, q_mul_e, q_neg_e, q_upd_s, q_upd_n, zr_shr0, zr_shr1, zr_shr2, zr_shr3, zr_shr4, zr_and, zr_dyn8, zr_or, zr_shl, q_cpy_n, y_cpy26, e10, ti, e27]
          exact bad (by omega)
      · simp (disch := omega) only [b_X6_text_0, x_loadR_0, x_loadS_0, f_6_10, x_iconst, y_ic_ne_t, y_ic_ne_f, b_X6_text_9, x_ret0, b_X6_text_12, p_6_19, p_6_27, x_storeI_1, x_storeI_2, x_loadI_2, y_ic_ge_t, y_ic_ge_f, b_X6_text_31, x_loadI_1, y_if_eq_t, y_if_eq_f, b_X6_text_35, f_6_21, b_X6_text_47, f_6_22, b_X6_text_55, x_goto, b_X6_text_59, b_X6_text_60, f_6_9, x_imul, x_iadd, f_6_27, y_iast_44, b_X6_text_82, b_X6_text_89, b_X6_text_93, b_X6_text_94, x_iinc_2, b_X6_text_101, b_X6_text_105, y_if_ne_t, y_if_ne_f, b_X6_text_116, b_X6_text_120, b_X6_text_121, p_6_7, b_X6_text_148, f_6_20, x_isub, b_X6_text_156, x_dupI, x_dupR, p_6_10, q_isL_I, q_isL_R, q_isL_S, true_and, and_true, and_self, List.length_nil, List.length_cons, Nat.zero_add, x_K, x_Kn, Int.reduceToNat, Nat.reduceAdd, Nat.reduceMul, Nat.reduceLeDiff, Nat.reduceLT, Nat.zero_le, Int.reduceAdd, Int.reduceSub, Int.reduceMul, Int.reduceNeg, q_add_e, q_sub_e, q_mul_e, q_neg_e, q_upd_s, q_upd_n, zr_shr0, zr_shr1, zr_shr2, zr_shr3, zr_shr4, zr_and, zr_dyn8, zr_or, zr_shl, q_cpy_n, y_cpy26, e10, ti, e27]
        exact bad (fun z => t3 (tt3.mpr (by omega)))
  have hf0 : q_tfr tm M (q_upd (q_upd M 100 19 0) 100 27 0) := q_tfr_up (q_tfr_up q_tfr_rf (Or.inr ⟨rfl, Or.inr (Or.inl rfl)⟩)) (Or.inr ⟨rfl, Or.inr (Or.inr rfl)⟩)
  simp (disch := omega) only [b_X6_text_0, x_loadR_0, x_loadS_0, f_6_10, x_iconst, y_ic_ne_t, y_ic_ne_f, b_X6_text_9, x_ret0, b_X6_text_12, p_6_19, p_6_27, x_storeI_1, x_storeI_2, x_loadI_2, y_ic_ge_t, y_ic_ge_f, b_X6_text_31, x_loadI_1, y_if_eq_t, y_if_eq_f, b_X6_text_35, f_6_21, b_X6_text_47, f_6_22, b_X6_text_55, x_goto, b_X6_text_59, b_X6_text_60, f_6_9, x_imul, x_iadd, f_6_27, y_iast_44, b_X6_text_82, b_X6_text_89, b_X6_text_93, b_X6_text_94, x_iinc_2, b_X6_text_101, b_X6_text_105, y_if_ne_t, y_if_ne_f, b_X6_text_116, b_X6_text_120, b_X6_text_121, p_6_7, b_X6_text_148, f_6_20, x_isub, b_X6_text_156, x_dupI, x_dupR, p_6_10, q_isL_I, q_isL_R, q_isL_S, true_and, and_true, and_self, List.length_nil, List.length_cons, Nat.zero_add, x_K, x_Kn, Int.reduceToNat, Nat.reduceAdd, Nat.reduceMul, Nat.reduceLeDiff, Nat.reduceLT, Nat.zero_le, Int.reduceAdd, Int.reduceSub, Int.reduceMul, Int.reduceNeg, q_add_e, q_sub_e, q_mul_e, q_neg_e, q_upd_s, q_upd_n, zr_shr0, zr_shr1, zr_shr2, zr_shr3, zr_shr4, zr_and, zr_dyn8, zr_or, zr_shl, q_cpy_n, y_cpy26, h10]
  exact loop 3 0 rfl _ 0 [] (fun _ => 0) hx hf0 (by simp (disch := omega) only [q_upd_n]; exact hn) (by rw [q_upd_n (by omega), q_upd_s]; rfl) (by omega) (Nat.zero_le _) (fun x hx => absurd hx (Nat.not_lt_zero x)) ⟨fun p hp => absurd hp (by omega), q_upd_s, fun p hp => absurd hp (by omega), fun p hp => absurd hp (by omega)⟩
