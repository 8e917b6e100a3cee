/-! BOTH READERS: a text -/
theorem q_ta_inj {s t : Nat} (h : q_ta s = q_ta t) : s = t := by
  unfold q_ta at h
  split at h <;> split at h <;> omega
/-- what the class's text leaves, told so that the model can go on -/
def q_TXP (Vt : Nat → Nat → (Nat → Int) → Int) (tm l sl n : Nat) (M : q_M) (v : Int) (tm2 sl2 : Nat) (M1 : q_M) : Prop :=
  (tm = 6 ∧ v = -4 ∧ M1 = M ∧ tm2 = tm ∧ sl2 = sl) ∨
  (tm < 6 ∧ tm2 = tm ∧ sl2 = sl ∧ q_XI Vt tm l sl M1 ∧ q_cfx M M1 ∧ M1 1 1 = 0 ∧ ∃ f : Nat, v = -100 - f ∧ Y_tx (M 2) n 3 0 0 [] (fun _ => 0) (some f) [] (fun _ => 0)) ∨
  (tm < 6 ∧ tm2 = tm + 1 ∧ v = tm ∧ q_cfx M M1 ∧ M1 1 1 = 0 ∧ ∃ (V : Nat → (Nat → Int) → Int) (O : List Int) (s : Nat → Nat), q_XI (q_Tadd Vt tm V) (tm + 1) l sl2 M1 ∧ q_lawV V ∧ Y_tx (M 2) n 3 0 0 [] (fun _ => 0) none O s ∧
    ∀ (C S : Nat → Int), q_oL C O → (∀ p, p < 4 → S p = s p) → (∀ p, p < 3 → s p < s (p + 1) ∧ s (p + 1) ≤ O.length ∧ ∃ D, q_wfP C (s p) (s (p + 1)) D ∧ D (s (p + 1)) = 1 ∧ ∀ j, j ≤ s (p + 1) → D j ≤ 31) → ∀ p, p < 3 → ∀ N, q_V1 C S p N = V p N)
theorem cv_textY {Vt : Nat → Nat → (Nat → Int) → Int} {d tm l sl n : Nat} {M : q_M} {Q : Option q_V → q_G → q_M → Prop} (C : q_XI Vt tm l sl M) (hn : M 1 1 = n) (hq : ∀ (v : Int) (tm2 sl2 : Nat) (M1 : q_M), q_TXP Vt tm l sl n M v tm2 sl2 M1 → Q (some (qI v)) (124 + 4 * (tm2 - 1), sl2) M1) : q_S 1 (d + 50) 67 [qR 5 0] (124 + 4 * (tm - 1), sl) M Q := by
  have T := C.1
  by_cases c6 : tm < 6
  · have hn2 : n ≤ 160 := by have := C.2.2.2.2.2.1; omega
    have i1 : q_zI n (R_z1 M n) := R_nx_I0
    have i5 : q_zI n (R_z5 (M 2) n (R_z1 M n)) := R_z5_I i1
    have tk := R_nx_tk0 (T := M 2) (n := n) (a := 0) (z := (0, M 1 5, M 1 6, M 1 7, 0, -1, M 3)) rfl rfl
    have yt := Y_text (T := M 2) (n := n) (z := R_z1 M n) (st := M 4) hn2 tk.1 tk.2.1
    refine sp_text (d := d + 3) hn hn2 T.2.2.1 T.1 c6 (fun hf => ?_) (fun hf M2 h => ?_)
    · rcases yt with ⟨y1, y2⟩ | ⟨y1, _⟩
      · have := hq (-100 - (R_z5 (M 2) n (R_z1 M n)).2.2.2.2.2.1) tm sl (q_upd (q_zM M (R_z5 (M 2) n (R_z1 M n)) (R_st (M 2) n (R_z1 M n) (M 4))) 1 1 0) (Or.inr (Or.inl ⟨c6, rfl, rfl, q_XI_sh C (fun a i ha => by rw [q_upd_n (by omega), q_zM_f (by omega) (by omega) (by omega)]) (by rw [q_upd_s]; omega) (fun s hs => by rw [q_upd_n (by omega), q_zM_f (by omega) (by omega) (by omega)]; exact C.2.2.1.2.2.2.2.2.2 s hs), fun a i ha => by rw [q_upd_n (by omega), q_zM_f (by omega) (by omega) (by omega)], q_upd_s, (R_z5 (M 2) n (R_z1 M n)).2.2.2.2.2.1.toNat, by omega, y2⟩))
        exact this
      · exfalso
        omega
    · obtain ⟨K, S, len, h1, h2, h3, h4, h5, h6⟩ := q_XI_text C c6 (show tm = tm - 1 + 1 by have := T.1; omega) i5 (R_st_b i1) h
      rcases yt with ⟨y1, _⟩ | ⟨_, O, s, y2, y3, y4, y5⟩
      · exfalso
        have := y1.1
        omega
      · have e : tm + 1 - 1 = tm := by omega
        have := hq tm (tm + 1) _ _ (Or.inr (Or.inr ⟨c6, rfl, rfl, h2, q_upd_s, q_Vt K S len, O, s, h1, q_lawV_of2 h3, y2, fun C2 S2 k1 k2 k3 p hp N => ?_⟩))
        · rw [e] at this
          exact this
        · obtain ⟨b, k, w1, w2, w3, w4, w5⟩ := y5 p hp
          obtain ⟨g1, g2, D, g3, g4, g5⟩ := k3 p hp
          rw [w2] at g2 g3 g4 g5
          refine (Y_law (b := b) (c := s p) (k := k) (D := D) h3 ((h5 p).trans w1) (k2 p (by omega)) ((k2 (p + 1) (by omega)).trans (by rw [w2])) (by omega) ?_ (fun j hj => ?_) g3 g5 g4 N).symm
          · rw [h4 _ (by omega)]
            exact w4
          · rw [h4 _ (by omega), k1 (s p + j) (by omega)]
            exact w5 j hj
  · have e6 : tm = 6 := by have := T.2.1; omega
    exact sp_textF (by have := T.2.2.1; omega) (hq _ tm sl M (Or.inl ⟨e6, rfl, rfl, rfl, rfl⟩))
theorem mp_textF {d : Nat} {g : q_G} {M : q_M} {Q : Option q_V → q_G → q_M → Prop} (h : M 100 10 = 6) (hq : Q (some (qI (-4))) g M) : q_S 1 d 133 [qR 6 100] g M Q := by
  rw [s_X6_text]
  simp (disch := omega) only [b_X6_text_0, x_loadR_0, x_loadS_0, f_6_10, x_iconst, y_ic_ne_t, y_ic_ne_f, b_X6_text_9, x_ret0, b_X6_text_12, p_6_19, p_6_27, x_storeI_1, x_storeI_2, b_X6_text_26, x_loadI_2, y_ic_ge_t, y_ic_ge_f, b_X6_text_31, x_loadI_1, y_if_eq_t, y_if_eq_f, b_X6_text_35, f_6_21, b_X6_text_47, f_6_22, b_X6_text_55, x_goto, b_X6_text_59, b_X6_text_60, f_6_9, x_imul, x_iadd, f_6_27, y_iast_44, b_X6_text_82, b_X6_text_89, b_X6_text_93, b_X6_text_94, x_iinc_2, b_X6_text_101, b_X6_text_105, y_if_ne_t, y_if_ne_f, b_X6_text_116, b_X6_text_120, b_X6_text_121, b_X6_text_122, p_6_7, b_X6_text_148, f_6_20, x_isub, b_X6_text_156, x_dupI, x_dupR, p_6_10, q_isL_I, q_isL_R, q_isL_S, true_and, and_true, and_self, List.length_nil, List.length_cons, Nat.zero_add, x_K, x_Kn, Int.reduceToNat, Nat.reduceAdd, Nat.reduceMul, Nat.reduceLeDiff, Nat.reduceLT, Nat.zero_le, Int.reduceAdd, Int.reduceSub, Int.reduceMul, Int.reduceNeg, q_add_e, q_sub_e, q_mul_e, q_neg_e, q_upd_s, q_upd_n, zr_shr0, zr_shr1, zr_shr2, zr_shr3, zr_shr4, zr_and, zr_dyn8, zr_or, zr_shl, q_cpy_n, y_cpy26]
  exact hq
/-- other laws that say the same -/
theorem q_MI_V {Vt Wt : Nat → Nat → (Nat → Int) → Int} {tm : Nat} {M : q_M} (hI : q_MI Wt tm M) (hV : ∀ t, t < tm → q_lawV (Vt t)) (he : ∀ t, t < tm → ∀ p, p < 3 → ∀ N, Wt t p N = Vt t p N) : q_MI Vt tm M := by
  obtain ⟨g1, g2, g3, g4, ⟨t1, t2, t3, t4⟩, g6, g7, g8, g9⟩ := hI
  refine ⟨g1, g2, g3, g4, ⟨t1, t2, t3, fun t ht => ⟨hV t ht, fun M' h1 h2 d g Q part hp hq => ?_⟩⟩, g6, g7, g8, g9⟩
  refine (t4 t ht).2 M' h1 h2 d g Q part hp ?_
  rw [he t ht part hp]
  exact hq
/-- the tapes and the words -/
def q_Rtp (M : q_M) : Prop := M 2 = M 105 ∧ M 1 1 = M 100 7 ∧ q_mwd M
theorem mw_textY {Vt : Nat → Nat → (Nat → Int) → Int} {d tm tm2 l sl sl2 n : Nat} {v : Int} {g : q_G} {M M1 : q_M} {Q : Option q_V → q_G → q_M → Prop} (C : q_XI Vt tm l sl M) (I : q_MI Vt tm M) (R : q_Rtp M) (hn : M 1 1 = n) (h : q_TXP Vt tm l sl n M v tm2 sl2 M1)
    (hq : ∀ (Vt2 : Nat → Nat → (Nat → Int) → Int) (M2 : q_M), q_XI Vt2 tm2 l sl2 M2 → q_MI Vt2 tm2 M2 → q_Rtp M2 → (∀ a i, (1000 ≤ a ∨ (11 ≤ a ∧ a < 100) ∨ (a = 0 ∧ i = 6) ∨ (a = 100 ∧ (i = 0 ∨ i = 5 ∨ i = 11 ∨ i = 12)) ∨ (100 < a ∧ a < 124 ∧ a ≠ 105 ∧ a ≠ 106 ∧ a ≠ 107 ∧ a ≠ 115)) → M2 a i = M a i) → Q (some (qI v)) g M2) : q_S 1 (d + 11) 133 [qR 6 100] g M1 Q := by
  have h10 := I.2.2.2.2.1.2.2.1
  obtain ⟨r1, r2, r3⟩ := R
  rcases h with ⟨e1, e2, e3, e4, e5⟩ | ⟨e1, e2, e3, e4, e5, e6, f, e7, e8⟩ | ⟨e1, e2, e3, e4, e5, V, O, s, e6, e7, e8, e9⟩
  · subst e3
    subst e4
    subst e5
    rw [e2] at hq
    exact mp_textF (by omega) (hq Vt M1 C I ⟨r1, r2, r3⟩ (fun _ _ _ => rfl))
  · have I1 : q_MI Vt tm M1 := q_MI_same (fun a i ha => by unfold q_rel at ha; exact e5 a i (by omega)) I
    have et : M1 105 = M 2 := (funext (fun i => e5 105 i (by omega))).trans r1.symm
    have ew : q_mwd M1 := fun w c h1 h2 => (e5 114 _ (by omega)).trans (r3 w c h1 h2)
    subst e2
    subst e3
    refine mw_textX I1 ew e1 (by rw [e5 100 7 (by omega), ← r2]; exact hn) (by rw [et]; exact e8) (fun f2 M2 x1 x2 x3 x4 x5 => ?_) (fun M2 x1 _ _ _ _ _ _ _ => absurd x1 (by simp))
    injection x1 with x1
    rw [← x1, ← e7]
    have hfr : ∀ a i, a < 100 ∨ 124 ≤ a → M2 a i = M1 a i := fun a i ha => x3 a i (by omega) (by omega) (by omega) (by omega)
    refine hq Vt M2 (q_XI_mfw hfr e4) x2 ⟨?_, ?_, fun w c h1 h2 => (x3 114 _ (by omega) (by omega) (by omega) (by omega)).trans (ew w c h1 h2)⟩ (fun a i ha => (x3 a i (by omega) (by omega) (by omega) (by omega)).trans (e5 a i (by omega)))
    · rw [funext (fun i => hfr 2 i (by omega)), funext (fun i => x3 105 i (by omega) (by omega) (by omega) (by omega)), et]
      exact funext (fun i => e5 2 i (by omega))
    · rw [hfr 1 1 (by omega), e6, x4]
  · have I1 : q_MI Vt tm M1 := q_MI_same (fun a i ha => by unfold q_rel at ha; exact e4 a i (by omega)) I
    have et : M1 105 = M 2 := (funext (fun i => e4 105 i (by omega))).trans r1.symm
    have ew : q_mwd M1 := fun w c h1 h2 => (e4 114 _ (by omega)).trans (r3 w c h1 h2)
    subst e2
    refine mw_textX I1 ew e1 (by rw [e4 100 7 (by omega), ← r2]; exact hn) (by rw [et]; exact e8) (fun f2 M2 x1 _ _ _ _ => absurd x1 (by simp)) (fun M2 _ x2 x3 x4 x5 x6 x7 x8 => ?_)
    rw [← e3]
    have hfr : ∀ a i, a < 100 ∨ 124 ≤ a → M2 a i = M1 a i := fun a i ha => x3 a i (by omega) (by omega) (by omega) (by omega)
    refine hq (q_Tadd Vt tm V) M2 (q_XI_mfw hfr e6) (q_MI_V x2 (fun t ht => (e6.1.2.2.2 t ht).2.2.1) (fun t ht p hp N => ?_)) ⟨?_, ?_, fun w c h1 h2 => (x3 114 _ (by omega) (by omega) (by omega) (by omega)).trans (ew w c h1 h2)⟩ (fun a i ha => (x3 a i (by omega) (by omega) (by omega) (by omega)).trans (e4 a i (by omega)))
    · by_cases e : t = tm
      · subst e
        rw [show q_Vadd Vt t (q_V1 (fun i => M2 106 (200 * t + i)) (fun i => M2 107 (4 * t + i))) t = q_V1 (fun i => M2 106 (200 * t + i)) (fun i => M2 107 (4 * t + i)) from if_pos rfl, show q_Tadd Vt t V t = V from if_pos rfl]
        exact e9 _ _ x6 x7 x8 p hp N
      · rw [show q_Vadd Vt tm (q_V1 (fun i => M2 106 (200 * tm + i)) (fun i => M2 107 (4 * tm + i))) t = Vt t from if_neg e, show q_Tadd Vt tm V t = Vt t from if_neg e]
    · rw [funext (fun i => hfr 2 i (by omega)), funext (fun i => x3 105 i (by omega) (by omega) (by omega) (by omega)), et]
      exact funext (fun i => e4 2 i (by omega))
    · rw [hfr 1 1 (by omega), e5, x4]
