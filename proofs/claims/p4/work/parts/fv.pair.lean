/-! BOTH SIDES: the calls that change, together -/
def q_mws (M M2 : q_M) : Prop := (∀ a i, a ≠ 101 → a ≠ 102 → a ≠ 103 → a ≠ 104 → (a = 100 → i ≠ 0) → M2 a i = M a i) ∧ M 100 0 ≤ M2 100 0 ∧ ∀ i, i < (M 100 0).toNat → M2 101 i = M 101 i ∧ M2 102 i = M 102 i
theorem q_mws_rf {M : q_M} : q_mws M M := ⟨fun _ _ _ _ _ _ _ => rfl, Int.le_refl _, fun _ _ => ⟨rfl, rfl⟩⟩
theorem q_mws_34 {M M2 : q_M} (h : ∀ a i, a ≠ 103 → a ≠ 104 → M2 a i = M a i) : q_mws M M2 := ⟨fun a i _ _ h1 h2 _ => h a i h1 h2, by rw [h 100 0 (by omega) (by omega)]; exact Int.le_refl _, fun i _ => ⟨h _ _ (by omega) (by omega), h _ _ (by omega) (by omega)⟩⟩
theorem q_mws_st {M M2 : q_M} (h : q_mst M M2) : q_mws M M2 := ⟨fun a i q1 q2 _ q4 q5 => h.1 a i q1 q2 q4 q5, h.2.1, h.2.2⟩
theorem my_build {Vt : Nat → Nat → (Nat → Int) → Int} {d tm : Nat} {g : q_G} {M : q_M} {b w v0 : Int} {Q : Option q_V → q_G → q_M → Prop} (hI : q_MI Vt tm M) (hq : ∀ M2 : q_M, q_MI Vt tm M2 → q_mfr M M2 → mW M2 = F_bdX (mW M) b w v0 → q_mws M M2 → Q (some (qI (B_bdC (mW M) b w v0))) g M2) : q_S 1 (d + 10) 119 [qR 6 100, qI b, qI w, qI v0] g M Q := by
  have key : q_S 1 (d + 10) 119 [qR 6 100, qI b, qI w, qI v0] g M (fun v g2 M2 => g2 = g ∧ v = some (qI (B_bdC (mW M) b w v0)) ∧ mW M2 = F_bdX (mW M) b w v0 ∧ q_mws M M2) := by
    refine mx_build hI (fun z => ⟨rfl, rfl, ?_, q_mws_rf⟩) (fun z M2 e f => ⟨rfl, rfl, ?_, q_mws_34 f⟩)
    · unfold F_bdX
      exact (if_neg z).symm
    · unfold F_bdX
      exact e.trans (if_pos z).symm
  refine q_S_mi (mw_build (d := d) hI (fun v M2 x y => ⟨⟨v, rfl⟩, x, y⟩)) key (fun v g2 M2 z i f => ?_)
  obtain ⟨z1, z2, z3, z4⟩ := z
  subst z1
  subst z2
  exact hq M2 i f z3 z4
theorem my_stone {Vt : Nat → Nat → (Nat → Int) → Int} {d tm : Nat} {g : q_G} {M : q_M} {km wh hv : Int} {Q : Option q_V → q_G → q_M → Prop} (hI : q_MI Vt tm M) (hq : ∀ M2 : q_M, q_MI Vt tm M2 → q_mfr M M2 → mW M2 = F_stX (mW M) km wh hv → q_mws M M2 → Q (some (qI (B_stn (mW M) km wh hv))) g M2) : q_S 1 (d + 10) 139 [qR 6 100, qI km, qI wh, qI hv] g M Q := by
  have key : q_S 1 (d + 10) 139 [qR 6 100, qI km, qI wh, qI hv] g M (fun v g2 M2 => g2 = g ∧ v = some (qI (B_stn (mW M) km wh hv)) ∧ mW M2 = F_stX (mW M) km wh hv ∧ q_mws M M2) := by
    refine mx_stone hI (fun z => ⟨rfl, rfl, ?_, q_mws_rf⟩) (fun z M2 e f k => ⟨rfl, rfl, ?_, fun a i q1 q2 _ q4 q5 => f a i q1 q2 q4 q5, ?_, k⟩)
    · unfold F_stX
      rw [mW_90, if_neg z]
    · unfold F_stX
      rw [mW_90, if_pos z]
      exact e
    · have e1 : mW M2 9 0 = F_add (mW M) km wh hv 9 0 := by rw [e]
      have e2 : F_add (mW M) km wh hv 9 0 = M 100 0 + 1 := q_upd_s
      have e3 : mW M2 9 0 = M2 100 0 := rfl
      omega
  refine q_S_mi (mw_stone (d := d) hI (fun v M2 x y => ⟨⟨v, rfl⟩, x, y⟩)) key (fun v g2 M2 z i f => ?_)
  obtain ⟨z1, z2, z3, z4⟩ := z
  subst z1
  subst z2
  exact hq M2 i f z3 z4
theorem my_put {Vt : Nat → Nat → (Nat → Int) → Int} {d tm : Nat} {g : q_G} {M : q_M} {p w v0 : Int} {Q : Option q_V → q_G → q_M → Prop} (hI : q_MI Vt tm M) (hq : ∀ M2 : q_M, q_MI Vt tm M2 → q_mfr M M2 → mW M2 = F_ptX (mW M) p w v0 → q_mws M M2 → Q (some (qI (B_put (mW M) p w v0))) g M2) : q_S 1 (d + 10) 140 [qR 6 100, qI p, qI w, qI v0] g M Q := by
  have key : q_S 1 (d + 10) 140 [qR 6 100, qI p, qI w, qI v0] g M (fun v g2 M2 => g2 = g ∧ v = some (qI (B_put (mW M) p w v0)) ∧ mW M2 = F_ptX (mW M) p w v0 ∧ q_mws M M2) := by
    refine mx_put hI (fun z => ⟨rfl, rfl, ?_, q_mws_rf⟩) (fun z M2 e f => ⟨rfl, rfl, ?_, q_mws_34 (fun a i _ h => f a i h)⟩)
    · unfold F_ptX
      exact (if_neg z).symm
    · unfold F_ptX
      exact e.trans (if_pos z).symm
  refine q_S_mi (mw_put (d := d) hI (fun v M2 x y => ⟨⟨v, rfl⟩, x, y⟩)) key (fun v g2 M2 z i f => ?_)
  obtain ⟨z1, z2, z3, z4⟩ := z
  subst z1
  subst z2
  exact hq M2 i f z3 z4
theorem my_stonesBy {Vt : Nat → Nat → (Nat → Int) → Int} {d tm : Nat} {g : q_G} {M : q_M} {s so fr n : Int} {Q : Option q_V → q_G → q_M → Prop} (hI : q_MI Vt tm M) (hq : ∀ M2 : q_M, q_MI Vt tm M2 → q_mfr M M2 → mW M2 = (B_sb M s so fr n).2 → q_mws M M2 → Q (some (qI ((B_sb M s so fr n).1))) g M2) (hfr : -2147483648 ≤ fr ∧ fr ≤ 2147483647) : q_S 1 (d + 11) 196 [qR 6 100, qI s, qI so, qI fr, qI n] g M Q := by
  have key : q_S 1 (d + 11) 196 [qR 6 100, qI s, qI so, qI fr, qI n] g M (fun v g2 M2 => g2 = g ∧ v = some (qI ((B_sb M s so fr n).1)) ∧ mW M2 = (B_sb M s so fr n).2 ∧ q_mws M M2) := by
    exact mx_stonesBy hI hfr (fun M2 e f => ⟨rfl, rfl, e, q_mws_st f⟩)
  refine q_S_mi (mw_stonesBy (d := d) hI (fun v M2 x y => ⟨⟨v, rfl⟩, x, y⟩) hfr) key (fun v g2 M2 z i f => ?_)
  obtain ⟨z1, z2, z3, z4⟩ := z
  subst z1
  subst z2
  exact hq M2 i f z3 z4
set_option maxHeartbeats 4000000 in
theorem my_year {Vt : Nat → Nat → (Nat → Int) → Int} {d tm : Nat} {g : q_G} {M : q_M} {Q : Option q_V → q_G → q_M → Prop} (hI : q_MI Vt tm M) (hq0 : M 100 5 = 999 → Q (some (qI (-3))) g M) (hq1 : M 100 5 ≠ 999 → ∀ M2 : q_M, q_MI Vt tm M2 → mW M2 = (G_year (q_Vr Vt M) (mW M)).2 → q_mz M M2 → Q (some (qI (G_year (q_Vr Vt M) (mW M)).1)) g M2) : q_S 1 (d + 10) 152 [qR 6 100] g M Q := by
  have n0 := hI.1.1
  rw [s_X6_year]
  have C := q_MI_mi hI
  have y0 := hI.1.2.1
  have y9 := hI.2.1
  by_cases c : M 100 5 = 999
  · simp (disch := omega) only [b_X6_year_0, x_loadR_0, x_loadS_0, f_6_5, x_iconst, y_ic_ne_t, y_ic_ne_f, b_X6_year_10, x_goto, b_X6_year_15, b_X6_year_19, x_ret0, q_isL_I, q_isL_R, q_isL_S, true_and, and_true, and_self, List.length_nil, List.length_cons, Nat.zero_add, x_K, x_Kn, Int.reduceToNat, Nat.reduceAdd, Nat.reduceMul, Nat.reduceLeDiff, Nat.reduceLT, Nat.zero_le, Int.reduceAdd, Int.reduceSub, Int.reduceMul, Int.reduceNeg, q_add_e, q_sub_e, q_mul_e, q_neg_e, q_upd_s, q_upd_n, zr_shr0, zr_shr1, zr_shr2, zr_shr3, zr_shr4, zr_and, zr_dyn8, zr_or, zr_shl, q_cpy_n, y_cpy26]
    exact hq0 c
  · have yk : ∀ (nx : Nat) (ops : List Instr) (ls st : List q_V), (∀ (M2 : q_M), q_ml (q_Vr Vt M) M2 → M2 100 5 = M 100 5 + 1 → mW M2 = (G_year (q_Vr Vt M) (mW M)).2 → q_mz M M2 → q_T 1 (d + 10) qP_X6_year nx ops ls (qI (G_year (q_Vr Vt M) (mW M)).1 :: st) g M2 Q) → q_S 1 (d + 9) 151 [qR 6 100] g M (q_K 1 (d + 10) qP_X6_year nx ops ls st Q) := fun nx ops ls st h => mp_year C.1 (by omega) (fun M2 h1 h2 h3 => h M2 h1 (G_year_y h2) h2 h3)
    simp (disch := omega) only [b_X6_year_0, x_loadR_0, x_loadS_0, f_6_5, x_iconst, y_ic_ne_t, y_ic_ne_f, b_X6_year_10, x_goto, b_X6_year_15, b_X6_year_19, x_ret0, q_isL_I, q_isL_R, q_isL_S, true_and, and_true, and_self, List.length_nil, List.length_cons, Nat.zero_add, x_K, x_Kn, Int.reduceToNat, Nat.reduceAdd, Nat.reduceMul, Nat.reduceLeDiff, Nat.reduceLT, Nat.zero_le, Int.reduceAdd, Int.reduceSub, Int.reduceMul, Int.reduceNeg, q_add_e, q_sub_e, q_mul_e, q_neg_e, q_upd_s, q_upd_n, zr_shr0, zr_shr1, zr_shr2, zr_shr3, zr_shr4, zr_and, zr_dyn8, zr_or, zr_shl, q_cpy_n, y_cpy26, c_X6_yearOf]
    refine yk _ _ _ _ (fun M2 m2 y2 w2 h2 => ?_)
    simp (disch := omega) only [b_X6_year_0, x_loadR_0, x_loadS_0, f_6_5, x_iconst, y_ic_ne_t, y_ic_ne_f, b_X6_year_10, x_goto, b_X6_year_15, b_X6_year_19, x_ret0, q_isL_I, q_isL_R, q_isL_S, true_and, and_true, and_self, List.length_nil, List.length_cons, Nat.zero_add, x_K, x_Kn, Int.reduceToNat, Nat.reduceAdd, Nat.reduceMul, Nat.reduceLeDiff, Nat.reduceLT, Nat.zero_le, Int.reduceAdd, Int.reduceSub, Int.reduceMul, Int.reduceNeg, q_add_e, q_sub_e, q_mul_e, q_neg_e, q_upd_s, q_upd_n, zr_shr0, zr_shr1, zr_shr2, zr_shr3, zr_shr4, zr_and, zr_dyn8, zr_or, zr_shl, q_cpy_n, y_cpy26]
    exact hq1 c M2 (q_MI_yr hI m2 (by omega) w2 h2) w2 h2
theorem my_film {Vt : Nat → Nat → (Nat → Int) → Int} {d tm : Nat} {g : q_G} {M : q_M} {s p n : Int} {Q : Option q_V → q_G → q_M → Prop} (hI : q_MI Vt tm M) (hq : ∀ M2 : q_M, q_MI Vt tm M2 → q_mfr M M2 → q_mq (q_filmB (q_Vr Vt M) M s p n) M2 → Q (some (qI (B_film M s p n))) g M2) : q_S 1 (d + 11) 187 [qR 6 100, qI s, qI p, qI n] g M Q := by
  have key : q_S 1 (d + 11) 187 [qR 6 100, qI s, qI p, qI n] g M (fun v g2 M2 => g2 = g ∧ v = some (qI (B_film M s p n)) ∧ q_mq (q_filmB (q_Vr Vt M) M s p n) M2) := mp_film (d := d + 3) (q_MI_mi hI) (fun M2 h2 => ⟨rfl, rfl, h2⟩)
  refine q_S_mi (mw_film (d := d) hI (fun v M2 x y => ⟨⟨v, rfl⟩, x, y⟩)) key (fun v g2 M2 z i f => ?_)
  obtain ⟨z1, z2, z3⟩ := z
  subst z1
  subst z2
  exact hq M2 i f z3
theorem my_sheet {Vt : Nat → Nat → (Nat → Int) → Int} {d tm : Nat} {g : q_G} {M : q_M} {s so n : Int} {Q : Option q_V → q_G → q_M → Prop} (hI : q_MI Vt tm M) (hq : ∀ M2 : q_M, q_MI Vt tm M2 → q_mfr M M2 → (A_sheet s so n ≠ 1 → M2 = M) → (A_sheet s so n = 1 → M2 110 s.toNat = so ∧ M2 111 s.toNat = (if so = -1 then 0 else n) ∧ (∀ i, i < 40 → M2 112 (40 * s.toNat + i) = 0) ∧ ∀ a i, (a = 110 ∨ a = 111 → i ≠ s.toNat) → (a = 112 → i < 40 * s.toNat ∨ 40 * s.toNat + 40 ≤ i) → M2 a i = M a i) → Q (some (qI (A_sheet s so n))) g M2) : q_S 1 (d + 11) 193 [qR 6 100, qI s, qI so, qI n] g M Q := by
  have key : q_S 1 (d + 11) 193 [qR 6 100, qI s, qI so, qI n] g M (fun v g2 M2 => g2 = g ∧ v = some (qI (A_sheet s so n)) ∧ (A_sheet s so n ≠ 1 → M2 = M) ∧ (A_sheet s so n = 1 → M2 110 s.toNat = so ∧ M2 111 s.toNat = (if so = -1 then 0 else n) ∧ (∀ i, i < 40 → M2 112 (40 * s.toNat + i) = 0) ∧ ∀ a i, (a = 110 ∨ a = 111 → i ≠ s.toNat) → (a = 112 → i < 40 * s.toNat ∨ 40 * s.toNat + 40 ≤ i) → M2 a i = M a i)) :=
    mx_sheet hI (fun z => ⟨rfl, rfl, fun _ => rfl, fun y => absurd y z⟩) (fun z M2 h1 h2 h3 h4 => ⟨rfl, by rw [z], fun y => absurd z y, fun _ => ⟨h1, h2, h3, h4⟩⟩)
  refine q_S_mi (mw_sheet (d := d) hI (fun M2 x y => ⟨⟨_, rfl⟩, x, y⟩)) key (fun v g2 M2 z i f => ?_)
  obtain ⟨z1, z2, z3, z4⟩ := z
  subst z1
  subst z2
  exact hq M2 i f z3 z4
theorem my_cell {Vt : Nat → Nat → (Nat → Int) → Int} {d tm : Nat} {g : q_G} {M : q_M} {s i v0 : Int} {Q : Option q_V → q_G → q_M → Prop} (hI : q_MI Vt tm M) (hq : ∀ M2 : q_M, q_MI Vt tm M2 → q_mfr M M2 → M2 = (if B_cell M s i = 1 then q_upd M 112 (40 * s.toNat + i.toNat) (F_cvt (M 110 s.toNat) v0) else M) → Q (some (qI (B_cell M s i))) g M2) : q_S 1 (d + 11) 194 [qR 6 100, qI s, qI i, qI v0] g M Q := by
  have key : q_S 1 (d + 11) 194 [qR 6 100, qI s, qI i, qI v0] g M (fun v g2 M2 => g2 = g ∧ v = some (qI (B_cell M s i)) ∧ M2 = (if B_cell M s i = 1 then q_upd M 112 (40 * s.toNat + i.toNat) (F_cvt (M 110 s.toNat) v0) else M)) :=
    mx_cell hI (fun z => ⟨rfl, rfl, by rw [if_neg z]⟩) (fun z => ⟨rfl, by rw [z], by rw [if_pos z]⟩)
  refine q_S_mi (mw_cell (d := d) hI (fun v M2 x y => ⟨⟨v, rfl⟩, x, y⟩)) key (fun v g2 M2 z i f => ?_)
  obtain ⟨z1, z2, z3⟩ := z
  subst z1
  subst z2
  exact hq M2 i f z3
theorem B_copy_c {M : q_M} {s i o j n : Int} : B_copy M s i o j n < 0 ∨ (B_copy M s i o j n = n ∧ 0 ≤ n) := by
  unfold B_copy
  split
  · exact Or.inl (by decide)
  · split
    · exact Or.inl (by decide)
    · split
      · exact Or.inl (by decide)
      · split
        · exact Or.inl (by decide)
        · exact Or.inr ⟨rfl, by omega⟩
theorem my_copy {Vt : Nat → Nat → (Nat → Int) → Int} {d tm : Nat} {g : q_G} {M : q_M} {s i o j n : Int} {Q : Option q_V → q_G → q_M → Prop} (hI : q_MI Vt tm M) (hq : ∀ M2 : q_M, q_MI Vt tm M2 → q_mfr M M2 → M2 = (if 0 ≤ B_copy M s i o j n then q_cpy M 112 (40 * s.toNat + i.toNat) 112 (40 * o.toNat + j.toNat) n.toNat else M) → Q (some (qI (B_copy M s i o j n))) g M2) : q_S 1 (d + 11) 195 [qR 6 100, qI s, qI i, qI o, qI j, qI n] g M Q := by
  have key : q_S 1 (d + 11) 195 [qR 6 100, qI s, qI i, qI o, qI j, qI n] g M (fun v g2 M2 => g2 = g ∧ v = some (qI (B_copy M s i o j n)) ∧ M2 = (if 0 ≤ B_copy M s i o j n then q_cpy M 112 (40 * s.toNat + i.toNat) 112 (40 * o.toNat + j.toNat) n.toNat else M)) :=
    mx_copy hI (fun z => ⟨rfl, rfl, by rw [if_neg (by omega)]⟩) (fun z z2 => ⟨rfl, by rw [z], by rw [if_pos (by omega)]⟩)
  refine q_S_mi (mw_copy (d := d) hI (fun v M2 x y => ⟨⟨v, rfl⟩, x, y⟩)) key (fun v g2 M2 z i f => ?_)
  obtain ⟨z1, z2, z3⟩ := z
  subst z1
  subst z2
  exact hq M2 i f z3
theorem my_image {Vt : Nat → Nat → (Nat → Int) → Int} {d tm : Nat} {g : q_G} {M : q_M} {Q : Option q_V → q_G → q_M → Prop} (hI : q_MI Vt tm M) (hq : ∀ M2 : q_M, q_MI Vt tm M2 → (∀ a i, a ≠ 108 → a ≠ 109 → (a = 100 → i ≠ 12) → M2 a i = M a i) → (∀ i, i < 15 → M2 108 i = M 104 i) → (∀ i, i < 20 → M2 108 (15 + i) = M 103 i) → M2 109 0 = M 100 0 → M2 109 1 = M 100 5 → M2 109 2 = M 100 11 → M2 100 12 = 1 → Q (some (qI (M 100 0))) g M2) : q_S 1 (d + 11) 191 [qR 6 100] g M Q := by
  refine q_S_mono (q_S_and (mw_image (d := d) (Q := fun _ _ M2 => q_MI Vt tm M2) hI (fun v M2 x _ _ _ _ _ _ => x)) (mx_image (d := d) (Q := fun v g2 M2 => g2 = g ∧ v = some (qI (M 100 0)) ∧ (∀ a i, a ≠ 108 → a ≠ 109 → (a = 100 → i ≠ 12) → M2 a i = M a i) ∧ (∀ i, i < 15 → M2 108 i = M 104 i) ∧ (∀ i, i < 20 → M2 108 (15 + i) = M 103 i) ∧ M2 109 0 = M 100 0 ∧ M2 109 1 = M 100 5 ∧ M2 109 2 = M 100 11 ∧ M2 100 12 = 1) hI (fun M2 a1 a2 a3 a4 a5 a6 a7 => ⟨rfl, rfl, a1, a2, a3, a4, a5, a6, a7⟩))) (fun v g2 M2 z => ?_)
  obtain ⟨i2, z1, z2, a1, a2, a3, a4, a5, a6, a7⟩ := z
  subst z1
  subst z2
  exact hq M2 i2 a1 a2 a3 a4 a5 a6 a7
theorem my_back {Vt : Nat → Nat → (Nat → Int) → Int} {d tm : Nat} {g : q_G} {M : q_M} {Q : Option q_V → q_G → q_M → Prop} (hI : q_MI Vt tm M) (hq0 : M 100 12 = 0 → Q (some (qI (-3))) g M) (hq1 : M 100 12 ≠ 0 → ∀ M2 : q_M, q_MI Vt tm M2 → (∀ a i, a ≠ 103 → a ≠ 104 → (a = 100 → i ≠ 0 ∧ i ≠ 5 ∧ i ≠ 11) → M2 a i = M a i) → (∀ i, i < 15 → M2 104 i = M 108 i) → (∀ i, i < 20 → M2 103 i = M 108 (15 + i)) → M2 100 0 = M 109 0 → M2 100 5 = M 109 1 → M2 100 11 = M 109 2 → Q (some (qI (M 109 0))) g M2) : q_S 1 (d + 11) 192 [qR 6 100] g M Q := by
  by_cases c : M 100 12 = 0
  · exact mx_back hI (fun _ => hq0 c) (fun z => absurd c z)
  · refine q_S_mono (q_S_and (mw_back (d := d) (Q := fun _ _ M2 => q_MI Vt tm M2) hI (fun v M2 x _ _ _ _ _ _ => x)) (mx_back (d := d) (Q := fun v g2 M2 => g2 = g ∧ v = some (qI (M 109 0)) ∧ (∀ a i, a ≠ 103 → a ≠ 104 → (a = 100 → i ≠ 0 ∧ i ≠ 5 ∧ i ≠ 11) → M2 a i = M a i) ∧ (∀ i, i < 15 → M2 104 i = M 108 i) ∧ (∀ i, i < 20 → M2 103 i = M 108 (15 + i)) ∧ M2 100 0 = M 109 0 ∧ M2 100 5 = M 109 1 ∧ M2 100 11 = M 109 2) hI (fun z => absurd z c) (fun _ M2 a1 a2 a3 a4 a5 a6 => ⟨rfl, rfl, a1, a2, a3, a4, a5, a6⟩))) (fun v g2 M2 z => ?_)
    obtain ⟨i2, z1, z2, a1, a2, a3, a4, a5, a6⟩ := z
    subst z1
    subst z2
    exact hq1 c M2 i2 a1 a2 a3 a4 a5 a6
/-! sheets on both sides -/
theorem q_shM_v {M : q_M} {a : Nat} {so n : Int} {f : Nat → Int} : q_shM M a so n f a 1 = so ∧ q_shM M a so n f a 2 = n ∧ ∀ i, i < 40 → q_shM M a so n f (a + 1) i = f i := by
  unfold q_shM
  refine ⟨?_, ?_, fun i hi => ?_⟩
  · rw [if_neg (by omega), if_pos ⟨rfl, rfl⟩]
  · rw [if_neg (by omega), if_neg (by omega), if_pos ⟨rfl, rfl⟩]
  · rw [if_pos ⟨rfl, hi⟩]
/-- one sheet has changed, alike on both sides -/
theorem q_Rsh_one {M M2 : q_M} {S : Nat} (R : q_Rsh M) (h1 : ∀ a i, a ≠ 6 + (86 + 2 * S) → a ≠ 6 + (86 + 2 * S) + 1 → (92 ≤ a ∧ a < 100) → M2 a i = M a i) (h2 : ∀ a i, (a = 110 ∨ a = 111) → i ≠ S → M2 a i = M a i) (h3 : ∀ i, (i < 40 * S ∨ 40 * S + 40 ≤ i) → M2 112 i = M 112 i) (h4 : M2 (6 + (86 + 2 * S)) 1 = M2 110 S ∧ M2 (6 + (86 + 2 * S)) 2 = M2 111 S ∧ ∀ i, i < 40 → M2 (6 + (86 + 2 * S) + 1) i = M2 112 (40 * S + i)) : q_Rsh M2 := by
  intro s hs
  by_cases e : s = S
  · subst e
    exact h4
  · obtain ⟨r1, r2, r3⟩ := R s hs
    exact ⟨by rw [h1 _ _ (by omega) (by omega) (by omega), h2 _ _ (by omega) e]; exact r1, by rw [h1 _ _ (by omega) (by omega) (by omega), h2 _ _ (by omega) e]; exact r2, fun i hi => by rw [h1 _ _ (by omega) (by omega) (by omega), h3 _ (by omega)]; exact r3 i hi⟩
theorem q_Rsh_sheet {M M1 M2 : q_M} {s so n : Int} (R : q_Rsh M) (e1 : M1 = q_sheetM M s so n) (h0 : A_sheet s so n ≠ 1 → M2 = M1) (hf : ∀ a i, a < 100 → M2 a i = M1 a i) (h1 : A_sheet s so n = 1 → M2 110 s.toNat = so ∧ M2 111 s.toNat = (if so = -1 then 0 else n) ∧ (∀ i, i < 40 → M2 112 (40 * s.toNat + i) = 0) ∧ ∀ a i, (a = 110 ∨ a = 111 → i ≠ s.toNat) → (a = 112 → i < 40 * s.toNat ∨ 40 * s.toNat + 40 ≤ i) → M2 a i = M1 a i) : q_Rsh M2 := by
  by_cases c : A_sheet s so n = 1
  · have eM : M1 = q_shM M (6 + (86 + 2 * s.toNat)) so (if so = -1 then 0 else n) (fun _ => 0) := by rw [e1]; unfold q_sheetM; rw [if_pos c]
    obtain ⟨g1, g2, g3, g4⟩ := h1 c
    have hs : s.toNat < 4 := by unfold A_sheet at c; omega
    have v := q_shM_v (M := M) (a := 6 + (86 + 2 * s.toNat)) (so := so) (n := if so = -1 then 0 else n) (f := fun _ => 0)
    rw [← eM] at v
    refine q_Rsh_one (S := s.toNat) R (fun a i q1 q2 q3 => ?_) (fun a i q1 q2 => ?_) (fun i q => ?_) ⟨?_, ?_, fun i hi => ?_⟩
    · rw [hf a i (by omega), eM]
      exact q_shM_n q1 q2
    · rw [g4 a i (fun _ => q2) (by omega), eM]
      exact q_shM_n (by omega) (by omega)
    · rw [g4 112 i (by omega) (fun _ => q), eM]
      exact q_shM_n (by omega) (by omega)
    · rw [hf _ _ (by omega), v.1, g1]
    · rw [hf _ _ (by omega), v.2.1, g2]
    · rw [hf _ _ (by omega), v.2.2 i hi, g3 i hi]
  · have eM : M1 = M := by rw [e1]; unfold q_sheetM; rw [if_neg c]
    rw [h0 c, eM]
    exact R
theorem AB_cell {M : q_M} {s i : Int} (R : q_Rsh M) : A_cell M s i = B_cell M s i := by
  unfold A_cell B_cell
  by_cases c : 0 ≤ s ∧ s < 4
  · obtain ⟨r1, r2, _⟩ := R s.toNat (by omega)
    rw [r1, r2]
  · rw [if_pos c, if_pos c]
theorem q_Rsh_cell {M M1 M2 : q_M} {s i v : Int} (R : q_Rsh M) (e1 : M1 = q_cellM M s i v) (e2 : M2 = (if B_cell M1 s i = 1 then q_upd M1 112 (40 * s.toNat + i.toNat) (F_cvt (M1 110 s.toNat) v) else M1)) (hB : B_cell M1 s i = B_cell M s i) (hz : ∀ t, t < 4 → M 111 t ≤ 40) : q_Rsh M2 := by
  have eA := AB_cell (s := s) (i := i) R
  rw [hB] at e2
  by_cases c : B_cell M s i = 1
  · have eM : M1 = q_upd M (6 + (86 + 2 * s.toNat) + 1) i.toNat (F_cvt (M (6 + (86 + 2 * s.toNat)) 1) v) := by rw [e1]; unfold q_cellM; rw [eA, if_pos c]
    rw [if_pos c] at e2
    have hc := c
    unfold B_cell at hc
    have hs : s.toNat < 4 := by omega
    obtain ⟨r1, r2, r3⟩ := R s.toNat hs
    have hi : 0 ≤ i ∧ i < M 111 s.toNat := by
      split at hc
      · omega
      · split at hc
        · omega
        · split at hc <;> omega
    have hzs := hz s.toNat hs
    have e110 : M1 110 s.toNat = M 110 s.toNat := by rw [eM, q_upd_n (by omega)]
    rw [e110] at e2
    refine q_Rsh_one (S := s.toNat) R (fun a j q1 q2 q3 => ?_) (fun a j q1 q2 => ?_) (fun j q => ?_) ⟨?_, ?_, fun j hj => ?_⟩
    · rw [e2, q_upd_n (by omega), eM, q_upd_n (by omega)]
    · rw [e2, q_upd_n (by omega), eM, q_upd_n (by omega)]
    · by_cases z : j = 40 * s.toNat + i.toNat
      · exfalso
        omega
      · rw [e2, q_upd_n (by omega), eM, q_upd_n (by omega)]
    · rw [e2, q_upd_n (by omega), q_upd_n (by omega), eM, q_upd_n (by omega), q_upd_n (by omega)]
      exact r1
    · rw [e2, q_upd_n (by omega), q_upd_n (by omega), eM, q_upd_n (by omega), q_upd_n (by omega)]
      exact r2
    · by_cases z : j = i.toNat
      · rw [e2, q_upd_n (by omega), z, q_upd_s, eM, q_upd_s, r1]
      · rw [e2, q_upd_n (by omega), q_upd_n (by omega), eM, q_upd_n (by omega), q_upd_n (by omega)]
        exact r3 j hj
  · have eM : M1 = M := by rw [e1]; unfold q_cellM; rw [eA, if_neg c]
    rw [e2, if_neg c, eM]
    exact R
