/-! THE MODEL: wrappers -/
theorem mw_run {Vt : Nat → Nat → (Nat → Int) → Int} {d tm : Nat} {g : q_G} {M : q_M} {n wt : Int} {Q : Option q_V → q_G → q_M → Prop} (hI : q_MI Vt tm M) (hq : ∀ (v : Int) (M2 : q_M), q_MI Vt tm M2 → q_mfr M M2 → Q (some (qI v)) g M2) : q_S 1 (d + 11) 156 [qR 6 100, qI n, qI wt] g M Q :=
  mp_run (d := d + 3) (q_MI_mi hI) (fun M2 h2 => hq _ _ (q_MI_mq h2 hI) (q_mfr_mq h2))
theorem mw_when {Vt : Nat → Nat → (Nat → Int) → Int} {d tm : Nat} {g : q_G} {M : q_M} {p wt : Int} {Q : Option q_V → q_G → q_M → Prop} (hI : q_MI Vt tm M) (hq : ∀ (v : Int) (M2 : q_M), q_MI Vt tm M2 → q_mfr M M2 → Q (some (qI v)) g M2) : q_S 1 (d + 11) 158 [qR 6 100, qI p, qI wt] g M Q :=
  mp_when (d := d + 2) (q_MI_mi hI) (fun M2 h2 => hq _ _ (q_MI_mq h2 hI) (q_mfr_mq h2))
theorem mw_cart {Vt : Nat → Nat → (Nat → Int) → Int} {d tm : Nat} {g : q_G} {M : q_M} {p wt : Int} {Q : Option q_V → q_G → q_M → Prop} (hI : q_MI Vt tm M) (hq : ∀ (v : Int) (M2 : q_M), q_MI Vt tm M2 → q_mfr M M2 → Q (some (qI v)) g M2) : q_S 1 (d + 11) 176 [qR 6 100, qI p, qI wt] g M Q :=
  mp_cart (d := d + 2) (q_MI_mi hI) (fun M2 h2 => hq _ _ (q_MI_mq h2 hI) (q_mfr_mq h2))
theorem mw_judge {Vt : Nat → Nat → (Nat → Int) → Int} {d tm : Nat} {g : q_G} {M : q_M} {s p : Int} {Q : Option q_V → q_G → q_M → Prop} (hI : q_MI Vt tm M) (hq : ∀ (v : Int) (M2 : q_M), q_MI Vt tm M2 → q_mfr M M2 → Q (some (qI v)) g M2) : q_S 1 (d + 11) 182 [qR 6 100, qI s, qI p] g M Q :=
  mp_judge (d := d + 2) (q_MI_mi hI) (fun M2 h2 => hq _ _ (q_MI_mq h2 hI) (q_mfr_mq h2))
theorem mw_kinds {Vt : Nat → Nat → (Nat → Int) → Int} {d tm : Nat} {g : q_G} {M : q_M} {s p so : Int} {Q : Option q_V → q_G → q_M → Prop} (hI : q_MI Vt tm M) (hq : ∀ (v : Int) (M2 : q_M), q_MI Vt tm M2 → q_mfr M M2 → Q (some (qI v)) g M2) : q_S 1 (d + 11) 183 [qR 6 100, qI s, qI p, qI so] g M Q :=
  mp_kinds (d := d + 2) (q_MI_mi hI) (fun M2 h2 => hq _ _ (q_MI_mq h2 hI) (q_mfr_mq h2))
theorem mw_states {Vt : Nat → Nat → (Nat → Int) → Int} {d tm : Nat} {g : q_G} {M : q_M} {s p so wt : Int} {Q : Option q_V → q_G → q_M → Prop} (hI : q_MI Vt tm M) (hq : ∀ (v : Int) (M2 : q_M), q_MI Vt tm M2 → q_mfr M M2 → Q (some (qI v)) g M2) : q_S 1 (d + 11) 184 [qR 6 100, qI s, qI p, qI so, qI wt] g M Q :=
  mp_states (d := d + 2) (q_MI_mi hI) (fun M2 h2 => hq _ _ (q_MI_mq h2 hI) (q_mfr_mq h2))
theorem mw_whose {Vt : Nat → Nat → (Nat → Int) → Int} {d tm : Nat} {g : q_G} {M : q_M} {s : Int} {Q : Option q_V → q_G → q_M → Prop} (hI : q_MI Vt tm M) (hq : ∀ (v : Int) (M2 : q_M), q_MI Vt tm M2 → q_mfr M M2 → Q (some (qI v)) g M2) : q_S 1 (d + 11) 185 [qR 6 100, qI s] g M Q :=
  mp_whose (d := d + 2) (q_MI_mi hI) (fun M2 h2 => hq _ _ (q_MI_mq h2 hI) (q_mfr_mq h2))
theorem mw_drawn {Vt : Nat → Nat → (Nat → Int) → Int} {d tm : Nat} {g : q_G} {M : q_M} {seed wt : Int} {Q : Option q_V → q_G → q_M → Prop} (hI : q_MI Vt tm M) (hq : ∀ (v : Int) (M2 : q_M), q_MI Vt tm M2 → q_mfr M M2 → Q (some (qI v)) g M2) : q_S 1 (d + 11) 189 [qR 6 100, qI seed, qI wt] g M Q :=
  mp_drawn (d := d + 2) (q_MI_mi hI) (fun M2 h2 => hq _ _ (q_MI_mq h2 hI) (q_mfr_mq h2))
theorem mw_odds {Vt : Nat → Nat → (Nat → Int) → Int} {d tm : Nat} {g : q_G} {M : q_M} {seed seeds most part : Int} {Q : Option q_V → q_G → q_M → Prop} (hI : q_MI Vt tm M) (hq : ∀ (v : Int) (M2 : q_M), q_MI Vt tm M2 → q_mfr M M2 → Q (some (qL v)) g M2) : q_S 1 (d + 11) 190 [qR 6 100, qI seed, qI seeds, qI most, qI part] g M Q :=
  mp_odds (d := d + 2) (q_MI_mi hI) (fun M2 h2 => hq _ _ (q_MI_mq h2 hI) (q_mfr_mq h2))
theorem mw_laws {Vt : Nat → Nat → (Nat → Int) → Int} {d tm : Nat} {g : q_G} {M : q_M} {s p : Int} {Q : Option q_V → q_G → q_M → Prop} (hI : q_MI Vt tm M) (hq : ∀ (v : Int) (M2 : q_M), q_MI Vt tm M2 → q_mfr M M2 → Q (some (qI v)) g M2) : q_S 1 (d + 11) 186 [qR 6 100, qI s, qI p] g M Q :=
  mp_laws (d := d + 2) (q_MI_mi hI) hI.2.2.2.2.1 (fun M2 h2 => hq _ _ (q_MI_mq h2 hI) (q_mfr_mq h2))
theorem mw_share {Vt : Nat → Nat → (Nat → Int) → Int} {d tm : Nat} {g : q_G} {M : q_M} {part : Int} {Q : Option q_V → q_G → q_M → Prop} (hI : q_MI Vt tm M) (hq : ∀ (v : Int) (M2 : q_M), q_MI Vt tm M2 → q_mfr M M2 → Q (some (qL v)) g M2) : q_S 1 (d + 11) 178 [qR 6 100, qI part] g M Q :=
  mp_share (d := d + 10) hI.1 (hq _ _ hI q_mfr_rf)
theorem mw_all {Vt : Nat → Nat → (Nat → Int) → Int} {d tm : Nat} {g : q_G} {M : q_M} {wt : Int} {Q : Option q_V → q_G → q_M → Prop} (hI : q_MI Vt tm M) (hq : ∀ (v : Int) (M2 : q_M), q_MI Vt tm M2 → q_mfr M M2 → Q (some (qI v)) g M2) : q_S 1 (d + 11) 174 [qR 6 100, qI wt] g M Q :=
  mp_allW (d := d + 5) (q_MI_mi hI).1 (fun v M2 h2 => hq _ _ (q_MI_mq h2 hI) (q_mfr_mq h2))
theorem mw_annex {Vt : Nat → Nat → (Nat → Int) → Int} {d tm : Nat} {g : q_G} {M : q_M} {wt : Int} {Q : Option q_V → q_G → q_M → Prop} (hI : q_MI Vt tm M) (hq : ∀ (v : Int) (M2 : q_M), q_MI Vt tm M2 → q_mfr M M2 → Q (some (qI v)) g M2) : q_S 1 (d + 11) 175 [qR 6 100, qI wt] g M Q :=
  mp_annexW (d := d + 5) (q_MI_mi hI).1 hI.2.2.1 (fun v M2 h2 => hq _ _ (q_MI_mq h2 hI) (q_mfr_mq h2))
set_option maxHeartbeats 4000000 in
theorem mw_peace {Vt : Nat → Nat → (Nat → Int) → Int} {d tm : Nat} {g : q_G} {M : q_M} {wt : Int} {Q : Option q_V → q_G → q_M → Prop} (hI : q_MI Vt tm M) (hq : ∀ (v : Int) (M2 : q_M), q_MI Vt tm M2 → q_mfr M M2 → Q (some (qI v)) g M2) : q_S 1 (d + 11) 167 [qR 6 100, qI wt] g M Q :=
  by
  by_cases c : 0 ≤ wt ∧ wt ≤ 2
  · exact mp_peace (d := d + 6) (q_MI_mi hI).1 c (fun M2 h2 => hq _ _ (q_MI_mq h2.1 hI) (q_mfr_mq h2.1))
  · rw [s_X6_peace]
    simp (disch := omega) only [b_X6_peace_0, x_loadI_1, x_iconst, y_if_ne_t, y_if_ne_f, b_X6_peace_9, x_ret0, b_X6_peace_12, x_loadR_0, x_loadS_0, b_X6_peace_20, x_goto, b_X6_peace_27, b_X6_peace_32, q_isL_I, q_isL_R, q_isL_S, true_and, and_true, and_self, List.length_nil, List.length_cons, Nat.zero_add, x_K, x_Kn, Int.reduceToNat, Nat.reduceAdd, Nat.reduceMul, Nat.reduceLeDiff, Nat.reduceLT, Nat.zero_le, Int.reduceAdd, Int.reduceSub, Int.reduceMul, Int.reduceNeg, q_add_e, q_sub_e, q_mul_e, q_neg_e, q_upd_s, q_upd_n, zr_shr0, zr_shr1, zr_shr2, zr_shr3, zr_shr4, zr_and, zr_dyn8, zr_or, zr_shl, q_cpy_n, y_cpy26, c_X6_in, mp_in, c, if_false]
    exact hq _ _ hI q_mfr_rf
set_option maxHeartbeats 4000000 in
theorem mw_court {Vt : Nat → Nat → (Nat → Int) → Int} {d tm : Nat} {g : q_G} {M : q_M} {wt : Int} {Q : Option q_V → q_G → q_M → Prop} (hI : q_MI Vt tm M) (hq : ∀ (v : Int) (M2 : q_M), q_MI Vt tm M2 → q_mfr M M2 → Q (some (qI v)) g M2) : q_S 1 (d + 11) 171 [qR 6 100, qI wt] g M Q :=
  by
  by_cases c : 0 ≤ wt ∧ wt ≤ 2
  · exact mp_court (d := d + 5) (q_MI_mi hI).1 c (fun M2 M3 h2 h3 => hq _ _ (q_MI_mq h3 hI) (q_mfr_mq h3))
  · rw [s_X6_court]
    simp (disch := omega) only [b_X6_court_0, x_loadI_1, x_iconst, y_if_ne_t, y_if_ne_f, b_X6_court_9, x_ret0, b_X6_court_12, x_loadR_0, x_loadS_0, b_X6_court_20, x_goto, b_X6_court_27, b_X6_court_32, q_isL_I, q_isL_R, q_isL_S, true_and, and_true, and_self, List.length_nil, List.length_cons, Nat.zero_add, x_K, x_Kn, Int.reduceToNat, Nat.reduceAdd, Nat.reduceMul, Nat.reduceLeDiff, Nat.reduceLT, Nat.zero_le, Int.reduceAdd, Int.reduceSub, Int.reduceMul, Int.reduceNeg, q_add_e, q_sub_e, q_mul_e, q_neg_e, q_upd_s, q_upd_n, zr_shr0, zr_shr1, zr_shr2, zr_shr3, zr_shr4, zr_and, zr_dyn8, zr_or, zr_shl, q_cpy_n, y_cpy26, c_X6_in, mp_in, c, if_false]
    exact hq _ _ hI q_mfr_rf
theorem mw_film {Vt : Nat → Nat → (Nat → Int) → Int} {d tm : Nat} {g : q_G} {M : q_M} {s p n : Int} {Q : Option q_V → q_G → q_M → Prop} (hI : q_MI Vt tm M) (hq : ∀ (v : Int) (M2 : q_M), q_MI Vt tm M2 → q_mfr M M2 → Q (some (qI v)) g M2) : q_S 1 (d + 11) 187 [qR 6 100, qI s, qI p, qI n] g M Q := by
  refine mp_film (d := d + 3) (q_MI_mi hI) (fun M2 h2 => ?_)
  have h : q_MI Vt tm (q_filmB (q_Vr Vt M) M s p n) ∧ q_mfr M (q_filmB (q_Vr Vt M) M s p n) := by
    unfold q_filmB
    split
    · rename_i c
      refine ⟨q_MI_same (M := q_upd M 111 s.toNat n) (fun a i ha => ?_) (q_MI_upS hI (by omega)), fun a i ha => q_flM_n (by omega) (by omega) (by omega)⟩
      by_cases e : a = 111
      · subst e
        by_cases e2 : i = s.toNat
        · subst e2
          rw [q_upd_s]
          unfold q_flM
          rw [if_neg (by omega), if_pos ⟨rfl, rfl⟩]
        · rw [q_upd_n (by omega)]
          unfold q_flM
          rw [if_neg (by omega), if_neg (by omega), if_neg (by omega)]
      · rw [q_upd_n (by omega)]
        unfold q_rel at ha
        exact q_flM_n (by omega) e (by omega)
    · exact ⟨hI, q_mfr_rf⟩
  exact hq _ _ (q_MI_mq h2 h.1) (q_mfr_tr h.2 (q_mfr_mq h2))
