section
/-! BOTH SIDES: questions, what they leave -/
set_option maxHeartbeats 4000000 in
theorem cf_states {Vt : Nat → Nat → (Nat → Int) → Int} {d tm l sl : Nat} {g : q_G} {M : q_M} {s p so wt : Int} {Q : Option q_V → q_G → q_M → Prop} (C : q_XI Vt tm l sl M) (hq : ∀ (v : Int) (M2 : q_M), q_tq M M2 → Q (some (qI v)) g M2) : q_S 1 (d + 50) 85 [qR 5 0, qI s, qI p, qI so, qI wt] g M Q := by
  have T := C.1
  have c := C.2.2.1
  have w := c.2.1
  have n5 := q_ci_n c
  have tas := c.1
  exact sp_states (d := d + 44) c (fun M2 h => hq _ M2 h)
theorem mf_states {Vt : Nat → Nat → (Nat → Int) → Int} {d tm : Nat} {g : q_G} {M : q_M} {s p so wt : Int} {Q : Option q_V → q_G → q_M → Prop} (hI : q_MI Vt tm M) (hq : ∀ (v : Int) (M2 : q_M), q_mq M M2 → Q (some (qI v)) g M2) : q_S 1 (d + 11) 184 [qR 6 100, qI s, qI p, qI so, qI wt] g M Q :=
  mp_states (d := d + 2) (q_MI_mi hI) (fun M2 h2 => hq _ _ h2)
end
section
/-! THE CLASS: calls that change, just so -/
def F_bdX (S : q_M) (b w v : Int) : q_M := if (0 ≤ b ∧ b ≤ 4) ∧ (0 ≤ w ∧ w ≤ 3) ∧ ((if w = 1 then F_cnt (S 4) b (F_n S) else 0) ≤ v ∧ v ≤ (if w = 1 then 5 else 99)) then F_bd S b.toNat w v else S
def F_stX (S : q_M) (km wh hv : Int) : q_M := if F_stB km wh hv = true ∧ S 9 0 ≠ 5 then F_add S km wh hv else S
def F_ptX (S : q_M) (p w v : Int) : q_M := if (0 ≤ p ∧ p ≤ S 9 0 - 1) ∧ (0 ≤ w ∧ w ≤ 1) ∧ (0 ≤ v ∧ v ≤ 99) then F_pt S p.toNat w v else S
theorem cW_bdM {M : q_M} {b : Nat} {w v : Int} (hb : b < 5) (hw : 0 ≤ w ∧ w ≤ 3) : cW (q_bdM M b w v) 11 = F_bd (cW M 11) b w v := by
  unfold q_bdM F_bd
  split
  · exact cW_mvM (w := 11) hb
  · split
    · exact cW_up6 (w := 11) hb
    · split
      · exact cW_up7 (w := 11) hb
      · exact cW_up8 (w := 11) hb
set_option maxHeartbeats 4000000 in
theorem cx_build {Vt : Nat → Nat → (Nat → Int) → Int} {d tm l sl : Nat} {g : q_G} {M : q_M} {b w v0 : Int} {Q : Option q_V → q_G → q_M → Prop} (C : q_XI Vt tm l sl M) (hq : ∀ (l2 : Nat) (M2 : q_M), q_XI Vt tm l2 sl M2 → q_cfr M M2 → cW M2 11 = F_bdX (cW M 11) b w v0 → (∀ a i, 65 ≤ a → a < 100 → M2 a i = M a i) → Q (some (qI (B_bdC (cW M 11) b w v0))) g M2) : q_S 1 (d + 50) 64 [qR 5 0, qI b, qI w, qI v0] g M Q := by
  have T := C.1
  have c := C.2.2.1
  have w0 := c.2.1
  have n5 := q_ci_n c
  have ec : ∀ B : Nat, F_cnt (cW M 11 4) B (F_n (cW M 11)) = F_cnt (M (12 + 2)) B (M 12 5).toNat := fun B => F_cnt_cong _ (fun k hk => if_pos hk)
  have fail : ∀ x : Int, B_bdC (cW M 11) b w v0 = x → F_bdX (cW M 11) b w v0 = cW M 11 → Q (some (qI x)) g M := by
    intro x h1 h2
    have h := hq l M C q_cfr_rf h2.symm (fun _ _ _ _ => rfl)
    rw [h1] at h
    exact h
  by_cases c1 : 0 ≤ b ∧ b < 5
  · obtain ⟨B, rfl⟩ : ∃ B : Nat, b = B := ⟨b.toNat, by omega⟩
    have hcl := F_cnt_le (M (12 + 2)) B (M 12 5).toNat
    have c1b : 0 ≤ (B : Int) ∧ (B : Int) ≤ 4 := by omega
    by_cases c2 : w < 0 ∨ 3 < w ∨ v0 < 0 ∨ 99 < v0 ∨ (w = 1 ∧ (5 < v0 ∨ v0 < F_cnt (M (12 + 2)) B (M 12 5).toNat))
    · refine sp_buildG (d := d + 49) (by omega) n5.1 n5.2 c2 (fail _ ?_ ?_)
      · unfold B_bdC
        rw [if_neg (fun z => z c1b), ec, if_pos]
        by_cases k : w = 1
        · rw [if_pos k, if_pos k]; omega
        · rw [if_neg k, if_neg k]; omega
      · unfold F_bdX
        rw [ec, if_neg]
        by_cases k : w = 1
        · rw [if_pos k, if_pos k]; omega
        · rw [if_neg k, if_neg k]; omega
    · have hk : (if w = 1 then F_cnt (M (12 + 2)) B (M 12 5).toNat else 0) ≤ v0 ∧ v0 ≤ (if w = 1 then (5 : Int) else 99) := by
        by_cases k : w = 1
        · rw [if_pos k, if_pos k]; omega
        · rw [if_neg k, if_neg k]; omega
      have hA : B_bdC (cW M 11) B w v0 = F_site (cW M 11) B w := by
        unfold B_bdC
        rw [if_neg (fun z => z c1b), ec, if_neg (fun z => z.elim (fun z => z (by omega)) (fun z => z hk)), Int.toNat_natCast]
      have hF : F_bdX (cW M 11) B w v0 = F_bd (cW M 11) B w v0 := by
        unfold F_bdX
        rw [ec, if_pos ⟨c1b, by omega, hk⟩, Int.toNat_natCast]
      rw [hA, hF] at hq
      have hw : q_wl (Vt l) (q_bdM M B w v0) 11 (q_ta l) := by
        unfold q_bdM
        split
        · exact q_wl_mvM w0 (by omega) (by omega)
        · split
          · exact q_wl_up2 w0 (Or.inr (Or.inl ⟨rfl, by omega, by omega⟩))
          · split
            · exact q_wl_up2 w0 (Or.inr (Or.inr (Or.inl ⟨rfl, by omega, by omega, by omega⟩)))
            · exact q_wl_up w0 (Or.inr (Or.inr (Or.inl ⟨rfl, by omega, by omega, by omega⟩)))
      exact sp_build (d := d + 48) (by omega) n5.1 n5.2 (by omega) (by omega) (fun z => by omega) (hq l _ (q_XI_w C (fun a i ha => q_bdM_f (by omega) (by omega) (by omega) (by omega) (by omega)) hw rfl (by rw [q_bdM_f (by omega) (by omega) (by omega) (by omega) (by omega)]; exact c.2.2.2.2.2.1) (fun a h1 h2 => q_bdM_f (by omega) (by omega) (by omega) (by omega) (by omega))) (fun a i ha => q_bdM_f (by omega) (by omega) (by omega) (by omega) (by omega)) (cW_bdM (by omega) (by omega)) (fun a i h1 h2 => q_bdM_f (by omega) (by omega) (by omega) (by omega) (by omega)))
  · refine sp_buildF (d := d + 49) c1 (fail _ ?_ ?_)
    · unfold B_bdC
      rw [if_pos (by omega)]
    · unfold F_bdX
      rw [if_neg (by omega)]
set_option maxHeartbeats 4000000 in
theorem cx_stone {Vt : Nat → Nat → (Nat → Int) → Int} {d tm l sl : Nat} {g : q_G} {M : q_M} {km wh hv : Int} {Q : Option q_V → q_G → q_M → Prop} (C : q_XI Vt tm l sl M) (hq : ∀ (l2 : Nat) (M2 : q_M), q_XI Vt tm l2 sl M2 → q_cfr M M2 → cW M2 11 = F_stX (cW M 11) km wh hv → (∀ a i, 65 ≤ a → a < 100 → M2 a i = M a i) → Q (some (qI (B_stn (cW M 11) km wh hv))) g M2) : q_S 1 (d + 50) 70 [qR 5 0, qI km, qI wh, qI hv] g M Q := by
  have T := C.1
  have c := C.2.2.1
  have w := c.2.1
  have n5 := q_ci_n c
  have tas := c.1
  have e9 : cW M 11 9 0 = M 12 5 := rfl
  by_cases h : 0 ≤ km ∧ km < 60 ∧ 0 ≤ wh ∧ wh < 100 ∧ 0 ≤ hv ∧ hv < 100
  · have eb : F_stB km wh hv = true := decide_eq_true h
    refine sp_stone (d := d + 49) h n5.1 n5.2 ?_
    by_cases h5 : M 12 5 = 5
    · have hA : B_stn (cW M 11) km wh hv = -4 := by unfold B_stn; rw [eb, e9, if_neg (show ¬true = false by decide), if_pos h5]
      have hF : F_stX (cW M 11) km wh hv = cW M 11 := by unfold F_stX; rw [e9]; exact if_neg (fun z => z.2 h5)
      rw [hA, hF] at hq
      rw [if_pos h5]
      exact hq l M C q_cfr_rf rfl (fun _ _ _ _ => rfl)
    · have hA : B_stn (cW M 11) km wh hv = M 12 5 := by unfold B_stn; rw [eb, e9, if_neg (show ¬true = false by decide), if_neg h5]
      have hF : F_stX (cW M 11) km wh hv = F_add (cW M 11) km wh hv := by unfold F_stX; rw [e9]; exact if_pos ⟨eb, h5⟩
      rw [hA, hF] at hq
      rw [if_neg h5]
      have hx := q_XI_ad C h h5
      exact hq l _ hx.1 hx.2 (cW_adM (w := 11) n5.1 (show M 12 5 < 5 by omega)) (fun a i h1 h2 => q_adM_f (by omega))
  · have eb : F_stB km wh hv = false := decide_eq_false h
    have hA : B_stn (cW M 11) km wh hv = -2 := by unfold B_stn; rw [eb, if_pos rfl]
    have hF : F_stX (cW M 11) km wh hv = cW M 11 := by unfold F_stX; rw [eb]; exact if_neg (fun z => absurd z.1 (by decide))
    rw [hA, hF] at hq
    exact sp_stoneF (by omega) (hq l M C q_cfr_rf rfl (fun _ _ _ _ => rfl))
set_option maxHeartbeats 4000000 in
theorem cx_put {Vt : Nat → Nat → (Nat → Int) → Int} {d tm l sl : Nat} {g : q_G} {M : q_M} {p wt v0 : Int} {Q : Option q_V → q_G → q_M → Prop} (C : q_XI Vt tm l sl M) (hq : ∀ (l2 : Nat) (M2 : q_M), q_XI Vt tm l2 sl M2 → q_cfr M M2 → cW M2 11 = F_ptX (cW M 11) p wt v0 → (∀ a i, 65 ≤ a → a < 100 → M2 a i = M a i) → Q (some (qI (B_put (cW M 11) p wt v0))) g M2) : q_S 1 (d + 50) 71 [qR 5 0, qI p, qI wt, qI v0] g M Q := by
  have T := C.1
  have c := C.2.2.1
  have w := c.2.1
  have n5 := q_ci_n c
  have tas := c.1
  have e9 : cW M 11 9 0 = M 12 5 := rfl
  by_cases c1 : 0 ≤ p ∧ p < M 12 5
  · have c1b : 0 ≤ p ∧ p ≤ M 12 5 - 1 := by omega
    by_cases c2 : wt < 0 ∨ 1 < wt ∨ v0 < 0 ∨ 99 < v0
    · have c2b : ¬((0 ≤ wt ∧ wt ≤ 1) ∧ (0 ≤ v0 ∧ v0 ≤ 99)) := by omega
      have hA : B_put (cW M 11) p wt v0 = -7 := by unfold B_put; rw [e9, if_neg (show ¬¬(0 ≤ p ∧ p ≤ M 12 5 - 1) from fun z => z c1b), if_pos c2b]
      have hF : F_ptX (cW M 11) p wt v0 = cW M 11 := by unfold F_ptX; rw [e9]; exact if_neg (fun z => c2b z.2)
      rw [hA, hF] at hq
      exact sp_putG (d := d + 49) c1 c2 (hq l M C q_cfr_rf rfl (fun _ _ _ _ => rfl))
    · have c2b : (0 ≤ wt ∧ wt ≤ 1) ∧ (0 ≤ v0 ∧ v0 ≤ 99) := by omega
      obtain ⟨P, rfl⟩ : ∃ n : Nat, p = n := ⟨p.toNat, by omega⟩
      have hp : P < (M 12 5).toNat := by omega
      have e2 : cW M 11 2 P = M (11 + 24) P := if_pos hp
      have e3 : cW M 11 3 P = M (11 + 25) P := if_pos hp
      have hF : F_ptX (cW M 11) P wt v0 = F_pt (cW M 11) P wt v0 := by unfold F_ptX; rw [e9, if_pos ⟨c1b, c2b⟩, Int.toNat_natCast]
      rcases (show wt = 0 ∨ wt = 1 by omega) with e | e
      · subst e
        have hA : B_put (cW M 11) P 0 v0 = M (11 + 24) P := by unfold B_put; rw [e9, if_neg (show ¬¬(0 ≤ (P : Int) ∧ (P : Int) ≤ M 12 5 - 1) from fun z => z c1b), if_neg (fun z => z c2b), if_pos rfl, Int.toNat_natCast, e2]
        rw [hA, hF] at hq
        exact sp_put0 (d := d + 49) hp n5.2 (by omega) (hq l _ (q_XI_w C (fun a i ha => by rw [q_upd_n (by omega), q_upd_n (by omega)]) (q_wl_up (q_wl_up w (Or.inl ⟨rfl, by omega, by omega⟩)) (Or.inr (Or.inl ⟨rfl, by omega, by omega⟩))) rfl (by rw [q_upd_n (by omega), q_upd_n (by omega)]; exact c.2.2.2.2.2.1) (fun a h1 h2 => by rw [q_upd_n (by omega), q_upd_n (by omega)])) (fun a i ha => by rw [q_upd_n (by omega), q_upd_n (by omega)]) (by unfold F_pt; rw [if_pos rfl]; exact cW_lay (w := 11) hp) (fun a i h1 h2 => by rw [q_upd_n (by omega), q_upd_n (by omega)]))
      · subst e
        have hA : B_put (cW M 11) P 1 v0 = M (11 + 25) P := by unfold B_put; rw [e9, if_neg (show ¬¬(0 ≤ (P : Int) ∧ (P : Int) ≤ M 12 5 - 1) from fun z => z c1b), if_neg (fun z => z c2b), if_neg (show ¬(1 : Int) = 0 by decide), Int.toNat_natCast, e3]
        rw [hA, hF] at hq
        exact sp_put1 (d := d + 49) hp n5.2 (by omega) (hq l _ (q_XI_w C (fun a i ha => by rw [q_upd_n (by omega)]) (q_wl_up2 w (Or.inl ⟨rfl, by omega, by omega⟩)) rfl (by rw [q_upd_n (by omega)]; exact c.2.2.2.2.2.1) (fun a h1 h2 => by rw [q_upd_n (by omega)])) (fun a i ha => by rw [q_upd_n (by omega)]) (by unfold F_pt; rw [if_neg (by decide)]; exact cW_up3 (w := 11) hp) (fun a i h1 h2 => by rw [q_upd_n (by omega)]))
  · have hA : B_put (cW M 11) p wt v0 = -5 := by unfold B_put; rw [e9]; exact if_pos (by omega)
    have hF : F_ptX (cW M 11) p wt v0 = cW M 11 := by unfold F_ptX; rw [e9]; exact if_neg (by omega)
    rw [hA, hF] at hq
    exact sp_putF (d := d + 49) c1 (hq l M C q_cfr_rf rfl (fun _ _ _ _ => rfl))
set_option maxHeartbeats 4000000 in
theorem cx_year {Vt : Nat → Nat → (Nat → Int) → Int} {d tm l sl : Nat} {g : q_G} {M : q_M} {Q : Option q_V → q_G → q_M → Prop} (C : q_XI Vt tm l sl M) (hq0 : ¬M 11 9 < 999 → Q (some (qI (-3))) g M) (hq1 : M 11 9 < 999 → ∀ M2 : q_M, q_XI Vt tm l sl M2 → cW M2 11 = (F_year (Vt l) (cW M 11)).2 → (∀ a i, (a ≠ 11 ∨ i ≠ 9) → a ≠ 37 → a ≠ q_ta l + 2 → (i < 5 → a ≠ 14 ∧ a ≠ 32 ∧ a ≠ 35 ∧ (a < 16 ∨ (21 ≤ a ∧ a < 23) ∨ 28 ≤ a)) → M2 a i = M a i) → Q (some (qI (F_year (Vt l) (cW M 11)).1)) g M2) : q_S 1 (d + 50) 74 [qR 5 0] g M Q := by
  have T := C.1
  have c := C.2.2.1
  have w := c.2.1
  have n5 := q_ci_n c
  have tas := c.1
  have y9 := c.2.2.2.2.2.1
  by_cases h : M 11 9 < 999
  · refine sp_year (d := d + 45) w c.2.2.2.1.1 h (fun M2 h1 h2 h3 => ?_)
    have hta := q_ta_b (t := l) (by have := T.2.1; have := C.2.1; omega)
    have hy := F_year_y h2
    have hs : ∀ a i, (a ≠ 11 ∨ i ≠ 9) → a ≠ 37 → a ≠ q_ta l + 2 → (i < 5 → a ≠ 14 ∧ a ≠ 32 ∧ a ≠ 35 ∧ (a < 16 ∨ (21 ≤ a ∧ a < 23) ∨ 28 ≤ a)) → M2 a i = M a i := h3
    exact hq1 h M2 (q_XI_w C (fun a i ha => hs a i (by omega) (by omega) (by omega) (fun _ => by omega)) h1 rfl (by omega) (fun a q1 q2 => hs a 5 (by omega) (by omega) (by omega) (fun z => by omega))) h2 hs
  · rw [s_X5_year]
    simp (disch := omega) only [b_X5_year_0, x_loadR_0, x_loadS_0, f_5_3, f_4_9, x_iconst, y_ic_lt_t, y_ic_lt_f, b_X5_year_13, x_ret0, b_X5_year_16, q_isL_I, q_isL_R, q_isL_S, true_and, and_true, and_self, List.length_nil, List.length_cons, Nat.zero_add, x_K, x_Kn, Int.reduceToNat, Nat.reduceAdd, Nat.reduceMul, Nat.reduceLeDiff, Nat.reduceLT, Nat.zero_le, Int.reduceAdd, Int.reduceSub, Int.reduceMul, Int.reduceNeg, q_add_e, q_sub_e, q_mul_e, q_neg_e, q_upd_s, q_upd_n, zr_shr0, zr_shr1, zr_shr2, zr_shr3, zr_shr4, zr_and, zr_dyn8, zr_or, zr_shl, q_cpy_n, y_cpy26]
    exact hq0 h
set_option maxHeartbeats 4000000 in
theorem cx_film {Vt : Nat → Nat → (Nat → Int) → Int} {d tm l sl : Nat} {g : q_G} {M : q_M} {s p n : Int} {Q : Option q_V → q_G → q_M → Prop} (C : q_XI Vt tm l sl M) (hq : ∀ M2 : q_M, q_XI Vt tm l sl M2 → q_cfr M M2 → q_tq (q_filmM (Vt l) M s p n) M2 → Q (some (qI (A_film M s p n))) g M2) : q_S 1 (d + 50) 88 [qR 5 0, qI s, qI p, qI n] g M Q := by
  have c := C.2.2.1
  refine sp_film (d := d + 44) c (fun M2 h => ?_)
  have hx : q_XI Vt tm l sl (q_filmM (Vt l) M s p n) ∧ q_cfr M (q_filmM (Vt l) M s p n) := by
    unfold q_filmM
    split
    · exact q_XI_one (S := s.toNat) C (by omega) (fun a i h1 h2 => q_shM_n h1 h2) (by rw [q_shM_2]; omega)
    · exact ⟨C, q_cfr_rf⟩
  exact hq M2 (q_XI_tq hx.1 h) (fun a i ha => (q_cfr_tq h a i ha).trans (hx.2 a i ha)) h
set_option maxHeartbeats 4000000 in
theorem cx_cell {Vt : Nat → Nat → (Nat → Int) → Int} {d tm l sl : Nat} {g : q_G} {M : q_M} {s i v0 : Int} {Q : Option q_V → q_G → q_M → Prop} (C : q_XI Vt tm l sl M) (hq : q_XI Vt tm l sl (q_cellM M s i v0) → q_cfr M (q_cellM M s i v0) → Q (some (qI (A_cell M s i))) g (q_cellM M s i v0)) : q_S 1 (d + 50) 94 [qR 5 0, qI s, qI i, qI v0] g M Q := by
  have T := C.1
  have c := C.2.2.1
  have w := c.2.1
  have n5 := q_ci_n c
  have tas := c.1
  have hx : q_XI Vt tm l sl (q_cellM M s i v0) ∧ q_cfr M (q_cellM M s i v0) := by
    unfold q_cellM
    split
    · next h =>
      unfold A_cell at h
      have hS : s.toNat < 4 := by omega
      exact q_XI_one (S := s.toNat) C hS (fun a i h1 h2 => q_upd_n (by omega)) (by rw [q_upd_n (by omega)]; exact c.2.2.2.2.2.2 _ hS)
    · exact ⟨C, q_cfr_rf⟩
  exact sp_cell (d := d + 49) c.2.2.2.2.2.2 (hq hx.1 hx.2)
set_option maxHeartbeats 4000000 in
theorem cx_copy {Vt : Nat → Nat → (Nat → Int) → Int} {d tm l sl : Nat} {g : q_G} {M : q_M} {s i o j n : Int} {Q : Option q_V → q_G → q_M → Prop} (C : q_XI Vt tm l sl M) (hq : q_XI Vt tm l sl (q_copyM M s i o j n) → q_cfr M (q_copyM M s i o j n) → Q (some (qI (A_copy M s i o j n))) g (q_copyM M s i o j n)) (hn : n ≤ 2147483647) : q_S 1 (d + 50) 95 [qR 5 0, qI s, qI i, qI o, qI j, qI n] g M Q := by
  have T := C.1
  have c := C.2.2.1
  have w := c.2.1
  have n5 := q_ci_n c
  have tas := c.1
  have hx : q_XI Vt tm l sl (q_copyM M s i o j n) ∧ q_cfr M (q_copyM M s i o j n) := by
    unfold q_copyM
    split
    · next h =>
      unfold A_copy at h
      have hS : o.toNat < 4 := by
        split at h
        · omega
        · omega
      refine q_XI_one (S := o.toNat) C hS (fun a i h1 h2 => ?_) ?_
      · unfold q_cpy
        rw [if_neg (fun z => h2 z.1)]
      · unfold q_cpy
        rw [if_neg (fun z => by omega)]
        exact c.2.2.2.2.2.2 _ hS
    · exact ⟨C, q_cfr_rf⟩
  exact sp_copy (d := d + 49) c.2.2.2.2.2.2 hn (hq hx.1 hx.2)
set_option maxHeartbeats 4000000 in
theorem cx_stonesBy {Vt : Nat → Nat → (Nat → Int) → Int} {d tm l sl : Nat} {g : q_G} {M : q_M} {s so fr n : Int} {Q : Option q_V → q_G → q_M → Prop} (C : q_XI Vt tm l sl M) (hq : q_XI Vt tm l sl ((q_stonesBy M s so fr n).2) → q_cfr M ((q_stonesBy M s so fr n).2) → Q (some (qI ((q_stonesBy M s so fr n).1))) g ((q_stonesBy M s so fr n).2)) : q_S 1 (d + 50) 96 [qR 5 0, qI s, qI so, qI fr, qI n] g M Q := by
  have T := C.1
  have c := C.2.2.1
  have w := c.2.1
  have n5 := q_ci_n c
  have tas := c.1
  have hx : q_XI Vt tm l sl (q_stonesBy M s so fr n).2 ∧ q_cfr M (q_stonesBy M s so fr n).2 := by
    unfold q_stonesBy
    split
    · exact ⟨C, q_cfr_rf⟩
    · split
      · exact ⟨C, q_cfr_rf⟩
      · split
        · exact ⟨C, q_cfr_rf⟩
        · split
          · exact ⟨C, q_cfr_rf⟩
          · exact q_XI_sb _ _ _ _ C
  exact sp_stonesBy (d := d + 48) c.2.2.2.2.2.2 n5.1 n5.2 (hq hx.1 hx.2)
theorem cx_sheet {Vt : Nat → Nat → (Nat → Int) → Int} {d tm l sl : Nat} {g : q_G} {M : q_M} {s so n : Int} {Q : Option q_V → q_G → q_M → Prop} (C : q_XI Vt tm l sl M) (hq : q_XI Vt tm l sl (q_sheetM M s so n) → q_cfr M (q_sheetM M s so n) → Q (some (qI (A_sheet s so n))) g (q_sheetM M s so n)) : q_S 1 (d + 50) 93 [qR 5 0, qI s, qI so, qI n] g M Q := by
  have hx : q_XI Vt tm l sl (q_sheetM M s so n) ∧ q_cfr M (q_sheetM M s so n) := by
    unfold q_sheetM
    split
    · next h =>
      unfold A_sheet at h
      exact q_XI_one (S := s.toNat) C (by omega) (fun a i h1 h2 => q_shM_n h1 h2) (by rw [q_shM_2]; omega)
    · exact ⟨C, q_cfr_rf⟩
  exact sp_sheet (d := d + 49) (hq hx.1 hx.2)
set_option maxHeartbeats 4000000 in
theorem cx_image {Vt : Nat → Nat → (Nat → Int) → Int} {d tm l sl : Nat} {g : q_G} {M : q_M} {Q : Option q_V → q_G → q_M → Prop} (C : q_XI Vt tm l sl M) (hq : ∀ M2 : q_M, q_XI Vt tm l sl M2 → cW M2 65 = cW M 11 → M2 0 6 = 1 → M2 65 10 = M 11 10 → (∀ a i, ((a < 65 ∧ (a = 0 → i ≠ 6)) ∨ 90 < a) → M2 a i = M a i) → Q (some (qI (M 12 5))) g M2) : q_S 1 (d + 50) 91 [qR 5 0] g M Q := by
  have T := C.1
  have c := C.2.2.1
  have w := c.2.1
  have n5 := q_ci_n c
  have tas := c.1
  have hta := q_ta_b (t := l) (by have := T.2.1; have := C.2.1; omega)
  refine sp_image (d := d + 48) w (fun M2 h => ?_)
  have hw := q_cpd_wl w (q_rg5_of C.2.2.2.1.1) (by omega) h
  have hf : ∀ a i, (a < 65 ∨ 90 < a) → M2 a i = M a i := fun a i ha => h.2.2.2.2 a i (by omega)
  have ec : cW (q_upd M2 0 6 1) 65 = cW M 11 := (cW_same (M := M2) (fun a i ha => q_upd_n (by omega))).trans (q_cpd_cW n5.2 h)
  exact hq _ (q_XI_kp C (fun a i ha => by rw [q_upd_n (by omega)]; exact hf a i (by omega)) (q_rgW_c (fun a i h1 h2 => q_upd_n (by omega)) hw.1) (by rw [q_upd_n (by omega), h.2.2.1]; exact c.2.2.2.2.2.1) ⟨l, C.2.1, by rw [q_upd_n (by omega)]; exact hw.2.2.2.1⟩) ec q_upd_s (by rw [q_upd_n (by omega), hw.2.2.2.1, w.2.2.2.1]) (fun a i ha => by rw [q_upd_n (by omega)]; exact hf a i (by omega))
set_option maxHeartbeats 4000000 in
theorem cx_back {Vt : Nat → Nat → (Nat → Int) → Int} {d tm l sl : Nat} {g : q_G} {M : q_M} {Q : Option q_V → q_G → q_M → Prop} (C : q_XI Vt tm l sl M) (hq0 : M 0 6 = 0 → Q (some (qI (-3))) g M) (hq1 : M 0 6 ≠ 0 → ∀ (kl : Nat) (M2 : q_M), q_XI Vt tm kl sl M2 → M 65 10 = q_ta kl → cW M2 11 = cW M 65 → (∀ a i, (a < 11 ∨ (14 < a ∧ a < 30) ∨ 36 < a) → M2 a i = M a i) → Q (some (qI (M 66 5))) g M2) : q_S 1 (d + 50) 92 [qR 5 0] g M Q := by
  have T := C.1
  have c := C.2.2.1
  have w := c.2.1
  have n5 := q_ci_n c
  have tas := c.1
  by_cases h : M 0 6 = 0
  · exact sp_backF h (hq0 h)
  · obtain ⟨kl, hkl, hla⟩ := C.2.2.2.2.1 h
    have hta := q_ta_b (t := kl) (by have := T.2.1; omega)
    have hx := T.2.2.2 kl hkl
    refine sp_back (V := Vt kl) (d := d + 48) h hla (by omega) (fun M2 h2 => ?_)
    have hw := q_cpd_wl (V := Vt kl) (ta := q_ta kl) ⟨C.2.2.2.1.1, hx.2.2.1, hx.2.2.2, hla, by omega, by omega⟩ (q_rg5_of w.1) (by omega) h2
    have hf : ∀ a i, (a < 11 ∨ (14 < a ∧ a < 30) ∨ 36 < a) → M2 a i = M a i := fun a i ha => h2.2.2.2.2 a i (by omega)
    exact hq1 h kl M2 (q_XI_now C hkl (fun a i ha => hf a i (by omega)) hw.1 (by rw [h2.2.2.1]; exact C.2.2.2.1.2) hw.2.2.2.1 (q_z5_eq (fun a h3 h4 => hf a 5 (by omega)) c.2.2.2.1)) hla (q_cpd_cW (show M 66 5 ≤ 5 from C.2.2.2.1.1.1.2) h2) hf
end
section
/-! BOTH SIDES: the calls that change, together -/
def q_mws (M M2 : q_M) : Prop := (∀ a i, a ≠ 101 → a ≠ 102 → a ≠ 103 → a ≠ 104 → (a = 100 → i ≠ 0) → M2 a i = M a i) ∧ M 100 0 ≤ M2 100 0 ∧ ∀ i, i < (M 100 0).toNat → M2 101 i = M 101 i ∧ M2 102 i = M 102 i
theorem q_mws_rf {M : q_M} : q_mws M M := ⟨fun _ _ _ _ _ _ _ => rfl, Int.le_refl _, fun _ _ => ⟨rfl, rfl⟩⟩
theorem q_mws_34 {M M2 : q_M} (h : ∀ a i, a ≠ 103 → a ≠ 104 → M2 a i = M a i) : q_mws M M2 := ⟨fun a i _ _ h1 h2 _ => h a i h1 h2, by rw [h 100 0 (by omega) (by omega)]; exact Int.le_refl _, fun i _ => ⟨h _ _ (by omega) (by omega), h _ _ (by omega) (by omega)⟩⟩
theorem q_mws_st {M M2 : q_M} (h : q_mst M M2) : q_mws M M2 := ⟨fun a i q1 q2 _ q4 q5 => h.1 a i q1 q2 q4 q5, h.2.1, h.2.2⟩
theorem my_build {Vt : Nat → Nat → (Nat → Int) → Int} {d tm : Nat} {g : q_G} {M : q_M} {b w v0 : Int} {Q : Option q_V → q_G → q_M → Prop} (hI : q_MI Vt tm M) (hq : ∀ M2 : q_M, q_MI Vt tm M2 → q_mfr M M2 → mW M2 = F_bdX (mW M) b w v0 → q_mws M M2 → Q (some (qI (B_bdC (mW M) b w v0))) g M2) : q_S 1 (d + 10) 119 [qR 6 100, qI b, qI w, qI v0] g M Q := by
  have key : q_S 1 (d + 10) 119 [qR 6 100, qI b, qI w, qI v0] g M (fun v g2 M2 => g2 = g ∧ v = some (qI (B_bdC (mW M) b w v0)) ∧ mW M2 = F_bdX (mW M) b w v0 ∧ q_mws M M2) := by
    refine mx_build hI (fun z => ⟨rfl, rfl, ?_, q_mws_rf⟩) (fun z M2 e f => ⟨rfl, rfl, ?_, q_mws_34 f⟩)
    · unfold F_bdX
      exact (if_neg z).symm
    · unfold F_bdX
      exact e.trans (if_pos z).symm
  refine q_S_mi (mw_build (d := d) hI (fun v M2 x y => ⟨⟨v, rfl⟩, x, y⟩)) key (fun v g2 M2 z i f => ?_)
  obtain ⟨z1, z2, z3, z4⟩ := z
  subst z1
  subst z2
  exact hq M2 i f z3 z4
theorem my_stone {Vt : Nat → Nat → (Nat → Int) → Int} {d tm : Nat} {g : q_G} {M : q_M} {km wh hv : Int} {Q : Option q_V → q_G → q_M → Prop} (hI : q_MI Vt tm M) (hq : ∀ M2 : q_M, q_MI Vt tm M2 → q_mfr M M2 → mW M2 = F_stX (mW M) km wh hv → q_mws M M2 → Q (some (qI (B_stn (mW M) km wh hv))) g M2) : q_S 1 (d + 10) 139 [qR 6 100, qI km, qI wh, qI hv] g M Q := by
  have key : q_S 1 (d + 10) 139 [qR 6 100, qI km, qI wh, qI hv] g M (fun v g2 M2 => g2 = g ∧ v = some (qI (B_stn (mW M) km wh hv)) ∧ mW M2 = F_stX (mW M) km wh hv ∧ q_mws M M2) := by
    refine mx_stone hI (fun z => ⟨rfl, rfl, ?_, q_mws_rf⟩) (fun z M2 e f k => ⟨rfl, rfl, ?_, fun a i q1 q2 _ q4 q5 => f a i q1 q2 q4 q5, ?_, k⟩)
    · unfold F_stX
      rw [mW_90, if_neg z]
    · unfold F_stX
      rw [mW_90, if_pos z]
      exact e
    · have e1 : mW M2 9 0 = F_add (mW M) km wh hv 9 0 := by rw [e]
      have e2 : F_add (mW M) km wh hv 9 0 = M 100 0 + 1 := q_upd_s
      have e3 : mW M2 9 0 = M2 100 0 := rfl
      omega
  refine q_S_mi (mw_stone (d := d) hI (fun v M2 x y => ⟨⟨v, rfl⟩, x, y⟩)) key (fun v g2 M2 z i f => ?_)
  obtain ⟨z1, z2, z3, z4⟩ := z
  subst z1
  subst z2
  exact hq M2 i f z3 z4
theorem my_put {Vt : Nat → Nat → (Nat → Int) → Int} {d tm : Nat} {g : q_G} {M : q_M} {p w v0 : Int} {Q : Option q_V → q_G → q_M → Prop} (hI : q_MI Vt tm M) (hq : ∀ M2 : q_M, q_MI Vt tm M2 → q_mfr M M2 → mW M2 = F_ptX (mW M) p w v0 → q_mws M M2 → Q (some (qI (B_put (mW M) p w v0))) g M2) : q_S 1 (d + 10) 140 [qR 6 100, qI p, qI w, qI v0] g M Q := by
  have key : q_S 1 (d + 10) 140 [qR 6 100, qI p, qI w, qI v0] g M (fun v g2 M2 => g2 = g ∧ v = some (qI (B_put (mW M) p w v0)) ∧ mW M2 = F_ptX (mW M) p w v0 ∧ q_mws M M2) := by
    refine mx_put hI (fun z => ⟨rfl, rfl, ?_, q_mws_rf⟩) (fun z M2 e f => ⟨rfl, rfl, ?_, q_mws_34 (fun a i _ h => f a i h)⟩)
    · unfold F_ptX
      exact (if_neg z).symm
    · unfold F_ptX
      exact e.trans (if_pos z).symm
  refine q_S_mi (mw_put (d := d) hI (fun v M2 x y => ⟨⟨v, rfl⟩, x, y⟩)) key (fun v g2 M2 z i f => ?_)
  obtain ⟨z1, z2, z3, z4⟩ := z
  subst z1
  subst z2
  exact hq M2 i f z3 z4
theorem my_stonesBy {Vt : Nat → Nat → (Nat → Int) → Int} {d tm : Nat} {g : q_G} {M : q_M} {s so fr n : Int} {Q : Option q_V → q_G → q_M → Prop} (hI : q_MI Vt tm M) (hq : ∀ M2 : q_M, q_MI Vt tm M2 → q_mfr M M2 → mW M2 = (B_sb M s so fr n).2 → q_mws M M2 → Q (some (qI ((B_sb M s so fr n).1))) g M2) (hfr : -2147483648 ≤ fr ∧ fr ≤ 2147483647) : q_S 1 (d + 11) 196 [qR 6 100, qI s, qI so, qI fr, qI n] g M Q := by
  have key : q_S 1 (d + 11) 196 [qR 6 100, qI s, qI so, qI fr, qI n] g M (fun v g2 M2 => g2 = g ∧ v = some (qI ((B_sb M s so fr n).1)) ∧ mW M2 = (B_sb M s so fr n).2 ∧ q_mws M M2) := by
    exact mx_stonesBy hI hfr (fun M2 e f => ⟨rfl, rfl, e, q_mws_st f⟩)
  refine q_S_mi (mw_stonesBy (d := d) hI (fun v M2 x y => ⟨⟨v, rfl⟩, x, y⟩) hfr) key (fun v g2 M2 z i f => ?_)
  obtain ⟨z1, z2, z3, z4⟩ := z
  subst z1
  subst z2
  exact hq M2 i f z3 z4
set_option maxHeartbeats 4000000 in
theorem my_year {Vt : Nat → Nat → (Nat → Int) → Int} {d tm : Nat} {g : q_G} {M : q_M} {Q : Option q_V → q_G → q_M → Prop} (hI : q_MI Vt tm M) (hq0 : M 100 5 = 999 → Q (some (qI (-3))) g M) (hq1 : M 100 5 ≠ 999 → ∀ M2 : q_M, q_MI Vt tm M2 → mW M2 = (G_year (q_Vr Vt M) (mW M)).2 → q_mz M M2 → Q (some (qI (G_year (q_Vr Vt M) (mW M)).1)) g M2) : q_S 1 (d + 10) 152 [qR 6 100] g M Q := by
  have n0 := hI.1.1
  rw [s_X6_year]
  have C := q_MI_mi hI
  have y0 := hI.1.2.1
  have y9 := hI.2.1
  by_cases c : M 100 5 = 999
  · simp (disch := omega) only [b_X6_year_0, x_loadR_0, x_loadS_0, f_6_5, x_iconst, y_ic_ne_t, y_ic_ne_f, b_X6_year_10, x_goto, b_X6_year_15, b_X6_year_19, x_ret0, q_isL_I, q_isL_R, q_isL_S, true_and, and_true, and_self, List.length_nil, List.length_cons, Nat.zero_add, x_K, x_Kn, Int.reduceToNat, Nat.reduceAdd, Nat.reduceMul, Nat.reduceLeDiff, Nat.reduceLT, Nat.zero_le, Int.reduceAdd, Int.reduceSub, Int.reduceMul, Int.reduceNeg, q_add_e, q_sub_e, q_mul_e, q_neg_e, q_upd_s, q_upd_n, zr_shr0, zr_shr1, zr_shr2, zr_shr3, zr_shr4, zr_and, zr_dyn8, zr_or, zr_shl, q_cpy_n, y_cpy26]
    exact hq0 c
  · have yk : ∀ (nx : Nat) (ops : List Instr) (ls st : List q_V), (∀ (M2 : q_M), q_ml (q_Vr Vt M) M2 → M2 100 5 = M 100 5 + 1 → mW M2 = (G_year (q_Vr Vt M) (mW M)).2 → q_mz M M2 → q_T 1 (d + 10) qP_X6_year nx ops ls (qI (G_year (q_Vr Vt M) (mW M)).1 :: st) g M2 Q) → q_S 1 (d + 9) 151 [qR 6 100] g M (q_K 1 (d + 10) qP_X6_year nx ops ls st Q) := fun nx ops ls st h => mp_year C.1 (by omega) (fun M2 h1 h2 h3 => h M2 h1 (G_year_y h2) h2 h3)
    simp (disch := omega) only [b_X6_year_0, x_loadR_0, x_loadS_0, f_6_5, x_iconst, y_ic_ne_t, y_ic_ne_f, b_X6_year_10, x_goto, b_X6_year_15, b_X6_year_19, x_ret0, q_isL_I, q_isL_R, q_isL_S, true_and, and_true, and_self, List.length_nil, List.length_cons, Nat.zero_add, x_K, x_Kn, Int.reduceToNat, Nat.reduceAdd, Nat.reduceMul, Nat.reduceLeDiff, Nat.reduceLT, Nat.zero_le, Int.reduceAdd, Int.reduceSub, Int.reduceMul, Int.reduceNeg, q_add_e, q_sub_e, q_mul_e, q_neg_e, q_upd_s, q_upd_n, zr_shr0, zr_shr1, zr_shr2, zr_shr3, zr_shr4, zr_and, zr_dyn8, zr_or, zr_shl, q_cpy_n, y_cpy26, c_X6_yearOf]
    refine yk _ _ _ _ (fun M2 m2 y2 w2 h2 => ?_)
    simp (disch := omega) only [b_X6_year_0, x_loadR_0, x_loadS_0, f_6_5, x_iconst, y_ic_ne_t, y_ic_ne_f, b_X6_year_10, x_goto, b_X6_year_15, b_X6_year_19, x_ret0, q_isL_I, q_isL_R, q_isL_S, true_and, and_true, and_self, List.length_nil, List.length_cons, Nat.zero_add, x_K, x_Kn, Int.reduceToNat, Nat.reduceAdd, Nat.reduceMul, Nat.reduceLeDiff, Nat.reduceLT, Nat.zero_le, Int.reduceAdd, Int.reduceSub, Int.reduceMul, Int.reduceNeg, q_add_e, q_sub_e, q_mul_e, q_neg_e, q_upd_s, q_upd_n, zr_shr0, zr_shr1, zr_shr2, zr_shr3, zr_shr4, zr_and, zr_dyn8, zr_or, zr_shl, q_cpy_n, y_cpy26]
    exact hq1 c M2 (q_MI_yr hI m2 (by omega) w2 h2) w2 h2
theorem my_film {Vt : Nat → Nat → (Nat → Int) → Int} {d tm : Nat} {g : q_G} {M : q_M} {s p n : Int} {Q : Option q_V → q_G → q_M → Prop} (hI : q_MI Vt tm M) (hq : ∀ M2 : q_M, q_MI Vt tm M2 → q_mfr M M2 → q_mq (q_filmB (q_Vr Vt M) M s p n) M2 → Q (some (qI (B_film M s p n))) g M2) : q_S 1 (d + 11) 187 [qR 6 100, qI s, qI p, qI n] g M Q := by
  have key : q_S 1 (d + 11) 187 [qR 6 100, qI s, qI p, qI n] g M (fun v g2 M2 => g2 = g ∧ v = some (qI (B_film M s p n)) ∧ q_mq (q_filmB (q_Vr Vt M) M s p n) M2) := mp_film (d := d + 3) (q_MI_mi hI) (fun M2 h2 => ⟨rfl, rfl, h2⟩)
  refine q_S_mi (mw_film (d := d) hI (fun v M2 x y => ⟨⟨v, rfl⟩, x, y⟩)) key (fun v g2 M2 z i f => ?_)
  obtain ⟨z1, z2, z3⟩ := z
  subst z1
  subst z2
  exact hq M2 i f z3
theorem my_sheet {Vt : Nat → Nat → (Nat → Int) → Int} {d tm : Nat} {g : q_G} {M : q_M} {s so n : Int} {Q : Option q_V → q_G → q_M → Prop} (hI : q_MI Vt tm M) (hq : ∀ M2 : q_M, q_MI Vt tm M2 → q_mfr M M2 → (A_sheet s so n ≠ 1 → M2 = M) → (A_sheet s so n = 1 → M2 110 s.toNat = so ∧ M2 111 s.toNat = (if so = -1 then 0 else n) ∧ (∀ i, i < 40 → M2 112 (40 * s.toNat + i) = 0) ∧ ∀ a i, (a = 110 ∨ a = 111 → i ≠ s.toNat) → (a = 112 → i < 40 * s.toNat ∨ 40 * s.toNat + 40 ≤ i) → M2 a i = M a i) → Q (some (qI (A_sheet s so n))) g M2) : q_S 1 (d + 11) 193 [qR 6 100, qI s, qI so, qI n] g M Q := by
  have key : q_S 1 (d + 11) 193 [qR 6 100, qI s, qI so, qI n] g M (fun v g2 M2 => g2 = g ∧ v = some (qI (A_sheet s so n)) ∧ (A_sheet s so n ≠ 1 → M2 = M) ∧ (A_sheet s so n = 1 → M2 110 s.toNat = so ∧ M2 111 s.toNat = (if so = -1 then 0 else n) ∧ (∀ i, i < 40 → M2 112 (40 * s.toNat + i) = 0) ∧ ∀ a i, (a = 110 ∨ a = 111 → i ≠ s.toNat) → (a = 112 → i < 40 * s.toNat ∨ 40 * s.toNat + 40 ≤ i) → M2 a i = M a i)) :=
    mx_sheet hI (fun z => ⟨rfl, rfl, fun _ => rfl, fun y => absurd y z⟩) (fun z M2 h1 h2 h3 h4 => ⟨rfl, by rw [z], fun y => absurd z y, fun _ => ⟨h1, h2, h3, h4⟩⟩)
  refine q_S_mi (mw_sheet (d := d) hI (fun M2 x y => ⟨⟨_, rfl⟩, x, y⟩)) key (fun v g2 M2 z i f => ?_)
  obtain ⟨z1, z2, z3, z4⟩ := z
  subst z1
  subst z2
  exact hq M2 i f z3 z4
theorem my_cell {Vt : Nat → Nat → (Nat → Int) → Int} {d tm : Nat} {g : q_G} {M : q_M} {s i v0 : Int} {Q : Option q_V → q_G → q_M → Prop} (hI : q_MI Vt tm M) (hq : ∀ M2 : q_M, q_MI Vt tm M2 → q_mfr M M2 → M2 = (if B_cell M s i = 1 then q_upd M 112 (40 * s.toNat + i.toNat) (F_cvt (M 110 s.toNat) v0) else M) → Q (some (qI (B_cell M s i))) g M2) : q_S 1 (d + 11) 194 [qR 6 100, qI s, qI i, qI v0] g M Q := by
  have key : q_S 1 (d + 11) 194 [qR 6 100, qI s, qI i, qI v0] g M (fun v g2 M2 => g2 = g ∧ v = some (qI (B_cell M s i)) ∧ M2 = (if B_cell M s i = 1 then q_upd M 112 (40 * s.toNat + i.toNat) (F_cvt (M 110 s.toNat) v0) else M)) :=
    mx_cell hI (fun z => ⟨rfl, rfl, by rw [if_neg z]⟩) (fun z => ⟨rfl, by rw [z], by rw [if_pos z]⟩)
  refine q_S_mi (mw_cell (d := d) hI (fun v M2 x y => ⟨⟨v, rfl⟩, x, y⟩)) key (fun v g2 M2 z i f => ?_)
  obtain ⟨z1, z2, z3⟩ := z
  subst z1
  subst z2
  exact hq M2 i f z3
theorem my_copy {Vt : Nat → Nat → (Nat → Int) → Int} {d tm : Nat} {g : q_G} {M : q_M} {s i o j n : Int} {Q : Option q_V → q_G → q_M → Prop} (hI : q_MI Vt tm M) (hq : ∀ M2 : q_M, q_MI Vt tm M2 → q_mfr M M2 → M2 = (if 0 ≤ B_copy M s i o j n then q_cpy M 112 (40 * s.toNat + i.toNat) 112 (40 * o.toNat + j.toNat) n.toNat else M) → Q (some (qI (B_copy M s i o j n))) g M2) : q_S 1 (d + 11) 195 [qR 6 100, qI s, qI i, qI o, qI j, qI n] g M Q := by
  have key : q_S 1 (d + 11) 195 [qR 6 100, qI s, qI i, qI o, qI j, qI n] g M (fun v g2 M2 => g2 = g ∧ v = some (qI (B_copy M s i o j n)) ∧ M2 = (if 0 ≤ B_copy M s i o j n then q_cpy M 112 (40 * s.toNat + i.toNat) 112 (40 * o.toNat + j.toNat) n.toNat else M)) :=
    mx_copy hI (fun z => ⟨rfl, rfl, by rw [if_neg (by omega)]⟩) (fun z z2 => ⟨rfl, by rw [z], by rw [if_pos (by omega)]⟩)
  refine q_S_mi (mw_copy (d := d) hI (fun v M2 x y => ⟨⟨v, rfl⟩, x, y⟩)) key (fun v g2 M2 z i f => ?_)
  obtain ⟨z1, z2, z3⟩ := z
  subst z1
  subst z2
  exact hq M2 i f z3
theorem my_image {Vt : Nat → Nat → (Nat → Int) → Int} {d tm : Nat} {g : q_G} {M : q_M} {Q : Option q_V → q_G → q_M → Prop} (hI : q_MI Vt tm M) (hq : ∀ M2 : q_M, q_MI Vt tm M2 → (∀ a i, a ≠ 108 → a ≠ 109 → (a = 100 → i ≠ 12) → M2 a i = M a i) → (∀ i, i < 15 → M2 108 i = M 104 i) → (∀ i, i < 20 → M2 108 (15 + i) = M 103 i) → M2 109 0 = M 100 0 → M2 109 1 = M 100 5 → M2 109 2 = M 100 11 → M2 100 12 = 1 → Q (some (qI (M 100 0))) g M2) : q_S 1 (d + 11) 191 [qR 6 100] g M Q := by
  refine q_S_mono (q_S_and (mw_image (d := d) (Q := fun _ _ M2 => q_MI Vt tm M2) hI (fun v M2 x _ _ _ _ _ _ => x)) (mx_image (d := d) (Q := fun v g2 M2 => g2 = g ∧ v = some (qI (M 100 0)) ∧ (∀ a i, a ≠ 108 → a ≠ 109 → (a = 100 → i ≠ 12) → M2 a i = M a i) ∧ (∀ i, i < 15 → M2 108 i = M 104 i) ∧ (∀ i, i < 20 → M2 108 (15 + i) = M 103 i) ∧ M2 109 0 = M 100 0 ∧ M2 109 1 = M 100 5 ∧ M2 109 2 = M 100 11 ∧ M2 100 12 = 1) hI (fun M2 a1 a2 a3 a4 a5 a6 a7 => ⟨rfl, rfl, a1, a2, a3, a4, a5, a6, a7⟩))) (fun v g2 M2 z => ?_)
  obtain ⟨i2, z1, z2, a1, a2, a3, a4, a5, a6, a7⟩ := z
  subst z1
  subst z2
  exact hq M2 i2 a1 a2 a3 a4 a5 a6 a7
theorem my_back {Vt : Nat → Nat → (Nat → Int) → Int} {d tm : Nat} {g : q_G} {M : q_M} {Q : Option q_V → q_G → q_M → Prop} (hI : q_MI Vt tm M) (hq0 : M 100 12 = 0 → Q (some (qI (-3))) g M) (hq1 : M 100 12 ≠ 0 → ∀ M2 : q_M, q_MI Vt tm M2 → (∀ a i, a ≠ 103 → a ≠ 104 → (a = 100 → i ≠ 0 ∧ i ≠ 5 ∧ i ≠ 11) → M2 a i = M a i) → (∀ i, i < 15 → M2 104 i = M 108 i) → (∀ i, i < 20 → M2 103 i = M 108 (15 + i)) → M2 100 0 = M 109 0 → M2 100 5 = M 109 1 → M2 100 11 = M 109 2 → Q (some (qI (M 109 0))) g M2) : q_S 1 (d + 11) 192 [qR 6 100] g M Q := by
  by_cases c : M 100 12 = 0
  · exact mx_back hI (fun _ => hq0 c) (fun z => absurd c z)
  · refine q_S_mono (q_S_and (mw_back (d := d) (Q := fun _ _ M2 => q_MI Vt tm M2) hI (fun v M2 x _ _ _ _ _ _ => x)) (mx_back (d := d) (Q := fun v g2 M2 => g2 = g ∧ v = some (qI (M 109 0)) ∧ (∀ a i, a ≠ 103 → a ≠ 104 → (a = 100 → i ≠ 0 ∧ i ≠ 5 ∧ i ≠ 11) → M2 a i = M a i) ∧ (∀ i, i < 15 → M2 104 i = M 108 i) ∧ (∀ i, i < 20 → M2 103 i = M 108 (15 + i)) ∧ M2 100 0 = M 109 0 ∧ M2 100 5 = M 109 1 ∧ M2 100 11 = M 109 2) hI (fun z => absurd z c) (fun _ M2 a1 a2 a3 a4 a5 a6 => ⟨rfl, rfl, a1, a2, a3, a4, a5, a6⟩))) (fun v g2 M2 z => ?_)
    obtain ⟨i2, z1, z2, a1, a2, a3, a4, a5, a6⟩ := z
    subst z1
    subst z2
    exact hq1 c M2 i2 a1 a2 a3 a4 a5 a6
/-! sheets on both sides -/
theorem q_shM_v {M : q_M} {a : Nat} {so n : Int} {f : Nat → Int} : q_shM M a so n f a 1 = so ∧ q_shM M a so n f a 2 = n ∧ ∀ i, i < 40 → q_shM M a so n f (a + 1) i = f i := by
  unfold q_shM
  refine ⟨?_, ?_, fun i hi => ?_⟩
  · rw [if_neg (by omega), if_pos ⟨rfl, rfl⟩]
  · rw [if_neg (by omega), if_neg (by omega), if_pos ⟨rfl, rfl⟩]
  · rw [if_pos ⟨rfl, hi⟩]
/-- one sheet has changed, alike on both sides -/
theorem q_Rsh_one {M M2 : q_M} {S : Nat} (R : q_Rsh M) (h1 : ∀ a i, a ≠ 6 + (86 + 2 * S) → a ≠ 6 + (86 + 2 * S) + 1 → (92 ≤ a ∧ a < 100) → M2 a i = M a i) (h2 : ∀ a i, (a = 110 ∨ a = 111) → i ≠ S → M2 a i = M a i) (h3 : ∀ i, (i < 40 * S ∨ 40 * S + 40 ≤ i) → M2 112 i = M 112 i) (h4 : M2 (6 + (86 + 2 * S)) 1 = M2 110 S ∧ M2 (6 + (86 + 2 * S)) 2 = M2 111 S ∧ ∀ i, i < 40 → M2 (6 + (86 + 2 * S) + 1) i = M2 112 (40 * S + i)) : q_Rsh M2 := by
  intro s hs
  by_cases e : s = S
  · subst e
    exact h4
  · obtain ⟨r1, r2, r3⟩ := R s hs
    exact ⟨by rw [h1 _ _ (by omega) (by omega) (by omega), h2 _ _ (by omega) e]; exact r1, by rw [h1 _ _ (by omega) (by omega) (by omega), h2 _ _ (by omega) e]; exact r2, fun i hi => by rw [h1 _ _ (by omega) (by omega) (by omega), h3 _ (by omega)]; exact r3 i hi⟩
theorem q_Rsh_sheet {M M1 M2 : q_M} {s so n : Int} (R : q_Rsh M) (e1 : M1 = q_sheetM M s so n) (h0 : A_sheet s so n ≠ 1 → M2 = M1) (hf : ∀ a i, a < 100 → M2 a i = M1 a i) (h1 : A_sheet s so n = 1 → M2 110 s.toNat = so ∧ M2 111 s.toNat = (if so = -1 then 0 else n) ∧ (∀ i, i < 40 → M2 112 (40 * s.toNat + i) = 0) ∧ ∀ a i, (a = 110 ∨ a = 111 → i ≠ s.toNat) → (a = 112 → i < 40 * s.toNat ∨ 40 * s.toNat + 40 ≤ i) → M2 a i = M1 a i) : q_Rsh M2 := by
  by_cases c : A_sheet s so n = 1
  · have eM : M1 = q_shM M (6 + (86 + 2 * s.toNat)) so (if so = -1 then 0 else n) (fun _ => 0) := by rw [e1]; unfold q_sheetM; rw [if_pos c]
    obtain ⟨g1, g2, g3, g4⟩ := h1 c
    have hs : s.toNat < 4 := by unfold A_sheet at c; omega
    have v := q_shM_v (M := M) (a := 6 + (86 + 2 * s.toNat)) (so := so) (n := if so = -1 then 0 else n) (f := fun _ => 0)
    rw [← eM] at v
    refine q_Rsh_one (S := s.toNat) R (fun a i q1 q2 q3 => ?_) (fun a i q1 q2 => ?_) (fun i q => ?_) ⟨?_, ?_, fun i hi => ?_⟩
    · rw [hf a i (by omega), eM]
      exact q_shM_n q1 q2
    · rw [g4 a i (fun _ => q2) (by omega), eM]
      exact q_shM_n (by omega) (by omega)
    · rw [g4 112 i (by omega) (fun _ => q), eM]
      exact q_shM_n (by omega) (by omega)
    · rw [hf _ _ (by omega), v.1, g1]
    · rw [hf _ _ (by omega), v.2.1, g2]
    · rw [hf _ _ (by omega), v.2.2 i hi, g3 i hi]
  · have eM : M1 = M := by rw [e1]; unfold q_sheetM; rw [if_neg c]
    rw [h0 c, eM]
    exact R
theorem AB_cell {M : q_M} {s i : Int} (R : q_Rsh M) : A_cell M s i = B_cell M s i := by
  unfold A_cell B_cell
  by_cases c : 0 ≤ s ∧ s < 4
  · obtain ⟨r1, r2, _⟩ := R s.toNat (by omega)
    rw [r1, r2]
  · rw [if_pos c, if_pos c]
theorem q_Rsh_cell {M M1 M2 : q_M} {s i v : Int} (R : q_Rsh M) (e1 : M1 = q_cellM M s i v) (e2 : M2 = (if B_cell M1 s i = 1 then q_upd M1 112 (40 * s.toNat + i.toNat) (F_cvt (M1 110 s.toNat) v) else M1)) (hB : B_cell M1 s i = B_cell M s i) (hz : ∀ t, t < 4 → M 111 t ≤ 40) : q_Rsh M2 := by
  have eA := AB_cell (s := s) (i := i) R
  rw [hB] at e2
  by_cases c : B_cell M s i = 1
  · have eM : M1 = q_upd M (6 + (86 + 2 * s.toNat) + 1) i.toNat (F_cvt (M (6 + (86 + 2 * s.toNat)) 1) v) := by rw [e1]; unfold q_cellM; rw [eA, if_pos c]
    rw [if_pos c] at e2
    have hc := c
    unfold B_cell at hc
    have hs : s.toNat < 4 := by omega
    obtain ⟨r1, r2, r3⟩ := R s.toNat hs
    have hi : 0 ≤ i ∧ i < M 111 s.toNat := by
      split at hc
      · omega
      · split at hc
        · omega
        · split at hc <;> omega
    have hzs := hz s.toNat hs
    have e110 : M1 110 s.toNat = M 110 s.toNat := by rw [eM, q_upd_n (by omega)]
    rw [e110] at e2
    refine q_Rsh_one (S := s.toNat) R (fun a j q1 q2 q3 => ?_) (fun a j q1 q2 => ?_) (fun j q => ?_) ⟨?_, ?_, fun j hj => ?_⟩
    · rw [e2, q_upd_n (by omega), eM, q_upd_n (by omega)]
    · rw [e2, q_upd_n (by omega), eM, q_upd_n (by omega)]
    · by_cases z : j = 40 * s.toNat + i.toNat
      · exfalso
        omega
      · rw [e2, q_upd_n (by omega), eM, q_upd_n (by omega)]
    · rw [e2, q_upd_n (by omega), q_upd_n (by omega), eM, q_upd_n (by omega), q_upd_n (by omega)]
      exact r1
    · rw [e2, q_upd_n (by omega), q_upd_n (by omega), eM, q_upd_n (by omega), q_upd_n (by omega)]
      exact r2
    · by_cases z : j = i.toNat
      · rw [e2, q_upd_n (by omega), z, q_upd_s, eM, q_upd_s, r1]
      · rw [e2, q_upd_n (by omega), q_upd_n (by omega), eM, q_upd_n (by omega), q_upd_n (by omega)]
        exact r3 j hj
  · have eM : M1 = M := by rw [e1]; unfold q_cellM; rw [eA, if_neg c]
    rw [e2, if_neg c, eM]
    exact R
end
section
/-! BOTH SIDES: all that stays over the calls -/
theorem q_MI_cfw {Vt : Nat → Nat → (Nat → Int) → Int} {tm : Nat} {M M2 : q_M} (h : q_cfw M M2) (hI : q_MI Vt tm M) : q_MI Vt tm M2 := q_MI_same (fun a i ha => by unfold q_rel at ha; exact h a i (by omega)) hI
theorem q_MI_cfr {Vt : Nat → Nat → (Nat → Int) → Int} {tm : Nat} {M M2 : q_M} (h : q_cfr M M2) (hI : q_MI Vt tm M) : q_MI Vt tm M2 := q_MI_same (fun a i ha => by unfold q_rel at ha; exact h a i (by omega)) hI
/-- both sides within their bounds, the script unread; the same texts, tapes, law, kept law -/
def q_Lx (L : Nat) (X : Nat → Int) (tm sl : Nat) (Vt : Nat → Nat → (Nat → Int) → Int) (l : Nat) (M : q_M) : Prop := q_XI Vt tm l sl M ∧ q_MI Vt tm M ∧ M 100 11 = l ∧ M 1000001 0 = L ∧ (∀ i, M 1000000 i = X i) ∧ q_Rtp M ∧ (M 0 6 ≠ 0 → M 65 10 = q_ta (M 109 2).toNat) ∧ (M 0 6 = 0 ↔ M 100 12 = 0)
theorem q_XI_l {Vt : Nat → Nat → (Nat → Int) → Int} {tm l sl : Nat} {M : q_M} (C : q_XI Vt tm l sl M) : M 11 10 = q_ta l := C.2.2.1.2.1.2.2.2.1
def q_LI (L : Nat) (X : Nat → Int) (tm sl : Nat) (M : q_M) : Prop := ∃ Vt l, q_Lx L X tm sl Vt l M ∧ q_Rw M
theorem q_Rtp_f {M M2 : q_M} (h : ∀ a i, ((a = 1 ∧ i = 1) ∨ a = 2 ∨ a = 105 ∨ a = 114 ∨ (a = 100 ∧ i = 7)) → M2 a i = M a i) (R : q_Rtp M) : q_Rtp M2 := by
  obtain ⟨h6, h7, h8⟩ := R
  refine ⟨?_, ?_, fun w c a b => (h 114 _ (by omega)).trans (h8 w c a b)⟩
  · rw [funext (fun i => h 2 i (by omega)), funext (fun i => h 105 i (by omega))]
    exact h6
  · rw [h 1 1 (by omega), h 100 7 (by omega)]
    exact h7
/-- frames of both sides together -/
theorem q_Lx_of {L tm sl l l2 : Nat} {X : Nat → Int} {Vt : Nat → Nat → (Nat → Int) → Int} {M M2 : q_M} (h : q_Lx L X tm sl Vt l M) (C : q_XI Vt tm l2 sl M2) (I : q_MI Vt tm M2) (hf : ∀ a i, ((a = 1 ∧ i = 1) ∨ a = 2 ∨ a = 105 ∨ a = 114 ∨ (a = 100 ∧ (i = 7 ∨ i = 11 ∨ i = 12)) ∨ (a = 109 ∧ i = 2) ∨ (a = 65 ∧ i = 10) ∨ (a = 11 ∧ i = 10) ∨ (a = 0 ∧ i = 6) ∨ 1000 ≤ a) → M2 a i = M a i) (R2 : q_Rw M2) : q_LI L X tm sl M2 := by
  obtain ⟨h1, h2, h3, h4, h5, h6, h9, h10⟩ := h
  have e1 := q_XI_l h1
  have e2 := q_XI_l C
  rw [hf 11 10 (by omega), e1] at e2
  have e3 : l = l2 := q_ta_inj (by omega)
  subst e3
  refine ⟨Vt, l, ⟨C, I, (hf 100 11 (by omega)).trans h3, (hf _ _ (by omega)).trans h4, fun i => (hf _ _ (by omega)).trans (h5 i), q_Rtp_f (fun a i ha => hf a i (by omega)) h6, ?_, ?_⟩, R2⟩
  · rw [hf 0 6 (by omega), hf 65 10 (by omega), hf 109 2 (by omega)]
    exact h9
  · rw [hf 0 6 (by omega), hf 100 12 (by omega)]
    exact h10
/-- a question on both sides -/
theorem q_LI_q {L tm sl l : Nat} {X : Nat → Int} {Vt : Nat → Nat → (Nat → Int) → Int} {M M1 M2 : q_M} (h : q_Lx L X tm sl Vt l M) (R : q_Rw M) (h1 : q_tq M M1) (h2 : q_mq M1 M2) : q_LI L X tm sl M2 := by
  have C1 := q_XI_tq h.1 h1
  have I1 : q_MI Vt tm M1 := q_MI_cfr (q_cfr_tq h1) h.2.1
  have hf : ∀ a i, ((a = 1 ∧ i = 1) ∨ a = 2 ∨ (11 ≤ a ∧ a ≤ 14) ∨ (30 ≤ a ∧ a ≤ 36) ∨ (65 ≤ a ∧ a < 116) ∨ (a = 0 ∧ i = 6) ∨ 1000 ≤ a) → (a = 100 → i ≠ 36) → M2 a i = M a i := fun a i ha hb => (h2 a i (by omega) hb).trans (h1 a i (by omega) (by omega) (by omega) (by omega))
  exact q_Lx_of h (q_XI_mfr (q_mfr_mq h2) C1) (q_MI_mq h2 I1) (fun a i ha => hf a i (by omega) (by omega)) (q_Rw_f (fun a i ha => hf a i (by omega) (by omega)) R)
/-- the world has changed alike -/
theorem q_LI_w {L tm sl l l2 : Nat} {X : Nat → Int} {Vt : Nat → Nat → (Nat → Int) → Int} {M M1 M2 S2 : q_M} (h : q_Lx L X tm sl Vt l M) (R : q_Rw M) (C1 : q_XI Vt tm l2 sl M1) (f1 : q_cfr M M1) (e1 : cW M1 11 = S2) (r1 : ∀ a i, 65 ≤ a → a < 100 → M1 a i = M a i) (I2 : q_MI Vt tm M2) (f2 : q_mfr M1 M2) (e2 : mW M2 = S2) (s2 : q_mws M1 M2) (hS : q_ivS S2) : q_LI L X tm sl M2 := by
  refine q_Lx_of h (q_XI_mfr f2 C1) I2 (fun a i ha => (f2 a i (by omega)).trans (f1 a i (by omega))) (q_Rw_w R ?_ (by rw [e2]; exact hS) (fun a i ha => ?_) (fun z => ⟨?_, fun i hi => ?_⟩))
  · rw [cW_same (M := M1) (fun a i ha => f2 a i (by omega)), e1, e2]
  · by_cases y : 108 ≤ a ∧ a ≤ 112
    · exact (s2.1 a i (by omega) (by omega) (by omega) (by omega) (by omega)).trans (f1 a i (by omega))
    · rw [f2 a i (by omega)]
      by_cases y2 : a = 0
      · exact f1 a i (by omega)
      · exact r1 a i (by omega) (by omega)
  · have := s2.2.1
    rw [f1 100 0 (by omega)] at this
    omega
  · have k := s2.2.2 i (by rw [f1 100 0 (by omega)]; omega)
    exact ⟨k.1.trans (f1 101 i (by omega)), k.2.trans (f1 102 i (by omega))⟩
/-- the sheets have changed alike -/
theorem q_LI_s {L tm sl l l2 : Nat} {X : Nat → Int} {Vt : Nat → Nat → (Nat → Int) → Int} {M M1 M2 : q_M} (h : q_Lx L X tm sl Vt l M) (R : q_Rw M) (C1 : q_XI Vt tm l2 sl M1) (f1 : q_cfr M M1) (r1 : ∀ a i, ((11 ≤ a ∧ a ≤ 14) ∨ (30 ≤ a ∧ a ≤ 36) ∨ (65 ≤ a ∧ a ≤ 90)) → M1 a i = M a i) (I2 : q_MI Vt tm M2) (f2 : q_mfr M1 M2) (s2 : ∀ a i, ((a = 100 ∧ (i = 0 ∨ i = 5)) ∨ (101 ≤ a ∧ a ≤ 104) ∨ a = 108 ∨ a = 109) → M2 a i = M1 a i) (hS : q_Rsh M2) : q_LI L X tm sl M2 := by
  refine q_Lx_of h (q_XI_mfr f2 C1) I2 (fun a i ha => (f2 a i (by omega)).trans (f1 a i (by omega))) ?_
  obtain ⟨R1, R2, R3, R4⟩ := R
  have em : mW M2 = mW M := mW_same (fun a i ha => (s2 a i (by omega)).trans (f1 a i (by omega)))
  refine ⟨?_, by rw [em]; exact R2, hS, q_Rkp_f (fun a i ha => ?_) (fun z => ⟨?_, fun i _ => ⟨?_, ?_⟩⟩) R4⟩
  · rw [em, cW_same (M := M1) (fun a i ha => f2 a i (by omega)), cW_same (M := M) (fun a i ha => r1 a i (by omega))]
    exact R1
  · by_cases y : a = 108 ∨ a = 109
    · exact (s2 a i (by omega)).trans (f1 a i (by omega))
    · rw [f2 a i (by omega)]
      by_cases y2 : a = 0
      · exact f1 a i (by omega)
      · exact r1 a i (by omega)
  · rw [s2 100 0 (by omega), f1 100 0 (by omega)]
    exact z
  · exact (s2 _ _ (by omega)).trans (f1 _ _ (by omega))
  · exact (s2 _ _ (by omega)).trans (f1 _ _ (by omega))
theorem q_ivS_bdX {S : q_M} {b w v : Int} (h : q_ivS S) : q_ivS (F_bdX S b w v) := by
  unfold F_bdX
  by_cases c : (0 ≤ b ∧ b ≤ 4) ∧ (0 ≤ w ∧ w ≤ 3) ∧ ((if w = 1 then F_cnt (S 4) b (F_n S) else 0) ≤ v ∧ v ≤ (if w = 1 then 5 else 99))
  · rw [if_pos c]
    have eb : ((b.toNat : Nat) : Int) = b := by omega
    refine q_ivS_bd (b := b.toNat) h (by omega) (fun k => ?_)
    have := c.2.2.1
    rw [if_pos k] at this
    rw [eb]
    exact this
  · rw [if_neg c]
    exact h
theorem q_ivS_stX {S : q_M} {km wh hv : Int} (h : q_ivS S) : q_ivS (F_stX S km wh hv) := by
  unfold F_stX
  split
  · next c => exact q_ivS_add h c.2
  · exact h
theorem q_ivS_ptX {S : q_M} {p w v : Int} (h : q_ivS S) : q_ivS (F_ptX S p w v) := by
  unfold F_ptX
  split
  · next c => exact q_ivS_pt h (by unfold F_n; omega)
  · exact h
/-- stones by a sheet: both sides -/
theorem q_stonesBy_S {M : q_M} {s so fr n : Int} (R : q_Rw M) (h0 : 0 ≤ M 12 5) (h5 : M 12 5 ≤ 5) (hz : ∀ t, t < 4 → M 111 t ≤ 40) : (q_stonesBy M s so fr n).1 = (B_sb M s so fr n).1 ∧ cW (q_stonesBy M s so fr n).2 11 = (B_sb M s so fr n).2 := by
  obtain ⟨R1, _, R3, _⟩ := R
  by_cases c1 : (0 ≤ s ∧ s < 4) ∧ (0 ≤ so ∧ so ≤ 2) ∧ (0 ≤ n ∧ n ≤ 5)
  · obtain ⟨r1, r2, r3⟩ := R3 s.toNat (by omega)
    have hzs := hz s.toNat (by omega)
    have eL : q_stonesBy M s so fr n = (if M 110 s.toNat = -1 then (-11, M) else if M 110 s.toNat ≠ so then (-13, M) else if 0 < n ∧ fr < 0 then (-12, M) else q_sb (M (6 + (86 + 2 * s.toNat) + 1)) fr (M 111 s.toNat) n.toNat 0 0 M) := by
      unfold q_stonesBy
      rw [if_neg (show ¬¬((0 ≤ s ∧ s < 4) ∧ (0 ≤ so ∧ so ≤ 2) ∧ (0 ≤ n ∧ n ≤ 5)) from fun z => z c1), r1, r2]
    have eR : B_sb M s so fr n = (if M 110 s.toNat = -1 then (-11, mW M) else if M 110 s.toNat ≠ so then (-13, mW M) else if 0 < n ∧ fr < 0 then (-12, mW M) else F_sb (fun x => M 112 (40 * s.toNat + x)) fr (M 111 s.toNat) n.toNat 0 0 (mW M)) := by
      unfold B_sb
      rw [if_neg (show ¬¬((0 ≤ s ∧ s < 4) ∧ (0 ≤ so ∧ so ≤ 2) ∧ (0 ≤ n ∧ n ≤ 5)) from fun z => z c1)]
    by_cases c2 : M 110 s.toNat = -1
    · rw [if_pos c2] at eL eR
      rw [eL, eR]
      exact ⟨rfl, R1⟩
    · rw [if_neg c2] at eL eR
      by_cases c3 : M 110 s.toNat ≠ so
      · rw [if_pos c3] at eL eR
        rw [eL, eR]
        exact ⟨rfl, R1⟩
      · rw [if_neg c3] at eL eR
        by_cases c4 : 0 < n ∧ fr < 0
        · rw [if_pos c4] at eL eR
          rw [eL, eR]
          exact ⟨rfl, R1⟩
        · rw [if_neg c4] at eL eR
          rw [eL, eR, ← R1]
          have k := q_sb_S (C := M (6 + (86 + 2 * s.toNat) + 1)) (fr := fr) (sz := M 111 s.toNat) n.toNat 0 0 M h0 h5
          by_cases c5 : 0 ≤ fr
          · rw [F_sb_c c5 (C2 := fun x => M 112 (40 * s.toNat + x)) (fun i hi => r3 i (by omega))] at k
            exact k
          · have e : n.toNat = 0 := by omega
            rw [e] at k ⊢
            exact k
  · have eL : q_stonesBy M s so fr n = (-2, M) := if_pos c1
    have eR : B_sb M s so fr n = (-2, mW M) := if_pos c1
    rw [eL, eR]
    exact ⟨rfl, R1⟩
theorem q_sb_f {C : Nat → Int} {fr sz : Int} : ∀ (j k : Nat) (came : Int) (M : q_M) (a i : Nat), (a < 12 ∨ (14 < a ∧ a < 33) ∨ 36 < a) → (q_sb C fr sz j k came M).2 a i = M a i
  | 0, _, _, _, _, _, _ => rfl
  | j + 1, k, came, M, a, i, ha => by
    rw [q_sb]
    split
    · rfl
    · split
      · rw [q_sb_f j (k + 1) _ _ a i ha]
        exact q_adM_f ha
      · exact q_sb_f j (k + 1) _ _ a i ha
theorem q_stonesBy_f {M : q_M} {s so fr n : Int} {a i : Nat} (ha : a < 12 ∨ (14 < a ∧ a < 33) ∨ 36 < a) : (q_stonesBy M s so fr n).2 a i = M a i := by
  unfold q_stonesBy
  split
  · rfl
  · split
    · rfl
    · split
      · rfl
      · split
        · rfl
        · exact q_sb_f _ _ _ _ a i ha
theorem q_ivS_sbB {M : q_M} {s so fr n : Int} (h : q_ivS (mW M)) : q_ivS (B_sb M s so fr n).2 := by
  unfold B_sb
  split
  · exact h
  · split
    · exact h
    · split
      · exact h
      · split
        · exact h
        · exact q_ivS_sb _ _ _ _ h
theorem AB_copy {M : q_M} {s i o j n : Int} (R : q_Rsh M) : A_copy M s i o j n = B_copy M s i o j n := by
  unfold A_copy B_copy
  by_cases c : (0 ≤ s ∧ s < 4) ∧ (0 ≤ o ∧ o < 4)
  · obtain ⟨r1, r2, _⟩ := R s.toNat (by omega)
    obtain ⟨r3, r4, _⟩ := R o.toNat (by omega)
    rw [r1, r2, r3, r4]
  · rw [if_pos c, if_pos c]
theorem B_copy_k {M : q_M} {s i o j n : Int} (h : 0 ≤ B_copy M s i o j n) : (0 ≤ s ∧ s < 4) ∧ (0 ≤ o ∧ o < 4) ∧ 0 ≤ n ∧ 0 ≤ i ∧ 0 ≤ j ∧ i ≤ M 111 s.toNat - n ∧ j ≤ M 111 o.toNat - n := by
  unfold B_copy at h
  split at h
  · omega
  · split at h
    · omega
    · split at h
      · omega
      · split at h
        · omega
        · omega
theorem q_Rsh_copy {M M1 M2 : q_M} {s i o j n : Int} (R : q_Rsh M) (e1 : M1 = q_copyM M s i o j n) (e2 : M2 = (if 0 ≤ B_copy M1 s i o j n then q_cpy M1 112 (40 * s.toNat + i.toNat) 112 (40 * o.toNat + j.toNat) n.toNat else M1)) (hB : B_copy M1 s i o j n = B_copy M s i o j n) (hz : ∀ t, t < 4 → M 111 t ≤ 40) : q_Rsh M2 := by
  have eA := AB_copy (s := s) (i := i) (o := o) (j := j) (n := n) R
  rw [hB] at e2
  by_cases c : 0 ≤ B_copy M s i o j n
  · have eM : M1 = q_cpy M (6 + (86 + 2 * s.toNat) + 1) i.toNat (6 + (86 + 2 * o.toNat) + 1) j.toNat n.toNat := by rw [e1]; unfold q_copyM; rw [eA, if_pos c]
    rw [if_pos c] at e2
    obtain ⟨k1, k2, k3, k4, k5, k6, k7⟩ := B_copy_k c
    have z1 := hz s.toNat (by omega)
    have z2 := hz o.toNat (by omega)
    obtain ⟨r1, r2, r3⟩ := R s.toNat (by omega)
    obtain ⟨r4, r5, r6⟩ := R o.toNat (by omega)
    have n1 : ∀ a x, a ≠ 6 + (86 + 2 * o.toNat) + 1 → M1 a x = M a x := fun a x ha => by rw [eM]; exact if_neg (fun z => ha z.1)
    have n2 : ∀ a x, a ≠ 112 → M2 a x = M1 a x := fun a x ha => by rw [e2]; exact if_neg (fun z => ha z.1)
    refine q_Rsh_one (S := o.toNat) R (fun a x q1 q2 q3 => ?_) (fun a x q1 q2 => ?_) (fun x q => ?_) ⟨?_, ?_, fun x hx => ?_⟩
    · rw [n2 a x (by omega), n1 a x q2]
    · rw [n2 a x (by omega), n1 a x (by omega)]
    · rw [e2]
      unfold q_cpy
      rw [if_neg (by omega), n1 _ _ (by omega)]
    · rw [n2 _ _ (by omega), n1 _ _ (by omega), n2 _ _ (by omega), n1 _ _ (by omega)]
      exact r4
    · rw [n2 _ _ (by omega), n1 _ _ (by omega), n2 _ _ (by omega), n1 _ _ (by omega)]
      exact r5
    · rw [n2 _ _ (by omega)]
      have g1 : M1 (6 + (86 + 2 * o.toNat) + 1) x = (if j.toNat ≤ x ∧ x < j.toNat + n.toNat then M (6 + (86 + 2 * s.toNat) + 1) (i.toNat + (x - j.toNat)) else M (6 + (86 + 2 * o.toNat) + 1) x) := by
        rw [eM]
        unfold q_cpy
        by_cases y : j.toNat ≤ x ∧ x < j.toNat + n.toNat
        · rw [if_pos ⟨rfl, y⟩, if_pos y]
        · rw [if_neg (fun z => y z.2), if_neg y]
      have g2 : M2 112 (40 * o.toNat + x) = (if j.toNat ≤ x ∧ x < j.toNat + n.toNat then M 112 (40 * s.toNat + (i.toNat + (x - j.toNat))) else M 112 (40 * o.toNat + x)) := by
        rw [e2]
        unfold q_cpy
        by_cases y : j.toNat ≤ x ∧ x < j.toNat + n.toNat
        · rw [if_pos ⟨rfl, by omega, by omega⟩, if_pos y, n1 _ _ (by omega), show 40 * s.toNat + i.toNat + (40 * o.toNat + x - (40 * o.toNat + j.toNat)) = 40 * s.toNat + (i.toNat + (x - j.toNat)) by omega]
        · rw [if_neg (by omega), if_neg y, n1 _ _ (by omega)]
      rw [g1, g2]
      split
      · exact r3 _ (by omega)
      · exact r6 x hx
  · have eM : M1 = M := by rw [e1]; unfold q_copyM; rw [eA, if_neg c]
    rw [e2, if_neg c, eM]
    exact R
theorem AB_film {M : q_M} {s p n : Int} (h : M 12 5 = M 100 0) : A_film M s p n = B_film M s p n := by
  unfold A_film B_film
  rw [h]
  by_cases c1 : 0 ≤ s ∧ s < 4
  · rw [if_neg (fun z => z c1), if_neg (show ¬¬(0 ≤ s ∧ s ≤ 3) by omega)]
    by_cases c2 : 0 ≤ p ∧ p < M 100 0
    · rw [if_neg (fun z => z c2), if_neg (show ¬¬(0 ≤ p ∧ p ≤ M 100 0 - 1) by omega)]
    · rw [if_pos c2, if_pos (show ¬(0 ≤ p ∧ p ≤ M 100 0 - 1) by omega)]
  · rw [if_pos c1, if_pos (show ¬(0 ≤ s ∧ s ≤ 3) by omega)]
theorem q_Rsh_film {V : Nat → (Nat → Int) → Int} {M M1 M2 : q_M} {s p n : Int} (R : q_Rw M) (h1 : q_tq (q_filmM V M s p n) M1) (h2 : q_mq (q_filmB V M1 s p n) M2) (e0 : M 12 5 = M 100 0) : q_Rsh M2 := by
  obtain ⟨R1, R2, R3, R4⟩ := R
  have f1 : ∀ a i, 92 ≤ a → a < 124 → M1 a i = q_filmM V M s p n a i := fun a i q1 q2 => h1 a i (by omega) (by omega) (by omega) (by omega)
  have f2 : ∀ a i, a < 116 → a ≠ 100 → M2 a i = q_filmB V M1 s p n a i := fun a i q1 q2 => h2 a i (by omega) (fun z => absurd z q2)
  have n0 : M1 100 0 = M 100 0 := by
    rw [f1 100 0 (by omega) (by omega)]
    unfold q_filmM
    split
    · exact q_shM_n (by omega) (by omega)
    · rfl
  by_cases c : (0 ≤ s ∧ s < 4) ∧ (0 ≤ p ∧ p < M 12 5) ∧ (0 ≤ n ∧ n ≤ 20)
  · have cB : (0 ≤ s ∧ s ≤ 3) ∧ (0 ≤ p ∧ p ≤ M1 100 0 - 1) ∧ (0 ≤ n ∧ n ≤ 20) := by omega
    have eM : q_filmM V M s p n = q_shM M (6 + (86 + 2 * s.toNat)) 0 n (F_flm V (cW M 11) p.toNat n.toNat) := if_pos c
    have eB : q_filmB V M1 s p n = q_flM M1 s.toNat n 40 (G_flm V (mW M1) p.toNat n.toNat) := if_pos cB
    have v := q_shM_v (M := M) (a := 6 + (86 + 2 * s.toNat)) (so := 0) (n := n) (f := F_flm V (cW M 11) p.toNat n.toNat)
    rw [← eM] at v
    have em : mW M1 = mW M := mW_same (fun a i ha => by
      rw [f1 a i (by omega) (by omega), eM]
      exact q_shM_n (by omega) (by omega))
    have eF : G_flm V (mW M1) p.toNat n.toNat = F_flm V (cW M 11) p.toNat n.toNat := by rw [em, R1, F_flm_e R2]
    have w110 : M2 110 s.toNat = 0 := by rw [f2 _ _ (by omega) (by omega), eB]; unfold q_flM; rw [if_pos ⟨rfl, rfl⟩]
    have w111 : M2 111 s.toNat = n := by rw [f2 _ _ (by omega) (by omega), eB]; unfold q_flM; rw [if_neg (by omega), if_pos ⟨rfl, rfl⟩]
    have w112 : ∀ i, i < 40 → M2 112 (40 * s.toNat + i) = F_flm V (cW M 11) p.toNat n.toNat i := fun i hi => by
      rw [f2 _ _ (by omega) (by omega), eB]
      unfold q_flM
      rw [if_neg (by omega), if_neg (by omega), if_pos ⟨rfl, by omega, by omega⟩, eF, show 40 * s.toNat + i - 40 * s.toNat = i by omega]
    have hx : ∀ a i, a < 100 → M2 a i = M1 a i := fun a i ha => by
      rw [f2 a i (by omega) (by omega), eB]
      exact q_flM_n (by omega) (by omega) (by omega)
    refine q_Rsh_one (S := s.toNat) R3 (fun a x q1 q2 q3 => ?_) (fun a x q1 q2 => ?_) (fun x q => ?_) ⟨?_, ?_, fun x hx2 => ?_⟩
    · rw [hx a x (by omega), f1 a x (by omega) (by omega), eM]
      exact q_shM_n q1 q2
    · rw [f2 a x (by omega) (by omega), eB]
      unfold q_flM
      rw [if_neg (fun z => q2 z.2), if_neg (fun z => q2 z.2), if_neg (by omega), f1 a x (by omega) (by omega), eM]
      exact q_shM_n (by omega) (by omega)
    · rw [f2 _ _ (by omega) (by omega), eB]
      unfold q_flM
      rw [if_neg (by omega), if_neg (by omega), if_neg (by omega), f1 _ _ (by omega) (by omega), eM]
      exact q_shM_n (by omega) (by omega)
    · rw [hx _ _ (by omega), f1 _ _ (by omega) (by omega), v.1, w110]
    · rw [hx _ _ (by omega), f1 _ _ (by omega) (by omega), v.2.1, w111]
    · rw [hx _ _ (by omega), f1 _ _ (by omega) (by omega), v.2.2 x hx2, w112 x hx2]
  · have eM : q_filmM V M s p n = M := if_neg c
    have eB : q_filmB V M1 s p n = M1 := if_neg (by omega)
    refine q_Rsh_f (M := M) (fun a i ha => ?_) R3
    rw [f2 a i (by omega) (by omega), eB, f1 a i (by omega) (by omega), eM]
end
section
/-! BOTH SIDES: each call that changes something -/
theorem em_cfr {M M1 : q_M} (f1 : q_cfr M M1) : mW M1 = mW M := mW_same (fun a i ha => f1 a i (by omega))
theorem q_Rw_90 {M : q_M} (R : q_Rw M) : M 12 5 = M 100 0 := congrFun (congrFun R.1 9) 0
theorem q_Rw_91 {M : q_M} (R : q_Rw M) : M 11 9 = M 100 5 := congrFun (congrFun R.1 9) 1
theorem q_Lx_V {L tm sl l : Nat} {X : Nat → Int} {Vt : Nat → Nat → (Nat → Int) → Int} {M M1 : q_M} (h : q_Lx L X tm sl Vt l M) (e : M1 100 11 = M 100 11) : q_Vr Vt M1 = Vt l := by
  unfold q_Vr
  rw [e, h.2.2.1, Int.toNat_natCast]
theorem q_Lx_hz {L tm sl l : Nat} {X : Nat → Int} {Vt : Nat → Nat → (Nat → Int) → Int} {M : q_M} (h : q_Lx L X tm sl Vt l M) : ∀ t, t < 4 → M 111 t ≤ 40 := fun t ht => (h.2.1.2.2.2.1 t ht).2
theorem q_LI_film {L tm sl l : Nat} {X : Nat → Int} {Vt : Nat → Nat → (Nat → Int) → Int} {M M1 M2 : q_M} {s p n : Int} (h : q_Lx L X tm sl Vt l M) (R : q_Rw M) (C1 : q_XI Vt tm l sl M1) (f1 : q_cfr M M1) (t1 : q_tq (q_filmM (Vt l) M s p n) M1) (I2 : q_MI Vt tm M2) (f2 : q_mfr M1 M2) (t2 : q_mq (q_filmB (q_Vr Vt M1) M1 s p n) M2) : A_film M s p n = B_film M1 s p n ∧ q_LI L X tm sl M2 := by
  have eV := q_Lx_V h (f1 100 11 (by omega))
  rw [eV] at t2
  have e0 := q_Rw_90 R
  have n0 : M1 100 0 = M 100 0 := f1 100 0 (by omega)
  refine ⟨(AB_film e0).trans ?_, q_LI_s h R C1 f1 (fun a i ha => ?_) I2 f2 (fun a i ha => ?_) (q_Rsh_film R t1 t2 e0)⟩
  · unfold B_film
    rw [n0]
  · refine (t1 a i (by omega) (by omega) (by omega) (by omega)).trans ?_
    unfold q_filmM
    split
    · exact q_shM_n (by omega) (by omega)
    · rfl
  · refine (t2 a i (by omega) (by omega)).trans ?_
    unfold q_filmB
    split
    · exact q_flM_n (by omega) (by omega) (by omega)
    · rfl
theorem q_LI_cell {L tm sl l l2 : Nat} {X : Nat → Int} {Vt : Nat → Nat → (Nat → Int) → Int} {M M1 M2 : q_M} {s i v : Int} (h : q_Lx L X tm sl Vt l M) (R : q_Rw M) (e1 : M1 = q_cellM M s i v) (C1 : q_XI Vt tm l2 sl M1) (f1 : q_cfr M M1) (I2 : q_MI Vt tm M2) (f2 : q_mfr M1 M2) (e2 : M2 = (if B_cell M1 s i = 1 then q_upd M1 112 (40 * s.toNat + i.toNat) (F_cvt (M1 110 s.toNat) v) else M1)) : A_cell M s i = B_cell M1 s i ∧ q_LI L X tm sl M2 := by
  have hB : B_cell M1 s i = B_cell M s i := by
    unfold B_cell
    rw [f1 110 _ (by omega), f1 111 _ (by omega)]
  refine ⟨(AB_cell R.2.2.1).trans hB.symm, q_LI_s h R C1 f1 (fun a j ha => ?_) I2 f2 (fun a j ha => ?_) (q_Rsh_cell R.2.2.1 e1 e2 hB (q_Lx_hz h))⟩
  · rw [e1]
    unfold q_cellM
    split
    · exact q_upd_n (by omega)
    · rfl
  · rw [e2]
    split
    · exact q_upd_n (by omega)
    · rfl
theorem q_LI_copy {L tm sl l l2 : Nat} {X : Nat → Int} {Vt : Nat → Nat → (Nat → Int) → Int} {M M1 M2 : q_M} {s i o j n : Int} (h : q_Lx L X tm sl Vt l M) (R : q_Rw M) (e1 : M1 = q_copyM M s i o j n) (C1 : q_XI Vt tm l2 sl M1) (f1 : q_cfr M M1) (I2 : q_MI Vt tm M2) (f2 : q_mfr M1 M2) (e2 : M2 = (if 0 ≤ B_copy M1 s i o j n then q_cpy M1 112 (40 * s.toNat + i.toNat) 112 (40 * o.toNat + j.toNat) n.toNat else M1)) : A_copy M s i o j n = B_copy M1 s i o j n ∧ q_LI L X tm sl M2 := by
  have hB : B_copy M1 s i o j n = B_copy M s i o j n := by
    unfold B_copy
    simp only [show ∀ t, M1 110 t = M 110 t from fun t => f1 110 t (by omega), show ∀ t, M1 111 t = M 111 t from fun t => f1 111 t (by omega)]
  refine ⟨(AB_copy R.2.2.1).trans hB.symm, q_LI_s h R C1 f1 (fun a x ha => ?_) I2 f2 (fun a x ha => ?_) (q_Rsh_copy R.2.2.1 e1 e2 hB (q_Lx_hz h))⟩
  · rw [e1]
    unfold q_copyM q_cpy
    split
    · exact if_neg (by omega)
    · rfl
  · rw [e2]
    unfold q_cpy
    split
    · exact if_neg (by omega)
    · rfl
theorem q_LI_sheet {L tm sl l l2 : Nat} {X : Nat → Int} {Vt : Nat → Nat → (Nat → Int) → Int} {M M1 M2 : q_M} {s so n : Int} (h : q_Lx L X tm sl Vt l M) (R : q_Rw M) (e1 : M1 = q_sheetM M s so n) (C1 : q_XI Vt tm l2 sl M1) (f1 : q_cfr M M1) (I2 : q_MI Vt tm M2) (f2 : q_mfr M1 M2) (h0 : A_sheet s so n ≠ 1 → M2 = M1) (h1 : A_sheet s so n = 1 → M2 110 s.toNat = so ∧ M2 111 s.toNat = (if so = -1 then 0 else n) ∧ (∀ i, i < 40 → M2 112 (40 * s.toNat + i) = 0) ∧ ∀ a i, (a = 110 ∨ a = 111 → i ≠ s.toNat) → (a = 112 → i < 40 * s.toNat ∨ 40 * s.toNat + 40 ≤ i) → M2 a i = M1 a i) : q_LI L X tm sl M2 := by
  refine q_LI_s h R C1 f1 (fun a x ha => ?_) I2 f2 (fun a x ha => ?_) (q_Rsh_sheet R.2.2.1 e1 h0 (fun a x ha => f2 a x (by omega)) h1)
  · rw [e1]
    unfold q_sheetM
    split
    · exact q_shM_n (by omega) (by omega)
    · rfl
  · by_cases c : A_sheet s so n = 1
    · exact (h1 c).2.2.2 a x (by omega) (by omega)
    · rw [h0 c]
theorem q_LI_sb {L tm sl l l2 : Nat} {X : Nat → Int} {Vt : Nat → Nat → (Nat → Int) → Int} {M M1 M2 : q_M} {s so fr n : Int} (h : q_Lx L X tm sl Vt l M) (R : q_Rw M) (e1 : M1 = (q_stonesBy M s so fr n).2) (C1 : q_XI Vt tm l2 sl M1) (f1 : q_cfr M M1) (I2 : q_MI Vt tm M2) (f2 : q_mfr M1 M2) (e2 : mW M2 = (B_sb M1 s so fr n).2) (s2 : q_mws M1 M2) : (q_stonesBy M s so fr n).1 = (B_sb M1 s so fr n).1 ∧ q_LI L X tm sl M2 := by
  have hB : B_sb M1 s so fr n = B_sb M s so fr n := by
    unfold B_sb
    simp only [show ∀ t, M1 110 t = M 110 t from fun t => f1 110 t (by omega), show ∀ t, M1 111 t = M 111 t from fun t => f1 111 t (by omega), show ∀ t, M1 112 t = M 112 t from fun t => f1 112 t (by omega), em_cfr f1]
  have e0 := q_Rw_90 R
  have n0 := h.2.1.1.1
  have k := q_stonesBy_S (s := s) (so := so) (fr := fr) (n := n) R (by omega) (by omega) (q_Lx_hz h)
  rw [hB] at e2 ⊢
  rw [← e1] at k
  exact ⟨k.1, q_LI_w h R C1 f1 k.2 (fun a i ha hb => by rw [e1]; exact q_stonesBy_f (by omega)) I2 f2 e2 s2 (q_ivS_sbB R.2.1)⟩
theorem q_LI_bd {L tm sl l l2 : Nat} {X : Nat → Int} {Vt : Nat → Nat → (Nat → Int) → Int} {M M1 M2 : q_M} {b w v : Int} (h : q_Lx L X tm sl Vt l M) (R : q_Rw M) (C1 : q_XI Vt tm l2 sl M1) (f1 : q_cfr M M1) (e1 : cW M1 11 = F_bdX (cW M 11) b w v) (r1 : ∀ a i, 65 ≤ a → a < 100 → M1 a i = M a i) (I2 : q_MI Vt tm M2) (f2 : q_mfr M1 M2) (e2 : mW M2 = F_bdX (mW M1) b w v) (s2 : q_mws M1 M2) : B_bdC (cW M 11) b w v = B_bdC (mW M1) b w v ∧ q_LI L X tm sl M2 := by
  rw [em_cfr f1] at e2 ⊢
  rw [R.1] at e1 ⊢
  exact ⟨rfl, q_LI_w h R C1 f1 e1 r1 I2 f2 e2 s2 (q_ivS_bdX R.2.1)⟩
theorem q_LI_st {L tm sl l l2 : Nat} {X : Nat → Int} {Vt : Nat → Nat → (Nat → Int) → Int} {M M1 M2 : q_M} {b w v : Int} (h : q_Lx L X tm sl Vt l M) (R : q_Rw M) (C1 : q_XI Vt tm l2 sl M1) (f1 : q_cfr M M1) (e1 : cW M1 11 = F_stX (cW M 11) b w v) (r1 : ∀ a i, 65 ≤ a → a < 100 → M1 a i = M a i) (I2 : q_MI Vt tm M2) (f2 : q_mfr M1 M2) (e2 : mW M2 = F_stX (mW M1) b w v) (s2 : q_mws M1 M2) : B_stn (cW M 11) b w v = B_stn (mW M1) b w v ∧ q_LI L X tm sl M2 := by
  rw [em_cfr f1] at e2 ⊢
  rw [R.1] at e1 ⊢
  exact ⟨rfl, q_LI_w h R C1 f1 e1 r1 I2 f2 e2 s2 (q_ivS_stX R.2.1)⟩
theorem q_LI_pt {L tm sl l l2 : Nat} {X : Nat → Int} {Vt : Nat → Nat → (Nat → Int) → Int} {M M1 M2 : q_M} {b w v : Int} (h : q_Lx L X tm sl Vt l M) (R : q_Rw M) (C1 : q_XI Vt tm l2 sl M1) (f1 : q_cfr M M1) (e1 : cW M1 11 = F_ptX (cW M 11) b w v) (r1 : ∀ a i, 65 ≤ a → a < 100 → M1 a i = M a i) (I2 : q_MI Vt tm M2) (f2 : q_mfr M1 M2) (e2 : mW M2 = F_ptX (mW M1) b w v) (s2 : q_mws M1 M2) : B_put (cW M 11) b w v = B_put (mW M1) b w v ∧ q_LI L X tm sl M2 := by
  rw [em_cfr f1] at e2 ⊢
  rw [R.1] at e1 ⊢
  exact ⟨rfl, q_LI_w h R C1 f1 e1 r1 I2 f2 e2 s2 (q_ivS_ptX R.2.1)⟩
/-- a year on both sides -/
theorem q_LI_year {L tm sl l : Nat} {X : Nat → Int} {Vt : Nat → Nat → (Nat → Int) → Int} {M M1 M2 : q_M} (h : q_Lx L X tm sl Vt l M) (R : q_Rw M) (C1 : q_XI Vt tm l sl M1) (e1 : cW M1 11 = (F_year (Vt l) (cW M 11)).2) (t1 : ∀ a i, (a ≠ 11 ∨ i ≠ 9) → a ≠ 37 → a ≠ q_ta l + 2 → (i < 5 → a ≠ 14 ∧ a ≠ 32 ∧ a ≠ 35 ∧ (a < 16 ∨ (21 ≤ a ∧ a < 23) ∨ 28 ≤ a)) → M1 a i = M a i) (I2 : q_MI Vt tm M2) (e2 : mW M2 = (G_year (q_Vr Vt M1) (mW M1)).2) (z2 : q_mz M1 M2) : (F_year (Vt l) (cW M 11)).1 = (G_year (q_Vr Vt M1) (mW M1)).1 ∧ q_LI L X tm sl M2 := by
  have hta : q_tas (q_ta l) := h.1.2.2.1.1
  unfold q_tas at hta
  have f1 : ∀ a i, ((65 ≤ a ∧ a < 124) ∨ 1000 ≤ a ∨ a < 3 ∨ (a = 11 ∧ i = 10)) → M1 a i = M a i := fun a i ha => t1 a i (by omega) (by omega) (by omega) (by omega)
  have em : mW M1 = mW M := mW_same (fun a i ha => f1 a i (by omega))
  rw [q_Lx_V h (f1 100 11 (by omega)), em] at e2 ⊢
  rw [R.1] at e1 ⊢
  obtain ⟨y1, y2, y3⟩ := F_year_e (V := Vt l) R.2.1
  rw [y1] at e1 ⊢
  have g2 : ∀ a i, (a < 100 ∨ 124 ≤ a ∨ (105 ≤ a ∧ a ≤ 114) ∨ a = 101 ∨ a = 102 ∨ (a = 100 ∧ i ≠ 5)) → M2 a i = M1 a i := fun a i ha => z2 a i (by omega) (by omega) (by omega) (by omega) (by omega)
  refine ⟨rfl, q_Lx_of h (q_XI_mfw (fun a i ha => g2 a i (by omega)) C1) I2 (fun a i ha => (g2 a i (by omega)).trans (f1 a i (by omega))) (q_Rw_w R ?_ (by rw [e2]; exact y2) (fun a i ha => (g2 a i (by omega)).trans (f1 a i (by omega))) (fun z => ⟨?_, fun i hi => ⟨?_, ?_⟩⟩))⟩
  · rw [cW_same (M := M1) (fun a i ha => g2 a i (by omega)), e1, e2]
  · rw [g2 100 0 (by omega), f1 100 0 (by omega)]
    exact z
  · exact (g2 _ _ (by omega)).trans (f1 _ _ (by omega))
  · exact (g2 _ _ (by omega)).trans (f1 _ _ (by omega))
theorem q_LI_dawn {L tm sl l : Nat} {X : Nat → Int} {Vt : Nat → Nat → (Nat → Int) → Int} {M : q_M} {V : Int} (h : q_Lx L X tm sl Vt l M) (R : q_Rw M) (C2 : q_XI Vt tm l sl (q_upd (q_upd M 11 9 V) 100 5 V)) (I2 : q_MI Vt tm (q_upd (q_upd M 11 9 V) 100 5 V)) : q_LI L X tm sl (q_upd (q_upd M 11 9 V) 100 5 V) := by
  have f : ∀ a i, (a ≠ 11 ∨ i ≠ 9) → (a ≠ 100 ∨ i ≠ 5) → q_upd (q_upd M 11 9 V) 100 5 V a i = M a i := fun a i h1 h2 => by rw [q_upd_n h2, q_upd_n h1]
  have e1 : cW (q_upd (q_upd M 11 9 V) 100 5 V) 11 = q_upd (cW M 11) 9 1 V := by
    rw [cW_same (M := q_upd M 11 9 V) (fun a i ha => q_upd_n (by omega)), cW_up9]
  have e2 : mW (q_upd (q_upd M 11 9 V) 100 5 V) = q_upd (mW M) 9 1 V := by
    rw [mW_up9, mW_same (M := M) (fun a i ha => q_upd_n (by omega))]
  refine q_Lx_of h C2 I2 (fun a i ha => f a i (by omega) (by omega)) (q_Rw_w R (by rw [e1, e2, R.1]) ?_ (fun a i ha => f a i (by omega) (by omega)) (fun z => ⟨by rw [f 100 0 (by omega) (by omega)]; exact z, fun i _ => ⟨f _ _ (by omega) (by omega), f _ _ (by omega) (by omega)⟩⟩))
  rw [e2]
  exact q_ivS_same R.2.1 (q_upd_o (by omega)) (q_upd_n (by omega)) (fun b hb => by rw [q_upd_n (by omega)]; exact R.2.1.2.2.1 b hb) (q_upd_o (by omega)) (q_upd_o (by omega))
theorem cW_up10 {M : q_M} {w : Nat} {v : Int} : cW (q_upd M w 10 v) w = cW M w := by
  funext f i
  unfold cW
  split <;> simp (disch := omega) only [q_upd_n]
theorem q_Rw_force {M : q_M} {x V : Int} (R : q_Rw M) : q_Rw (q_upd (q_upd M 11 10 x) 100 11 V) := by
  have f : ∀ a i, (a ≠ 11 ∨ i ≠ 10) → (a ≠ 100 ∨ i ≠ 11) → q_upd (q_upd M 11 10 x) 100 11 V a i = M a i := fun a i h1 h2 => by rw [q_upd_n h2, q_upd_n h1]
  have e1 : cW (q_upd (q_upd M 11 10 x) 100 11 V) 11 = cW M 11 := by
    rw [cW_same (M := q_upd M 11 10 x) (fun a i ha => q_upd_n (by omega)), cW_up10]
  have e2 : mW (q_upd (q_upd M 11 10 x) 100 11 V) = mW M := mW_same (fun a i ha => f a i (by omega) (by omega))
  exact q_Rw_w R (by rw [e1, e2, R.1]) (by rw [e2]; exact R.2.1) (fun a i ha => f a i (by omega) (by omega)) (fun z => ⟨by rw [f 100 0 (by omega) (by omega)]; exact z, fun i _ => ⟨f _ _ (by omega) (by omega), f _ _ (by omega) (by omega)⟩⟩)
/-- an image on both sides -/
theorem q_LI_image {L tm sl l : Nat} {X : Nat → Int} {Vt : Nat → Nat → (Nat → Int) → Int} {M M1 M2 : q_M} (h : q_Lx L X tm sl Vt l M) (R : q_Rw M) (C1 : q_XI Vt tm l sl M1) (e1 : cW M1 65 = cW M 11) (k1 : M1 0 6 = 1) (u1 : M1 65 10 = M 11 10) (t1 : ∀ a i, ((a < 65 ∧ (a = 0 → i ≠ 6)) ∨ 90 < a) → M1 a i = M a i) (I2 : q_MI Vt tm M2) (t2 : ∀ a i, a ≠ 108 → a ≠ 109 → (a = 100 → i ≠ 12) → M2 a i = M1 a i) (w1 : ∀ i, i < 15 → M2 108 i = M1 104 i) (w2 : ∀ i, i < 20 → M2 108 (15 + i) = M1 103 i) (w3 : M2 109 0 = M1 100 0) (w4 : M2 109 1 = M1 100 5) (w5 : M2 109 2 = M1 100 11) (w6 : M2 100 12 = 1) : M 12 5 = M1 100 0 ∧ q_LI L X tm sl M2 := by
  have hL := h
  obtain ⟨h1, h2, h3, h4, h5, h6, h9, h10⟩ := h
  have em : mW M1 = mW M := mW_same (fun a i ha => t1 a i (by omega))
  have em2 : mW M2 = mW M := (mW_same (M := M1) (fun a i ha => t2 a i (by omega) (by omega) (by omega))).trans em
  have e0 := q_Rw_90 R
  have n0 := h2.1.1
  have l1 := q_XI_l h1
  have c1 : M1 100 0 = M 100 0 := t1 100 0 (by omega)
  have ek : mK M2 = mW M := by
    rw [← em]
    have en : (M2 109 0).toNat = (M1 100 0).toNat := by rw [w3]
    have v1 : ∀ i, i < (M1 100 0).toNat → i < 5 := fun i hi => by omega
    funext f i
    match f with
    | 0 =>
      show (if i < (M2 109 0).toNat then M2 101 i else 0) = (if i < (M1 100 0).toNat then M1 101 i else 0)
      rw [en]
      by_cases c : i < (M1 100 0).toNat
      · have := v1 i c
        rw [if_pos c, if_pos c, t2 101 i (by omega) (by omega) (by omega)]
      · rw [if_neg c, if_neg c]
    | 1 =>
      show (if i < (M2 109 0).toNat then M2 102 i else 0) = (if i < (M1 100 0).toNat then M1 102 i else 0)
      rw [en]
      by_cases c : i < (M1 100 0).toNat
      · have := v1 i c
        rw [if_pos c, if_pos c, t2 102 i (by omega) (by omega) (by omega)]
      · rw [if_neg c, if_neg c]
    | 2 =>
      show (if i < (M2 109 0).toNat then M2 108 (3 * i) else 0) = (if i < (M1 100 0).toNat then M1 104 (3 * i) else 0)
      rw [en]
      by_cases c : i < (M1 100 0).toNat
      · have := v1 i c
        rw [if_pos c, if_pos c, w1 _ (by omega)]
      · rw [if_neg c, if_neg c]
    | 3 =>
      show (if i < (M2 109 0).toNat then M2 108 (3 * i + 1) else 0) = (if i < (M1 100 0).toNat then M1 104 (3 * i + 1) else 0)
      rw [en]
      by_cases c : i < (M1 100 0).toNat
      · have := v1 i c
        rw [if_pos c, if_pos c, w1 _ (by omega)]
      · rw [if_neg c, if_neg c]
    | 4 =>
      show (if i < (M2 109 0).toNat then (if M2 108 (3 * i + 2) = -1 then 5 else M2 108 (3 * i + 2)) else 0) = (if i < (M1 100 0).toNat then (if M1 104 (3 * i + 2) = -1 then 5 else M1 104 (3 * i + 2)) else 0)
      rw [en]
      by_cases c : i < (M1 100 0).toNat
      · have := v1 i c
        rw [if_pos c, if_pos c, w1 _ (by omega)]
      · rw [if_neg c, if_neg c]
    | 5 =>
      show (if i < 5 then M2 108 (15 + 4 * i) else 0) = (if i < 5 then M1 103 (4 * i) else 0)
      by_cases c : i < 5
      · rw [if_pos c, if_pos c, w2 _ (by omega)]
      · rw [if_neg c, if_neg c]
    | 6 =>
      show (if i < 5 then M2 108 (15 + (4 * i + 1)) else 0) = (if i < 5 then M1 103 (4 * i + 1) else 0)
      by_cases c : i < 5
      · rw [if_pos c, if_pos c, w2 _ (by omega)]
      · rw [if_neg c, if_neg c]
    | 7 =>
      show (if i < 5 then M2 108 (15 + (4 * i + 2)) else 0) = (if i < 5 then M1 103 (4 * i + 2) else 0)
      by_cases c : i < 5
      · rw [if_pos c, if_pos c, w2 _ (by omega)]
      · rw [if_neg c, if_neg c]
    | 8 =>
      show (if i < 5 then M2 108 (15 + (4 * i + 3)) else 0) = (if i < 5 then M1 103 (4 * i + 3) else 0)
      by_cases c : i < 5
      · rw [if_pos c, if_pos c, w2 _ (by omega)]
      · rw [if_neg c, if_neg c]
    | 9 =>
      show (if i = 0 then M2 109 0 else if i = 1 then M2 109 1 else 0) = (if i = 0 then M1 100 0 else if i = 1 then M1 100 5 else 0)
      rw [w3, w4]
    | n + 10 => rfl
  have g : ∀ a i, (a < 65 ∧ (a = 0 → i ≠ 6)) ∨ (90 < a ∧ a ≠ 108 ∧ a ≠ 109 ∧ (a = 100 → i ≠ 12)) → M2 a i = M a i := fun a i ha => (t2 a i (by omega) (by omega) (by omega)).trans (t1 a i (by omega))
  refine ⟨by rw [c1]; exact e0, Vt, l, ⟨q_XI_mfw (fun a i ha => t2 a i (by omega) (by omega) (by omega)) C1, I2, (g 100 11 (by omega)).trans h3, (g _ _ (by omega)).trans h4, fun i => (g _ _ (by omega)).trans (h5 i), q_Rtp_f (fun a i ha => g a i (by omega)) h6, fun _ => ?_, ?_⟩, ?_, ?_, q_Rsh_f (fun a i ha => g a i (by omega)) R.2.2.1, fun _ => ⟨?_, ?_, ?_⟩⟩
  · rw [t2 65 10 (by omega) (by omega) (by omega), u1, l1, w5, t1 100 11 (by omega), h3, Int.toNat_natCast]
  · rw [t2 0 6 (by omega) (by omega) (by omega), k1, w6]
  · rw [cW_same (M := M) (fun a i ha => g a i (by omega)), em2]
    exact R.1
  · rw [em2]
    exact R.2.1
  · rw [cW_same (M := M1) (fun a i ha => t2 a i (by omega) (by omega) (by omega)), e1, ek]
    exact R.1
  · rw [ek]
    exact R.2.1
  · rw [w3, g 100 0 (by omega), c1]
    exact Int.le_refl _
/-- back to the image on both sides -/
theorem q_LI_back {L tm sl l kl : Nat} {X : Nat → Int} {Vt : Nat → Nat → (Nat → Int) → Int} {M M1 M2 : q_M} (h : q_Lx L X tm sl Vt l M) (R : q_Rw M) (k0 : M 0 6 ≠ 0) (C1 : q_XI Vt tm kl sl M1) (u1 : M 65 10 = q_ta kl) (e1 : cW M1 11 = cW M 65) (t1 : ∀ a i, (a < 11 ∨ (14 < a ∧ a < 30) ∨ 36 < a) → M1 a i = M a i) (I2 : q_MI Vt tm M2) (t2 : ∀ a i, a ≠ 103 → a ≠ 104 → (a = 100 → i ≠ 0 ∧ i ≠ 5 ∧ i ≠ 11) → M2 a i = M1 a i) (w1 : ∀ i, i < 15 → M2 104 i = M1 108 i) (w2 : ∀ i, i < 20 → M2 103 i = M1 108 (15 + i)) (w3 : M2 100 0 = M1 109 0) (w4 : M2 100 5 = M1 109 1) (w5 : M2 100 11 = M1 109 2) : M 66 5 = M1 109 0 ∧ q_LI L X tm sl M2 := by
  have hL := h
  obtain ⟨h1, h2, h3, h4, h5, h6, h9, h10⟩ := h
  obtain ⟨r1, r2, r3⟩ := R.2.2.2 k0
  have i9 := h2.2.2.2.2.2.2.2.1.2.2.2.2.2.2.2
  have g : ∀ a i, (a < 11 ∨ (14 < a ∧ a < 30) ∨ (36 < a ∧ a ≠ 103 ∧ a ≠ 104 ∧ (a = 100 → i ≠ 0 ∧ i ≠ 5 ∧ i ≠ 11))) → M2 a i = M a i := fun a i ha => (t2 a i (by omega) (by omega) (by omega)).trans (t1 a i (by omega))
  have s9 : ∀ i, M1 109 i = M 109 i := fun i => t1 109 i (by omega)
  have s8 : ∀ i, M1 108 i = M 108 i := fun i => t1 108 i (by omega)
  have ekm : mK M2 = mK M := mK_same (fun a i ha => g a i (by omega)) (fun i _ => ⟨g _ _ (by omega), g _ _ (by omega)⟩)
  have ek : mW M2 = mK M := by
    have en : (M2 100 0).toNat = (M 109 0).toNat := by rw [w3, s9]
    have v1 : ∀ i, i < (M 109 0).toNat → i < 5 := fun i hi => by omega
    funext f i
    match f with
    | 0 =>
      show (if i < (M2 100 0).toNat then M2 101 i else 0) = (if i < (M 109 0).toNat then M 101 i else 0)
      rw [en]
      by_cases c : i < (M 109 0).toNat
      · have := v1 i c
        rw [if_pos c, if_pos c, g 101 i (by omega)]
      · rw [if_neg c, if_neg c]
    | 1 =>
      show (if i < (M2 100 0).toNat then M2 102 i else 0) = (if i < (M 109 0).toNat then M 102 i else 0)
      rw [en]
      by_cases c : i < (M 109 0).toNat
      · have := v1 i c
        rw [if_pos c, if_pos c, g 102 i (by omega)]
      · rw [if_neg c, if_neg c]
    | 2 =>
      show (if i < (M2 100 0).toNat then M2 104 (3 * i) else 0) = (if i < (M 109 0).toNat then M 108 (3 * i) else 0)
      rw [en]
      by_cases c : i < (M 109 0).toNat
      · have := v1 i c
        rw [if_pos c, if_pos c, w1 _ (by omega), s8]
      · rw [if_neg c, if_neg c]
    | 3 =>
      show (if i < (M2 100 0).toNat then M2 104 (3 * i + 1) else 0) = (if i < (M 109 0).toNat then M 108 (3 * i + 1) else 0)
      rw [en]
      by_cases c : i < (M 109 0).toNat
      · have := v1 i c
        rw [if_pos c, if_pos c, w1 _ (by omega), s8]
      · rw [if_neg c, if_neg c]
    | 4 =>
      show (if i < (M2 100 0).toNat then (if M2 104 (3 * i + 2) = -1 then 5 else M2 104 (3 * i + 2)) else 0) = (if i < (M 109 0).toNat then (if M 108 (3 * i + 2) = -1 then 5 else M 108 (3 * i + 2)) else 0)
      rw [en]
      by_cases c : i < (M 109 0).toNat
      · have := v1 i c
        rw [if_pos c, if_pos c, w1 _ (by omega), s8]
      · rw [if_neg c, if_neg c]
    | 5 =>
      show (if i < 5 then M2 103 (4 * i) else 0) = (if i < 5 then M 108 (15 + 4 * i) else 0)
      by_cases c : i < 5
      · rw [if_pos c, if_pos c, w2 _ (by omega), s8]
      · rw [if_neg c, if_neg c]
    | 6 =>
      show (if i < 5 then M2 103 (4 * i + 1) else 0) = (if i < 5 then M 108 (15 + (4 * i + 1)) else 0)
      by_cases c : i < 5
      · rw [if_pos c, if_pos c, w2 _ (by omega), s8]
      · rw [if_neg c, if_neg c]
    | 7 =>
      show (if i < 5 then M2 103 (4 * i + 2) else 0) = (if i < 5 then M 108 (15 + (4 * i + 2)) else 0)
      by_cases c : i < 5
      · rw [if_pos c, if_pos c, w2 _ (by omega), s8]
      · rw [if_neg c, if_neg c]
    | 8 =>
      show (if i < 5 then M2 103 (4 * i + 3) else 0) = (if i < 5 then M 108 (15 + (4 * i + 3)) else 0)
      by_cases c : i < 5
      · rw [if_pos c, if_pos c, w2 _ (by omega), s8]
      · rw [if_neg c, if_neg c]
    | 9 =>
      show (if i = 0 then M2 100 0 else if i = 1 then M2 100 5 else 0) = (if i = 0 then M 109 0 else if i = 1 then M 109 1 else 0)
      rw [w3, w4, s9, s9]
    | n + 10 => rfl
  have el : kl = (M 109 2).toNat := q_ta_inj (by have := h9 k0; omega)
  refine ⟨by rw [s9]; exact congrFun (congrFun r1 9) 0, Vt, kl, ⟨q_XI_mfw (fun a i ha => t2 a i (by omega) (by omega) (by omega)) C1, I2, ?_, (g _ _ (by omega)).trans h4, fun i => (g _ _ (by omega)).trans (h5 i), q_Rtp_f (fun a i ha => g a i (by omega)) h6, ?_, ?_⟩, ?_, ?_, q_Rsh_f (fun a i ha => g a i (by omega)) R.2.2.1, fun _ => ⟨?_, ?_, ?_⟩⟩
  · rw [w5, s9, el]
    omega
  · rw [g 0 6 (by omega), g 65 10 (by omega), g 109 2 (by omega)]
    exact h9
  · rw [g 0 6 (by omega), g 100 12 (by omega)]
    exact h10
  · rw [cW_same (M := M1) (fun a i ha => t2 a i (by omega) (by omega) (by omega)), e1, ek]
    exact r1
  · rw [ek]
    exact r2
  · rw [cW_same (M := M) (fun a i ha => g a i (by omega)), ekm]
    exact r1
  · rw [ekm]
    exact r2
  · rw [w3, s9, g 109 0 (by omega)]
    exact Int.le_refl _
end
section
/-! THE FIRST STATE: worlds and sheets alike -/
def q_sm0 (a b : Nat) : Bool := decide (a < q_T0.length) && decide (b < q_T0.length)
theorem q_sm0_e {B : q_M} {a b i j : Nat} (h : q_sm0 a b = true) (h2 : decide (q_rd q_T0 a i = q_rd q_T0 b j) = true) : q_lk q_T0 B a i = q_lk q_T0 B b j := by
  unfold q_sm0 at h
  rw [Bool.and_eq_true] at h
  rw [q_lk_rd (of_decide_eq_true h.1), q_lk_rd (of_decide_eq_true h.2)]
  exact of_decide_eq_true h2
def q_fsh : Bool := (List.range 4).all (fun s => q_sm0 (6 + (86 + 2 * s)) 110 && q_sm0 (6 + (86 + 2 * s)) 111 && q_sm0 (6 + (86 + 2 * s) + 1) 112 && decide (q_rd q_T0 (6 + (86 + 2 * s)) 1 = q_rd q_T0 110 s) && decide (q_rd q_T0 (6 + (86 + 2 * s)) 2 = q_rd q_T0 111 s) && (List.range 40).all (fun i => decide (q_rd q_T0 (6 + (86 + 2 * s) + 1) i = q_rd q_T0 112 (40 * s + i))))
theorem q_fsh_t : q_fsh = true := by decide +kernel
theorem q_first_Rsh {B : q_M} : q_Rsh (q_lk q_T0 B) := by
  intro s hs
  have h := q_fsh_t
  unfold q_fsh at h
  rw [List.all_eq_true] at h
  have k := h s (List.mem_range.mpr hs)
  simp only [Bool.and_eq_true] at k
  obtain ⟨⟨⟨⟨⟨k1, k2⟩, k3⟩, k4⟩, k5⟩, k6⟩ := k
  rw [List.all_eq_true] at k6
  exact ⟨q_sm0_e k1 k4, q_sm0_e k2 k5, fun i hi => q_sm0_e k3 (k6 i (List.mem_range.mpr hi))⟩
def q_fwd0 : Bool := q_sm0 30 103 && q_sm0 13 103 && q_sm0 31 103 && q_sm0 32 103 && (List.range 5).all (fun i => decide (q_rd q_T0 30 i = q_rd q_T0 103 (4 * i)) && decide (q_rd q_T0 13 i = q_rd q_T0 103 (4 * i + 1)) && decide (q_rd q_T0 31 i = q_rd q_T0 103 (4 * i + 2)) && decide (q_rd q_T0 32 i = q_rd q_T0 103 (4 * i + 3)))
theorem q_fwd0_t : q_fwd0 = true := by decide +kernel
theorem q_first_w5 {B : q_M} {i : Nat} (hi : i < 5) : q_lk q_T0 B 30 i = q_lk q_T0 B 103 (4 * i) ∧ q_lk q_T0 B 13 i = q_lk q_T0 B 103 (4 * i + 1) ∧ q_lk q_T0 B 31 i = q_lk q_T0 B 103 (4 * i + 2) ∧ q_lk q_T0 B 32 i = q_lk q_T0 B 103 (4 * i + 3) := by
  have h := q_fwd0_t
  unfold q_fwd0 at h
  simp only [Bool.and_eq_true] at h
  obtain ⟨⟨⟨⟨h1, h2⟩, h3⟩, h4⟩, h5⟩ := h
  rw [List.all_eq_true] at h5
  have k := h5 i (List.mem_range.mpr hi)
  simp only [Bool.and_eq_true] at k
  obtain ⟨⟨⟨k1, k2⟩, k3⟩, k4⟩ := k
  exact ⟨q_sm0_e h1 k1, q_sm0_e h2 k2, q_sm0_e h3 k3, q_sm0_e h4 k4⟩
theorem q_first_n {B : q_M} : q_lk q_T0 B 12 5 = 0 := rfl
theorem q_first_n2 {B : q_M} : q_lk q_T0 B 100 0 = 0 := rfl
theorem q_first_W {B : q_M} : cW (q_lk q_T0 B) 11 = mW (q_lk q_T0 B) := by
  have z1 : ∀ i, ¬i < (q_lk q_T0 B 12 5).toNat := fun i => by rw [q_first_n]; omega
  have z2 : ∀ i, ¬i < (q_lk q_T0 B 100 0).toNat := fun i => by rw [q_first_n2]; omega
  funext f i
  match f with
  | 0 =>
    show (if i < (q_lk q_T0 B 12 5).toNat then q_lk q_T0 B 33 i else 0) = (if i < (q_lk q_T0 B 100 0).toNat then q_lk q_T0 B 101 i else 0)
    rw [if_neg (z1 i), if_neg (z2 i)]
  | 1 =>
    show (if i < (q_lk q_T0 B 12 5).toNat then q_lk q_T0 B 34 i else 0) = (if i < (q_lk q_T0 B 100 0).toNat then q_lk q_T0 B 102 i else 0)
    rw [if_neg (z1 i), if_neg (z2 i)]
  | 2 =>
    show (if i < (q_lk q_T0 B 12 5).toNat then q_lk q_T0 B 35 i else 0) = (if i < (q_lk q_T0 B 100 0).toNat then q_lk q_T0 B 104 (3 * i) else 0)
    rw [if_neg (z1 i), if_neg (z2 i)]
  | 3 =>
    show (if i < (q_lk q_T0 B 12 5).toNat then q_lk q_T0 B 36 i else 0) = (if i < (q_lk q_T0 B 100 0).toNat then q_lk q_T0 B 104 (3 * i + 1) else 0)
    rw [if_neg (z1 i), if_neg (z2 i)]
  | 4 =>
    show (if i < (q_lk q_T0 B 12 5).toNat then q_lk q_T0 B 14 i else 0) = (if i < (q_lk q_T0 B 100 0).toNat then mIn (q_lk q_T0 B) i else 0)
    rw [if_neg (z1 i), if_neg (z2 i)]
  | 5 =>
    show (if i < 5 then q_lk q_T0 B 30 i else 0) = (if i < 5 then q_lk q_T0 B 103 (4 * i) else 0)
    by_cases c : i < 5
    · rw [if_pos c, if_pos c, (q_first_w5 c).1]
    · rw [if_neg c, if_neg c]
  | 6 =>
    show (if i < 5 then q_lk q_T0 B 13 i else 0) = (if i < 5 then q_lk q_T0 B 103 (4 * i + 1) else 0)
    by_cases c : i < 5
    · rw [if_pos c, if_pos c, (q_first_w5 c).2.1]
    · rw [if_neg c, if_neg c]
  | 7 =>
    show (if i < 5 then q_lk q_T0 B 31 i else 0) = (if i < 5 then q_lk q_T0 B 103 (4 * i + 2) else 0)
    by_cases c : i < 5
    · rw [if_pos c, if_pos c, (q_first_w5 c).2.2.1]
    · rw [if_neg c, if_neg c]
  | 8 =>
    show (if i < 5 then q_lk q_T0 B 32 i else 0) = (if i < 5 then q_lk q_T0 B 103 (4 * i + 3) else 0)
    by_cases c : i < 5
    · rw [if_pos c, if_pos c, (q_first_w5 c).2.2.2]
    · rw [if_neg c, if_neg c]
  | 9 =>
    show (if i = 0 then q_lk q_T0 B 12 5 else if i = 1 then q_lk q_T0 B 11 9 else 0) = (if i = 0 then q_lk q_T0 B 100 0 else if i = 1 then q_lk q_T0 B 100 5 else 0)
    rw [q_first_n, q_first_n2, show q_lk q_T0 B 11 9 = q_lk q_T0 B 100 5 from rfl]
  | n + 10 => rfl
theorem q_first_Rw {B : q_M} : q_Rw (q_lk q_T0 B) := by
  have en : F_n (mW (q_lk q_T0 B)) = 0 := by
    unfold F_n
    rw [mW_90, q_first_n2]
    rfl
  refine ⟨q_first_W, ⟨?_, ?_, ?_, ?_⟩, q_first_Rsh, fun h => absurd rfl h⟩
  · rw [mW_90, q_first_n2]
    omega
  · intro p hp
    rw [en] at hp
    omega
  · intro b hb
    rw [en]
    show 0 ≤ (if b < 5 then q_lk q_T0 B 103 (4 * b + 1) else 0)
    rw [if_pos hb]
    exact (q_first_MI.1.2.2.2.2.2.2.2.2.1 b hb).1
  · intro p b hp
    rw [en] at hp
    omega
end
