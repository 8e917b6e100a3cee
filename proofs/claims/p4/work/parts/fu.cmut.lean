/-! THE CLASS: calls that change, just so -/
def F_bdX (S : q_M) (b w v : Int) : q_M := if (0 ≤ b ∧ b ≤ 4) ∧ (0 ≤ w ∧ w ≤ 3) ∧ ((if w = 1 then F_cnt (S 4) b (F_n S) else 0) ≤ v ∧ v ≤ (if w = 1 then 5 else 99)) then F_bd S b.toNat w v else S
def F_stX (S : q_M) (km wh hv : Int) : q_M := if F_stB km wh hv = true ∧ S 9 0 ≠ 5 then F_add S km wh hv else S
def F_ptX (S : q_M) (p w v : Int) : q_M := if (0 ≤ p ∧ p ≤ S 9 0 - 1) ∧ (0 ≤ w ∧ w ≤ 1) ∧ (0 ≤ v ∧ v ≤ 99) then F_pt S p.toNat w v else S
theorem cW_bdM {M : q_M} {b : Nat} {w v : Int} (hb : b < 5) (hw : 0 ≤ w ∧ w ≤ 3) : cW (q_bdM M b w v) 11 = F_bd (cW M 11) b w v := by
  unfold q_bdM F_bd
  split
  · exact cW_mvM (w := 11) hb
  · split
    · exact cW_up6 (w := 11) hb
    · split
      · exact cW_up7 (w := 11) hb
      · exact cW_up8 (w := 11) hb
set_option maxHeartbeats 4000000 in
theorem cx_build {Vt : Nat → Nat → (Nat → Int) → Int} {d tm l sl : Nat} {g : q_G} {M : q_M} {b w v0 : Int} {Q : Option q_V → q_G → q_M → Prop} (C : q_XI Vt tm l sl M) (hq : ∀ (l2 : Nat) (M2 : q_M), q_XI Vt tm l2 sl M2 → q_cfr M M2 → cW M2 11 = F_bdX (cW M 11) b w v0 → (∀ a i, 65 ≤ a → a < 100 → M2 a i = M a i) → Q (some (qI (B_bdC (cW M 11) b w v0))) g M2) : q_S 1 (d + 50) 64 [qR 5 0, qI b, qI w, qI v0] g M Q := by
  have T := C.1
  have c := C.2.2.1
  have w0 := c.2.1
  have n5 := q_ci_n c
  have ec : ∀ B : Nat, F_cnt (cW M 11 4) B (F_n (cW M 11)) = F_cnt (M (12 + 2)) B (M 12 5).toNat := fun B => F_cnt_cong _ (fun k hk => if_pos hk)
  have fail : ∀ x : Int, B_bdC (cW M 11) b w v0 = x → F_bdX (cW M 11) b w v0 = cW M 11 → Q (some (qI x)) g M := by
    intro x h1 h2
    have h := hq l M C q_cfr_rf h2.symm (fun _ _ _ _ => rfl)
    rw [h1] at h
    exact h
  by_cases c1 : 0 ≤ b ∧ b < 5
  · obtain ⟨B, rfl⟩ : ∃ B : Nat, b = B := ⟨b.toNat, by omega⟩
    have hcl := F_cnt_le (M (12 + 2)) B (M 12 5).toNat
    have c1b : 0 ≤ (B : Int) ∧ (B : Int) ≤ 4 := by omega
    by_cases c2 : w < 0 ∨ 3 < w ∨ v0 < 0 ∨ 99 < v0 ∨ (w = 1 ∧ (5 < v0 ∨ v0 < F_cnt (M (12 + 2)) B (M 12 5).toNat))
    · refine sp_buildG (d := d + 49) (by omega) n5.1 n5.2 c2 (fail _ ?_ ?_)
      · unfold B_bdC
        rw [if_neg (fun z => z c1b), ec, if_pos]
        by_cases k : w = 1
        · rw [if_pos k, if_pos k]; omega
        · rw [if_neg k, if_neg k]; omega
      · unfold F_bdX
        rw [ec, if_neg]
        by_cases k : w = 1
        · rw [if_pos k, if_pos k]; omega
        · rw [if_neg k, if_neg k]; omega
    · have hk : (if w = 1 then F_cnt (M (12 + 2)) B (M 12 5).toNat else 0) ≤ v0 ∧ v0 ≤ (if w = 1 then (5 : Int) else 99) := by
        by_cases k : w = 1
        · rw [if_pos k, if_pos k]; omega
        · rw [if_neg k, if_neg k]; omega
      have hA : B_bdC (cW M 11) B w v0 = F_site (cW M 11) B w := by
        unfold B_bdC
        rw [if_neg (fun z => z c1b), ec, if_neg (fun z => z.elim (fun z => z (by omega)) (fun z => z hk)), Int.toNat_natCast]
      have hF : F_bdX (cW M 11) B w v0 = F_bd (cW M 11) B w v0 := by
        unfold F_bdX
        rw [ec, if_pos ⟨c1b, by omega, hk⟩, Int.toNat_natCast]
      rw [hA, hF] at hq
      have hw : q_wl (Vt l) (q_bdM M B w v0) 11 (q_ta l) := by
        unfold q_bdM
        split
        · exact q_wl_mvM w0 (by omega) (by omega)
        · split
          · exact q_wl_up2 w0 (Or.inr (Or.inl ⟨rfl, by omega, by omega⟩))
          · split
            · exact q_wl_up2 w0 (Or.inr (Or.inr (Or.inl ⟨rfl, by omega, by omega, by omega⟩)))
            · exact q_wl_up w0 (Or.inr (Or.inr (Or.inl ⟨rfl, by omega, by omega, by omega⟩)))
      exact sp_build (d := d + 48) (by omega) n5.1 n5.2 (by omega) (by omega) (fun z => by omega) (hq l _ (q_XI_w C (fun a i ha => q_bdM_f (by omega) (by omega) (by omega) (by omega) (by omega)) hw rfl (by rw [q_bdM_f (by omega) (by omega) (by omega) (by omega) (by omega)]; exact c.2.2.2.2.2.1) (fun a h1 h2 => q_bdM_f (by omega) (by omega) (by omega) (by omega) (by omega))) (fun a i ha => q_bdM_f (by omega) (by omega) (by omega) (by omega) (by omega)) (cW_bdM (by omega) (by omega)) (fun a i h1 h2 => q_bdM_f (by omega) (by omega) (by omega) (by omega) (by omega)))
  · refine sp_buildF (d := d + 49) c1 (fail _ ?_ ?_)
    · unfold B_bdC
      rw [if_pos (by omega)]
    · unfold F_bdX
      rw [if_neg (by omega)]
set_option maxHeartbeats 4000000 in
theorem cx_stone {Vt : Nat → Nat → (Nat → Int) → Int} {d tm l sl : Nat} {g : q_G} {M : q_M} {km wh hv : Int} {Q : Option q_V → q_G → q_M → Prop} (C : q_XI Vt tm l sl M) (hq : ∀ (l2 : Nat) (M2 : q_M), q_XI Vt tm l2 sl M2 → q_cfr M M2 → cW M2 11 = F_stX (cW M 11) km wh hv → (∀ a i, 65 ≤ a → a < 100 → M2 a i = M a i) → Q (some (qI (B_stn (cW M 11) km wh hv))) g M2) : q_S 1 (d + 50) 70 [qR 5 0, qI km, qI wh, qI hv] g M Q := by
  have T := C.1
  have c := C.2.2.1
  have w := c.2.1
  have n5 := q_ci_n c
  have tas := c.1
  have e9 : cW M 11 9 0 = M 12 5 := rfl
  by_cases h : 0 ≤ km ∧ km < 60 ∧ 0 ≤ wh ∧ wh < 100 ∧ 0 ≤ hv ∧ hv < 100
  · have eb : F_stB km wh hv = true := decide_eq_true h
    refine sp_stone (d := d + 49) h n5.1 n5.2 ?_
    by_cases h5 : M 12 5 = 5
    · have hA : B_stn (cW M 11) km wh hv = -4 := by unfold B_stn; rw [eb, e9, if_neg (show ¬true = false by decide), if_pos h5]
      have hF : F_stX (cW M 11) km wh hv = cW M 11 := by unfold F_stX; rw [e9]; exact if_neg (fun z => z.2 h5)
      rw [hA, hF] at hq
      rw [if_pos h5]
      exact hq l M C q_cfr_rf rfl (fun _ _ _ _ => rfl)
    · have hA : B_stn (cW M 11) km wh hv = M 12 5 := by unfold B_stn; rw [eb, e9, if_neg (show ¬true = false by decide), if_neg h5]
      have hF : F_stX (cW M 11) km wh hv = F_add (cW M 11) km wh hv := by unfold F_stX; rw [e9]; exact if_pos ⟨eb, h5⟩
      rw [hA, hF] at hq
      rw [if_neg h5]
      have hx := q_XI_ad C h h5
      exact hq l _ hx.1 hx.2 (cW_adM (w := 11) n5.1 (show M 12 5 < 5 by omega)) (fun a i h1 h2 => q_adM_f (by omega))
  · have eb : F_stB km wh hv = false := decide_eq_false h
    have hA : B_stn (cW M 11) km wh hv = -2 := by unfold B_stn; rw [eb, if_pos rfl]
    have hF : F_stX (cW M 11) km wh hv = cW M 11 := by unfold F_stX; rw [eb]; exact if_neg (fun z => absurd z.1 (by decide))
    rw [hA, hF] at hq
    exact sp_stoneF (by omega) (hq l M C q_cfr_rf rfl (fun _ _ _ _ => rfl))
set_option maxHeartbeats 4000000 in
theorem cx_put {Vt : Nat → Nat → (Nat → Int) → Int} {d tm l sl : Nat} {g : q_G} {M : q_M} {p wt v0 : Int} {Q : Option q_V → q_G → q_M → Prop} (C : q_XI Vt tm l sl M) (hq : ∀ (l2 : Nat) (M2 : q_M), q_XI Vt tm l2 sl M2 → q_cfr M M2 → cW M2 11 = F_ptX (cW M 11) p wt v0 → (∀ a i, 65 ≤ a → a < 100 → M2 a i = M a i) → Q (some (qI (B_put (cW M 11) p wt v0))) g M2) : q_S 1 (d + 50) 71 [qR 5 0, qI p, qI wt, qI v0] g M Q := by
  have T := C.1
  have c := C.2.2.1
  have w := c.2.1
  have n5 := q_ci_n c
  have tas := c.1
  have e9 : cW M 11 9 0 = M 12 5 := rfl
  by_cases c1 : 0 ≤ p ∧ p < M 12 5
  · have c1b : 0 ≤ p ∧ p ≤ M 12 5 - 1 := by omega
    by_cases c2 : wt < 0 ∨ 1 < wt ∨ v0 < 0 ∨ 99 < v0
    · have c2b : ¬((0 ≤ wt ∧ wt ≤ 1) ∧ (0 ≤ v0 ∧ v0 ≤ 99)) := by omega
      have hA : B_put (cW M 11) p wt v0 = -7 := by unfold B_put; rw [e9, if_neg (show ¬¬(0 ≤ p ∧ p ≤ M 12 5 - 1) from fun z => z c1b), if_pos c2b]
      have hF : F_ptX (cW M 11) p wt v0 = cW M 11 := by unfold F_ptX; rw [e9]; exact if_neg (fun z => c2b z.2)
      rw [hA, hF] at hq
      exact sp_putG (d := d + 49) c1 c2 (hq l M C q_cfr_rf rfl (fun _ _ _ _ => rfl))
    · have c2b : (0 ≤ wt ∧ wt ≤ 1) ∧ (0 ≤ v0 ∧ v0 ≤ 99) := by omega
      obtain ⟨P, rfl⟩ : ∃ n : Nat, p = n := ⟨p.toNat, by omega⟩
      have hp : P < (M 12 5).toNat := by omega
      have e2 : cW M 11 2 P = M (11 + 24) P := if_pos hp
      have e3 : cW M 11 3 P = M (11 + 25) P := if_pos hp
      have hF : F_ptX (cW M 11) P wt v0 = F_pt (cW M 11) P wt v0 := by unfold F_ptX; rw [e9, if_pos ⟨c1b, c2b⟩, Int.toNat_natCast]
      rcases (show wt = 0 ∨ wt = 1 by omega) with e | e
      · subst e
        have hA : B_put (cW M 11) P 0 v0 = M (11 + 24) P := by unfold B_put; rw [e9, if_neg (show ¬¬(0 ≤ (P : Int) ∧ (P : Int) ≤ M 12 5 - 1) from fun z => z c1b), if_neg (fun z => z c2b), if_pos rfl, Int.toNat_natCast, e2]
        rw [hA, hF] at hq
        exact sp_put0 (d := d + 49) hp n5.2 (by omega) (hq l _ (q_XI_w C (fun a i ha => by rw [q_upd_n (by omega), q_upd_n (by omega)]) (q_wl_up (q_wl_up w (Or.inl ⟨rfl, by omega, by omega⟩)) (Or.inr (Or.inl ⟨rfl, by omega, by omega⟩))) rfl (by rw [q_upd_n (by omega), q_upd_n (by omega)]; exact c.2.2.2.2.2.1) (fun a h1 h2 => by rw [q_upd_n (by omega), q_upd_n (by omega)])) (fun a i ha => by rw [q_upd_n (by omega), q_upd_n (by omega)]) (by unfold F_pt; rw [if_pos rfl]; exact cW_lay (w := 11) hp) (fun a i h1 h2 => by rw [q_upd_n (by omega), q_upd_n (by omega)]))
      · subst e
        have hA : B_put (cW M 11) P 1 v0 = M (11 + 25) P := by unfold B_put; rw [e9, if_neg (show ¬¬(0 ≤ (P : Int) ∧ (P : Int) ≤ M 12 5 - 1) from fun z => z c1b), if_neg (fun z => z c2b), if_neg (show ¬(1 : Int) = 0 by decide), Int.toNat_natCast, e3]
        rw [hA, hF] at hq
        exact sp_put1 (d := d + 49) hp n5.2 (by omega) (hq l _ (q_XI_w C (fun a i ha => by rw [q_upd_n (by omega)]) (q_wl_up2 w (Or.inl ⟨rfl, by omega, by omega⟩)) rfl (by rw [q_upd_n (by omega)]; exact c.2.2.2.2.2.1) (fun a h1 h2 => by rw [q_upd_n (by omega)])) (fun a i ha => by rw [q_upd_n (by omega)]) (by unfold F_pt; rw [if_neg (by decide)]; exact cW_up3 (w := 11) hp) (fun a i h1 h2 => by rw [q_upd_n (by omega)]))
  · have hA : B_put (cW M 11) p wt v0 = -5 := by unfold B_put; rw [e9]; exact if_pos (by omega)
    have hF : F_ptX (cW M 11) p wt v0 = cW M 11 := by unfold F_ptX; rw [e9]; exact if_neg (by omega)
    rw [hA, hF] at hq
    exact sp_putF (d := d + 49) c1 (hq l M C q_cfr_rf rfl (fun _ _ _ _ => rfl))
set_option maxHeartbeats 4000000 in
theorem cx_year {Vt : Nat → Nat → (Nat → Int) → Int} {d tm l sl : Nat} {g : q_G} {M : q_M} {Q : Option q_V → q_G → q_M → Prop} (C : q_XI Vt tm l sl M) (hq0 : ¬M 11 9 < 999 → Q (some (qI (-3))) g M) (hq1 : M 11 9 < 999 → ∀ M2 : q_M, q_XI Vt tm l sl M2 → cW M2 11 = (F_year (Vt l) (cW M 11)).2 → (∀ a i, (a ≠ 11 ∨ i ≠ 9) → a ≠ 37 → a ≠ q_ta l + 2 → (i < 5 → a ≠ 14 ∧ a ≠ 32 ∧ a ≠ 35 ∧ (a < 16 ∨ (21 ≤ a ∧ a < 23) ∨ 28 ≤ a)) → M2 a i = M a i) → Q (some (qI (F_year (Vt l) (cW M 11)).1)) g M2) : q_S 1 (d + 50) 74 [qR 5 0] g M Q := by
  have T := C.1
  have c := C.2.2.1
  have w := c.2.1
  have n5 := q_ci_n c
  have tas := c.1
  have y9 := c.2.2.2.2.2.1
  by_cases h : M 11 9 < 999
  · refine sp_year (d := d + 45) w c.2.2.2.1.1 h (fun M2 h1 h2 h3 => ?_)
    have hta := q_ta_b (t := l) (by have := T.2.1; have := C.2.1; omega)
    have hy := F_year_y h2
    have hs : ∀ a i, (a ≠ 11 ∨ i ≠ 9) → a ≠ 37 → a ≠ q_ta l + 2 → (i < 5 → a ≠ 14 ∧ a ≠ 32 ∧ a ≠ 35 ∧ (a < 16 ∨ (21 ≤ a ∧ a < 23) ∨ 28 ≤ a)) → M2 a i = M a i := h3
    exact hq1 h M2 (q_XI_w C (fun a i ha => hs a i (by omega) (by omega) (by omega) (fun _ => by omega)) h1 rfl (by omega) (fun a q1 q2 => hs a 5 (by omega) (by omega) (by omega) (fun z => by omega))) h2 hs
  · rw [s_X5_year]
    simp (disch := omega) only [b_X5_year_0, x_loadR_0, x_loadS_0, f_5_3, f_4_9, x_iconst, y_ic_lt_t, y_ic_lt_f, b_X5_year_13, x_ret0, b_X5_year_16, q_isL_I, q_isL_R, q_isL_S, true_and, and_true, and_self, List.length_nil, List.length_cons, Nat.zero_add, x_K, x_Kn, Int.reduceToNat, Nat.reduceAdd, Nat.reduceMul, Nat.reduceLeDiff, Nat.reduceLT, Nat.zero_le, Int.reduceAdd, Int.reduceSub, Int.reduceMul, Int.reduceNeg, q_add_e, q_sub_e, q_mul_e, q_neg_e, q_upd_s, q_upd_n, zr_shr0, zr_shr1, zr_shr2, zr_shr3, zr_shr4, zr_and, zr_dyn8, zr_or, zr_shl, q_cpy_n, y_cpy26]
    exact hq0 h
set_option maxHeartbeats 4000000 in
theorem cx_film {Vt : Nat → Nat → (Nat → Int) → Int} {d tm l sl : Nat} {g : q_G} {M : q_M} {s p n : Int} {Q : Option q_V → q_G → q_M → Prop} (C : q_XI Vt tm l sl M) (hq : ∀ M2 : q_M, q_XI Vt tm l sl M2 → q_cfr M M2 → q_tq (q_filmM (Vt l) M s p n) M2 → Q (some (qI (A_film M s p n))) g M2) : q_S 1 (d + 50) 88 [qR 5 0, qI s, qI p, qI n] g M Q := by
  have c := C.2.2.1
  refine sp_film (d := d + 44) c (fun M2 h => ?_)
  have hx : q_XI Vt tm l sl (q_filmM (Vt l) M s p n) ∧ q_cfr M (q_filmM (Vt l) M s p n) := by
    unfold q_filmM
    split
    · exact q_XI_one (S := s.toNat) C (by omega) (fun a i h1 h2 => q_shM_n h1 h2) (by rw [q_shM_2]; omega)
    · exact ⟨C, q_cfr_rf⟩
  exact hq M2 (q_XI_tq hx.1 h) (fun a i ha => (q_cfr_tq h a i ha).trans (hx.2 a i ha)) h
set_option maxHeartbeats 4000000 in
theorem cx_cell {Vt : Nat → Nat → (Nat → Int) → Int} {d tm l sl : Nat} {g : q_G} {M : q_M} {s i v0 : Int} {Q : Option q_V → q_G → q_M → Prop} (C : q_XI Vt tm l sl M) (hq : q_XI Vt tm l sl (q_cellM M s i v0) → q_cfr M (q_cellM M s i v0) → Q (some (qI (A_cell M s i))) g (q_cellM M s i v0)) : q_S 1 (d + 50) 94 [qR 5 0, qI s, qI i, qI v0] g M Q := by
  have T := C.1
  have c := C.2.2.1
  have w := c.2.1
  have n5 := q_ci_n c
  have tas := c.1
  have hx : q_XI Vt tm l sl (q_cellM M s i v0) ∧ q_cfr M (q_cellM M s i v0) := by
    unfold q_cellM
    split
    · next h =>
      unfold A_cell at h
      have hS : s.toNat < 4 := by omega
      exact q_XI_one (S := s.toNat) C hS (fun a i h1 h2 => q_upd_n (by omega)) (by rw [q_upd_n (by omega)]; exact c.2.2.2.2.2.2 _ hS)
    · exact ⟨C, q_cfr_rf⟩
  exact sp_cell (d := d + 49) c.2.2.2.2.2.2 (hq hx.1 hx.2)
set_option maxHeartbeats 4000000 in
theorem cx_copy {Vt : Nat → Nat → (Nat → Int) → Int} {d tm l sl : Nat} {g : q_G} {M : q_M} {s i o j n : Int} {Q : Option q_V → q_G → q_M → Prop} (C : q_XI Vt tm l sl M) (hq : q_XI Vt tm l sl (q_copyM M s i o j n) → q_cfr M (q_copyM M s i o j n) → Q (some (qI (A_copy M s i o j n))) g (q_copyM M s i o j n)) (hn : n ≤ 2147483647) : q_S 1 (d + 50) 95 [qR 5 0, qI s, qI i, qI o, qI j, qI n] g M Q := by
  have T := C.1
  have c := C.2.2.1
  have w := c.2.1
  have n5 := q_ci_n c
  have tas := c.1
  have hx : q_XI Vt tm l sl (q_copyM M s i o j n) ∧ q_cfr M (q_copyM M s i o j n) := by
    unfold q_copyM
    split
    · next h =>
      unfold A_copy at h
      have hS : o.toNat < 4 := by
        split at h
        · omega
        · omega
      refine q_XI_one (S := o.toNat) C hS (fun a i h1 h2 => ?_) ?_
      · unfold q_cpy
        rw [if_neg (fun z => h2 z.1)]
      · unfold q_cpy
        rw [if_neg (fun z => by omega)]
        exact c.2.2.2.2.2.2 _ hS
    · exact ⟨C, q_cfr_rf⟩
  exact sp_copy (d := d + 49) c.2.2.2.2.2.2 hn (hq hx.1 hx.2)
set_option maxHeartbeats 4000000 in
theorem cx_stonesBy {Vt : Nat → Nat → (Nat → Int) → Int} {d tm l sl : Nat} {g : q_G} {M : q_M} {s so fr n : Int} {Q : Option q_V → q_G → q_M → Prop} (C : q_XI Vt tm l sl M) (hq : q_XI Vt tm l sl ((q_stonesBy M s so fr n).2) → q_cfr M ((q_stonesBy M s so fr n).2) → Q (some (qI ((q_stonesBy M s so fr n).1))) g ((q_stonesBy M s so fr n).2)) : q_S 1 (d + 50) 96 [qR 5 0, qI s, qI so, qI fr, qI n] g M Q := by
  have T := C.1
  have c := C.2.2.1
  have w := c.2.1
  have n5 := q_ci_n c
  have tas := c.1
  have hx : q_XI Vt tm l sl (q_stonesBy M s so fr n).2 ∧ q_cfr M (q_stonesBy M s so fr n).2 := by
    unfold q_stonesBy
    split
    · exact ⟨C, q_cfr_rf⟩
    · split
      · exact ⟨C, q_cfr_rf⟩
      · split
        · exact ⟨C, q_cfr_rf⟩
        · split
          · exact ⟨C, q_cfr_rf⟩
          · exact q_XI_sb _ _ _ _ C
  exact sp_stonesBy (d := d + 48) c.2.2.2.2.2.2 n5.1 n5.2 (hq hx.1 hx.2)
theorem cx_sheet {Vt : Nat → Nat → (Nat → Int) → Int} {d tm l sl : Nat} {g : q_G} {M : q_M} {s so n : Int} {Q : Option q_V → q_G → q_M → Prop} (C : q_XI Vt tm l sl M) (hq : q_XI Vt tm l sl (q_sheetM M s so n) → q_cfr M (q_sheetM M s so n) → Q (some (qI (A_sheet s so n))) g (q_sheetM M s so n)) : q_S 1 (d + 50) 93 [qR 5 0, qI s, qI so, qI n] g M Q := by
  have hx : q_XI Vt tm l sl (q_sheetM M s so n) ∧ q_cfr M (q_sheetM M s so n) := by
    unfold q_sheetM
    split
    · next h =>
      unfold A_sheet at h
      exact q_XI_one (S := s.toNat) C (by omega) (fun a i h1 h2 => q_shM_n h1 h2) (by rw [q_shM_2]; omega)
    · exact ⟨C, q_cfr_rf⟩
  exact sp_sheet (d := d + 49) (hq hx.1 hx.2)
set_option maxHeartbeats 4000000 in
theorem cx_image {Vt : Nat → Nat → (Nat → Int) → Int} {d tm l sl : Nat} {g : q_G} {M : q_M} {Q : Option q_V → q_G → q_M → Prop} (C : q_XI Vt tm l sl M) (hq : ∀ M2 : q_M, q_XI Vt tm l sl M2 → cW M2 65 = cW M 11 → M2 0 6 = 1 → M2 65 10 = M 11 10 → (∀ a i, ((a < 65 ∧ (a = 0 → i ≠ 6)) ∨ 90 < a) → M2 a i = M a i) → Q (some (qI (M 12 5))) g M2) : q_S 1 (d + 50) 91 [qR 5 0] g M Q := by
  have T := C.1
  have c := C.2.2.1
  have w := c.2.1
  have n5 := q_ci_n c
  have tas := c.1
  have hta := q_ta_b (t := l) (by have := T.2.1; have := C.2.1; omega)
  refine sp_image (d := d + 48) w (fun M2 h => ?_)
  have hw := q_cpd_wl w (q_rg5_of C.2.2.2.1.1) (by omega) h
  have hf : ∀ a i, (a < 65 ∨ 90 < a) → M2 a i = M a i := fun a i ha => h.2.2.2.2 a i (by omega)
  have ec : cW (q_upd M2 0 6 1) 65 = cW M 11 := (cW_same (M := M2) (fun a i ha => q_upd_n (by omega))).trans (q_cpd_cW n5.2 h)
  exact hq _ (q_XI_kp C (fun a i ha => by rw [q_upd_n (by omega)]; exact hf a i (by omega)) (q_rgW_c (fun a i h1 h2 => q_upd_n (by omega)) hw.1) (by rw [q_upd_n (by omega), h.2.2.1]; exact c.2.2.2.2.2.1) ⟨l, C.2.1, by rw [q_upd_n (by omega)]; exact hw.2.2.2.1⟩) ec q_upd_s (by rw [q_upd_n (by omega), hw.2.2.2.1, w.2.2.2.1]) (fun a i ha => by rw [q_upd_n (by omega)]; exact hf a i (by omega))
set_option maxHeartbeats 4000000 in
theorem cx_back {Vt : Nat → Nat → (Nat → Int) → Int} {d tm l sl : Nat} {g : q_G} {M : q_M} {Q : Option q_V → q_G → q_M → Prop} (C : q_XI Vt tm l sl M) (hq0 : M 0 6 = 0 → Q (some (qI (-3))) g M) (hq1 : M 0 6 ≠ 0 → ∀ (kl : Nat) (M2 : q_M), q_XI Vt tm kl sl M2 → M 65 10 = q_ta kl → cW M2 11 = cW M 65 → (∀ a i, (a < 11 ∨ (14 < a ∧ a < 30) ∨ 36 < a) → M2 a i = M a i) → Q (some (qI (M 66 5))) g M2) : q_S 1 (d + 50) 92 [qR 5 0] g M Q := by
  have T := C.1
  have c := C.2.2.1
  have w := c.2.1
  have n5 := q_ci_n c
  have tas := c.1
  by_cases h : M 0 6 = 0
  · exact sp_backF h (hq0 h)
  · obtain ⟨kl, hkl, hla⟩ := C.2.2.2.2.1 h
    have hta := q_ta_b (t := kl) (by have := T.2.1; omega)
    have hx := T.2.2.2 kl hkl
    refine sp_back (V := Vt kl) (d := d + 48) h hla (by omega) (fun M2 h2 => ?_)
    have hw := q_cpd_wl (V := Vt kl) (ta := q_ta kl) ⟨C.2.2.2.1.1, hx.2.2.1, hx.2.2.2, hla, by omega, by omega⟩ (q_rg5_of w.1) (by omega) h2
    have hf : ∀ a i, (a < 11 ∨ (14 < a ∧ a < 30) ∨ 36 < a) → M2 a i = M a i := fun a i ha => h2.2.2.2.2 a i (by omega)
    exact hq1 h kl M2 (q_XI_now C hkl (fun a i ha => hf a i (by omega)) hw.1 (by rw [h2.2.2.1]; exact C.2.2.2.1.2) hw.2.2.2.1 (q_z5_eq (fun a h3 h4 => hf a 5 (by omega)) c.2.2.2.1)) hla (q_cpd_cW (show M 66 5 ≤ 5 from C.2.2.2.1.1.1.2) h2) hf
