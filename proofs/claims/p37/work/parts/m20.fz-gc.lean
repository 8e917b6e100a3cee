section
/-! BOTH SIDES: questions, just so -/
theorem F_set_e {T T' : Nat → Int} : ∀ n : Nat, (∀ k, k < n → T k = T' k) → F_set T n = G_set T' n ∧ q_or (F_set T n) 0 = F_set T n
  | 0, _ => ⟨rfl, q_or_00⟩
  | k + 1, h => by
    obtain ⟨i1, i2⟩ := F_set_e k (fun j hj => h j (by omega))
    rw [F_set, G_set, ← i1, h k (by omega)]
    by_cases c : T' k = -1
    · rw [if_pos c, if_pos c]
      exact ⟨rfl, q_or_x0⟩
    · rw [if_neg c, if_neg c]
      exact ⟨i2.symm, i2⟩
theorem AB_rf {M : q_M} {s : Int} (R : q_Rsh M) : q_mwA M s = q_rfA M s := by
  unfold q_mwA q_rfA
  by_cases c : 0 ≤ s ∧ s < 4
  · obtain ⟨r1, r2, _⟩ := R s.toNat (by omega)
    rw [r1, r2, if_neg (show ¬¬(0 ≤ s ∧ s ≤ 3) by omega), if_neg (show ¬¬(0 ≤ s ∧ s < 4) by omega)]
  · rw [if_pos c, if_pos (show ¬(0 ≤ s ∧ s ≤ 3) by omega)]
theorem q_foA_e {V : Nat → (Nat → Int) → Int} {M S : q_M} {s p : Nat} (R : q_Rsh M) (hz : ∀ t, t < 4 → M 111 t ≤ 40) (hs : s < 4) (hS : q_ivS S) : q_foA V M S s p = G_foA V M S s p := by
  obtain ⟨r1, r2, r3⟩ := R s hs
  have := hz s hs
  unfold q_foA G_foA
  rw [r2]
  exact F_fo_e hS _ _ (fun k hk => r3 k (by omega))
theorem q_rfA_s {M : q_M} {s : Int} (h : ¬q_rfA M s ≠ 0) : 0 ≤ s ∧ s < 4 := by
  unfold q_rfA at h
  by_cases c : 0 ≤ s ∧ s < 4
  · exact c
  · rw [if_pos c] at h
    omega
/-- what a question on a sheet reads of the model -/
def q_frQ (M M1 : q_M) : Prop := ∀ a i, 100 ≤ a → a < 116 → M1 a i = M a i
theorem q_frQ_tq {M M1 : q_M} (h : q_tq M M1) : q_frQ M M1 := fun a i h1 h2 => h a i (by omega) (by omega) (by omega) (by omega)
theorem q_frQ_W {M M1 : q_M} (h : q_frQ M M1) : mW M1 = mW M := mW_same (fun a i ha => h a i (by omega) (by omega))
theorem q_twA_fr {M M1 : q_M} {s p : Int} (h : q_frQ M M1) : q_mwA M1 s = q_mwA M s ∧ q_twA M1 s p = q_twA M s p := by
  have e : q_mwA M1 s = q_mwA M s := by
    unfold q_mwA
    rw [h 110 _ (by omega) (by omega), h 111 _ (by omega) (by omega)]
  refine ⟨e, ?_⟩
  unfold q_twA
  rw [e, h 100 0 (by omega) (by omega)]
theorem G_foA_fr {V : Nat → (Nat → Int) → Int} {M M1 S : q_M} {s p : Nat} (h : q_frQ M M1) : G_foA V M1 S s p = G_foA V M S s p := G_foA_mq (fun i => h 112 i (by omega) (by omega)) (h 111 s (by omega) (by omega))
section SHEETS
variable {V : Nat → (Nat → Int) → Int} {M M1 : q_M} {s p so : Int}
theorem AB_tw (W : q_Rw M) : (q_rfA M s ≠ 0 ∧ q_twA M s p = q_rfA M s) ∨ (¬q_rfA M s ≠ 0 ∧ ¬(0 ≤ p ∧ p < M 12 5) ∧ q_twA M s p = -5) ∨ (¬q_rfA M s ≠ 0 ∧ (0 ≤ p ∧ p < M 12 5) ∧ q_twA M s p = 0) := by
  unfold q_twA
  rw [AB_rf W.2.2.1, q_Rw_90 W]
  by_cases c : q_rfA M s ≠ 0
  · exact Or.inl ⟨c, if_pos c⟩
  · by_cases c2 : 0 ≤ p ∧ p < M 100 0
    · exact Or.inr (Or.inr ⟨c, c2, by rw [if_neg c, if_pos (by omega)]⟩)
    · exact Or.inr (Or.inl ⟨c, c2, by rw [if_neg c, if_neg (by omega)]⟩)
theorem AB_judge (W : q_Rw M) (hz : ∀ t, t < 4 → M 111 t ≤ 40) (f : q_frQ M M1) : A_judge V M s p = B_judge V M1 s p := by
  unfold A_judge B_judge
  rw [(q_twA_fr f).2, G_foA_fr f, q_frQ_W f]
  rcases AB_tw (s := s) (p := p) W with ⟨c, t⟩ | ⟨c, c2, t⟩ | ⟨c, c2, t⟩
  · rw [t, if_pos c, if_neg c]
  · rw [t, if_neg c, if_pos c2, if_neg (show ¬(-5 : Int) = 0 by omega)]
  · rw [t, if_neg c, if_neg (show ¬¬(0 ≤ p ∧ p < M 12 5) from fun z => z c2), if_pos rfl]
    rw [W.1]
    exact q_foA_e W.2.2.1 hz (by have := q_rfA_s c; omega) W.2.1
theorem AB_kinds (W : q_Rw M) (hz : ∀ t, t < 4 → M 111 t ≤ 40) (f : q_frQ M M1) : A_kinds V M s p so = B_kinds V M1 s p so := by
  unfold A_kinds B_kinds
  rw [(q_twA_fr f).2, q_frQ_W f, W.1]
  rcases AB_tw (s := s) (p := p) W with ⟨c, t⟩ | ⟨c, c2, t⟩ | ⟨c, c2, t⟩
  · rw [t, if_pos c, if_pos c]
  · rw [t, if_neg c, if_pos c2, if_pos (show (-5 : Int) ≠ 0 by omega)]
  · rw [t, if_neg c, if_neg (show ¬¬(0 ≤ p ∧ p < M 12 5) from fun z => z c2), if_neg (show ¬(0 : Int) ≠ 0 by omega)]
    by_cases c3 : 0 ≤ so ∧ so ≤ 1
    · rw [if_neg (show ¬¬(0 ≤ so ∧ so ≤ 1) from fun z => z c3), if_neg (show ¬¬(0 ≤ so ∧ so ≤ 1) from fun z => z c3)]
      refine (F_set_e _ (fun k hk => ?_)).1
      rw [G_foA_fr f]
      exact q_foA_e W.2.2.1 hz (by have := q_rfA_s c; omega) (q_ivS_same W.2.1 (q_upd_o (by omega)) (q_upd_n (by omega)) (fun b hb => by rw [q_upd_n (by omega)]; exact W.2.1.2.2.1 b hb) (q_upd_o (by omega)) (q_upd_o (by omega)))
    · rw [if_pos c3, if_pos c3]
theorem AB_whose (W : q_Rw M) (hz : ∀ t, t < 4 → M 111 t ≤ 40) (f : q_frQ M M1) : A_whose V M s = B_whose V M1 s := by
  unfold A_whose B_whose
  rw [(q_twA_fr (p := 0) f).1, q_frQ_W f, AB_rf W.2.2.1, W.1, q_Rw_90 W, f 100 0 (by omega) (by omega)]
  by_cases c : q_rfA M s ≠ 0
  · rw [if_pos c, if_pos c]
  · rw [if_neg c, if_neg c]
    refine (F_set_e _ (fun k hk => ?_)).1
    rw [G_foA_fr f]
    exact q_foA_e W.2.2.1 hz (by have := q_rfA_s c; omega) W.2.1
theorem AB_laws {Vt : Nat → Nat → (Nat → Int) → Int} {tm : Nat} (W : q_Rw M) (hz : ∀ t, t < 4 → M 111 t ≤ 40) (f : q_frQ M M1) : A_laws Vt tm M s p = B_laws Vt tm M1 s p := by
  unfold A_laws B_laws
  rw [(q_twA_fr f).2, q_frQ_W f, W.1]
  rcases AB_tw (s := s) (p := p) W with ⟨c, t⟩ | ⟨c, c2, t⟩ | ⟨c, c2, t⟩
  · rw [t, if_pos c, if_pos c]
  · rw [t, if_neg c, if_pos c2, if_pos (show (-5 : Int) ≠ 0 by omega)]
  · rw [t, if_neg c, if_neg (show ¬¬(0 ≤ p ∧ p < M 12 5) from fun z => z c2), if_neg (show ¬(0 : Int) ≠ 0 by omega)]
    refine (F_set_e _ (fun k hk => ?_)).1
    rw [G_foA_fr f]
    exact q_foA_e W.2.2.1 hz (by have := q_rfA_s c; omega) W.2.1
end SHEETS
theorem AB_drawn {V : Nat → (Nat → Int) → Int} {S : q_M} {seed wt : Int} (h : q_ivS S) : A_drawn V S seed wt = B_drawn V S seed wt := by
  unfold A_drawn B_drawn
  by_cases c : (0 ≤ seed ∧ seed ≤ 99999) ∧ (0 ≤ wt ∧ wt ≤ 1)
  · rw [if_neg (show ¬(seed < 0 ∨ 100000 ≤ seed ∨ wt < 0 ∨ 1 < wt) by omega), if_neg (show ¬¬((0 ≤ seed ∧ seed ≤ 99999) ∧ (0 ≤ wt ∧ wt ≤ 1)) from fun z => z c), (F_wth_e h c.1.1 8).1]
  · rw [if_pos (by omega), if_pos c]
/-! the lowest terms -/
theorem F_com_gcd {a b : Int} (ha : 0 ≤ a) (hb : 0 < b) : ∀ k : Nat, (k : Int) < b → (∀ j : Nat, (k : Int) + 1 < j → (j : Int) ≤ b → ¬(a % j = 0 ∧ b % j = 0)) → F_com a b k = (Nat.gcd a.toNat b.toNat : Nat) := by
  obtain ⟨A, rfl⟩ : ∃ n : Nat, a = n := ⟨a.toNat, by omega⟩
  obtain ⟨B, rfl⟩ : ∃ n : Nat, b = n := ⟨b.toNat, by omega⟩
  rw [Int.toNat_natCast, Int.toNat_natCast]
  have gB : Nat.gcd A B ∣ B := Nat.gcd_dvd_right A B
  have gA : Nat.gcd A B ∣ A := Nat.gcd_dvd_left A B
  have gle : Nat.gcd A B ≤ B := Nat.le_of_dvd (by omega) gB
  have gpos : 0 < Nat.gcd A B := Nat.gcd_pos_of_pos_right A (by omega)
  have dv : ∀ j : Nat, ((A : Int) % j = 0 ∧ (B : Int) % j = 0) ↔ (j ∣ A ∧ j ∣ B) := fun j => by
    rw [← Int.natCast_emod, ← Int.natCast_emod]
    constructor
    · intro h
      exact ⟨Nat.dvd_of_mod_eq_zero (by omega), Nat.dvd_of_mod_eq_zero (by omega)⟩
    · intro h
      rw [Nat.mod_eq_zero_of_dvd h.1, Nat.mod_eq_zero_of_dvd h.2]
      exact ⟨rfl, rfl⟩
  intro k
  induction k with
  | zero =>
    intro hk h
    rw [F_com]
    by_cases c : 1 < Nat.gcd A B
    · exact absurd ((dv _).mpr ⟨gA, gB⟩) (h (Nat.gcd A B) (by omega) (by omega))
    · omega
  | succ k ih =>
    intro hk h
    rw [F_com]
    have e2 : ((k + 2 : Nat) : Int) = (k : Int) + 2 := by omega
    by_cases c : (A : Int) % ((k : Int) + 2) = 0 ∧ (B : Int) % ((k : Int) + 2) = 0
    · rw [if_pos c]
      rw [← e2] at c
      have d := Nat.dvd_gcd ((dv (k + 2)).mp c).1 ((dv (k + 2)).mp c).2
      have l1 := Nat.le_of_dvd gpos d
      by_cases e : Nat.gcd A B = k + 2
      · omega
      · exact absurd ((dv _).mpr ⟨gA, gB⟩) (h (Nat.gcd A B) (by omega) (by omega))
    · rw [if_neg c]
      refine ih (by omega) (fun j hj1 hj2 => ?_)
      by_cases e : j = k + 2
      · subst e
        rw [e2]
        exact c
      · exact h j (by omega) hj2
theorem F_low_e {a b part : Int} (ha : 0 ≤ a) (hb : 0 < b) (hp : 0 ≤ part ∧ part ≤ 1) : F_low a b part = B_low a b part := by
  unfold F_low B_low
  rw [if_neg (by omega), F_com_gcd ha hb (b - 1).toNat (by omega) (fun j h1 h2 => by omega)]
  by_cases c : a = 0
  · rw [if_pos c, c]
    rw [show (0 : Int).toNat = 0 from rfl, Nat.gcd_zero_left]
    by_cases c2 : part = 0
    · rw [if_pos c2, c2]
      exact Int.zero_ediv _
    · rw [if_neg c2, show ((b.toNat : Nat) : Int) = b by omega, Int.ediv_self (by omega)]
      omega
  · rw [if_neg c]
theorem F_odd_0 {V : Nat → (Nat → Int) → Int} {S : q_M} {seed most : Int} : ∀ k : Nat, 0 ≤ F_odd V S seed most k
  | 0 => by rw [F_odd]; omega
  | k + 1 => by
    have := F_odd_0 (V := V) (S := S) (seed := seed) (most := most) k
    rw [F_odd]
    (try split) <;> omega
theorem AB_odds {V : Nat → (Nat → Int) → Int} {S : q_M} {seed seeds most part : Int} (h : q_ivS S) : A_odds V S seed seeds most part = B_odds V S seed seeds most part := by
  unfold A_odds B_odds
  by_cases c : (0 ≤ seed ∧ seed ≤ 99999) ∧ (1 ≤ seeds ∧ seeds ≤ 40) ∧ (0 ≤ most ∧ most ≤ 5) ∧ (0 ≤ part ∧ part ≤ 1)
  · rw [if_neg (show ¬((seed < 0 ∨ 100000 ≤ seed ∨ seeds < 1 ∨ 40 < seeds) ∨ (most < 0 ∨ 5 < most ∨ part < 0 ∨ 1 < part)) by omega), if_neg (show ¬¬((0 ≤ seed ∧ seed ≤ 99999) ∧ (1 ≤ seeds ∧ seeds ≤ 40) ∧ (0 ≤ most ∧ most ≤ 5) ∧ (0 ≤ part ∧ part ≤ 1)) from fun z => z c), ← F_odd_e h c.1.1 seeds.toNat]
    exact F_low_e (F_odd_0 _) (by omega) c.2.2.2
  · rw [if_pos (by omega), if_pos c]
theorem AB_share {M : q_M} {part : Int} (W : q_Rw M) (hb : q_mb M) : A_share M part = B_share M part := by
  have n0 := hb.1
  have e5 := q_Rw_90 W
  have h3 : ∀ k, k < (M 100 0).toNat → M 36 k = M 104 (3 * k + 1) := fun k hk => by
    have := congrFun (congrFun W.1 3) k
    have l : cW M 11 3 k = M 36 k := if_pos (show k < (M 12 5).toNat by omega)
    have r : mW M 3 k = M 104 (3 * k + 1) := if_pos hk
    rw [← l, this, r]
  have h4 : ∀ k, k < (M 100 0).toNat → M 14 k = mIn M k := fun k hk => by
    have := congrFun (congrFun W.1 4) k
    have l : cW M 11 4 k = M 14 k := if_pos (show k < (M 12 5).toNat by omega)
    have r : mW M 4 k = mIn M k := if_pos hk
    rw [← l, this, r]
  have ew : F_wt (M 36) (M 14) (M 12 5).toNat = F_wt (fun i => M 104 (3 * i + 1)) (mIn M) (M 100 0).toNat := by
    rw [e5]
    exact F_wt_cong _ h3 h4
  have le := F_wt_le5 (f := mIn M) (W := fun i => M 104 (3 * i + 1)) (N := 5) (fun i hi => hb.2.2.2.2.2.1 i hi) (M 100 0).toNat (by omega)
  unfold A_share B_share
  rw [ew]
  by_cases c : 0 ≤ part ∧ part ≤ 1
  · rw [if_neg (by omega)]
    by_cases c2 : 0 < (F_wt (fun i => M 104 (3 * i + 1)) (mIn M) (M 100 0).toNat).2
    · rw [if_pos ⟨c, c2⟩]
      exact F_low_e le.1 c2 c
    · rw [if_neg (fun z => c2 z.2)]
      unfold F_low
      rw [if_pos (by omega)]
  · rw [if_pos (by omega), if_neg (fun z => c z.1)]
theorem q_rnA_e {M : q_M} {wt : Int} (h : wt = 0 ∨ wt = 1 ∨ (wt - 10).toNat < F_n (cW M 38)) : q_rnA M wt = B_rnA (cW M 38) wt := by
  have en : F_n (cW M 38) = (M 39 5).toNat := rfl
  have e4 : ∀ k, k < (M 39 5).toNat → M (39 + 2) k = cW M 38 4 k := fun k hk => (if_pos hk).symm
  unfold q_rnA B_rnA
  rw [en]
  by_cases c0 : wt = 0
  · rw [if_pos c0, if_pos c0]
    exact F_dig_cong _ e4
  · rw [if_neg c0, if_neg c0]
    by_cases c1 : wt = 1
    · rw [if_pos c1, if_pos c1]
      exact F_cnt_cong _ e4
    · rw [if_neg c1, if_neg c1]
      exact (if_pos (show (wt - 10).toNat < (M 39 5).toNat by rw [en] at h; omega)).symm
theorem B_run_y {V : Nat → (Nat → Int) → Int} {S : q_M} {n wt : Int} (h : q_ivS S) (h1 : 0 ≤ n ∧ n ≤ 40) (h2 : wt = 0 ∨ wt = 1 ∨ (0 ≤ wt - 10 ∧ wt - 10 < S 9 0)) : B_run V S n wt = B_rnA (F_ys V S n.toNat) wt := by
  unfold B_run
  rw [if_neg (by omega), (F_ys_e h n.toNat).1]
theorem B_run_n {V : Nat → (Nat → Int) → Int} {S : q_M} {n wt : Int} (h : ¬(0 ≤ n ∧ n ≤ 40) ∨ ¬(wt = 0 ∨ wt = 1 ∨ (0 ≤ wt - 10 ∧ wt - 10 < S 9 0))) : B_run V S n wt = -2 := by
  unfold B_run
  rw [if_pos (by omega)]
theorem B_when_y {V : Nat → (Nat → Int) → Int} {S : q_M} {p wt : Int} (h : q_ivS S) (h1 : 0 ≤ p ∧ p < S 9 0) (h2 : wt = -1 ∨ (0 ≤ wt ∧ wt < 5)) : B_when V S p wt = F_till V S p.toNat wt 60 0 := by
  unfold B_when
  rw [if_neg (by omega), if_neg (by omega), F_till_e h]
theorem cy_cart {Vt : Nat → Nat → (Nat → Int) → Int} {d tm l sl : Nat} {g : q_G} {M : q_M} {p wt : Int} {Q : Option q_V → q_G → q_M → Prop} (C : q_XI Vt tm l sl M) (hq : ∀ M2 : q_M, q_tq M M2 → Q (some (qI (A_cart (Vt l) (cW M 11) p wt))) g M2) : q_S 1 (d + 50) 81 [qR 5 0, qI p, qI wt] g M Q :=
  sp_cart (d := d + 44) C.2.2.1 hq
theorem mz_cart {Vt : Nat → Nat → (Nat → Int) → Int} {d tm : Nat} {g : q_G} {M : q_M} {p wt : Int} {Q : Option q_V → q_G → q_M → Prop} (hI : q_MI Vt tm M) (hq : ∀ M2 : q_M, q_mq M M2 → Q (some (qI (B_cart (q_Vr Vt M) (mW M) p wt))) g M2) : q_S 1 (d + 11) 176 [qR 6 100, qI p, qI wt] g M Q :=
  mp_cart (d := d + 2) (q_MI_mi hI) hq
theorem cy_judge {Vt : Nat → Nat → (Nat → Int) → Int} {d tm l sl : Nat} {g : q_G} {M : q_M} {s p : Int} {Q : Option q_V → q_G → q_M → Prop} (C : q_XI Vt tm l sl M) (hq : ∀ M2 : q_M, q_tq M M2 → Q (some (qI (A_judge (Vt l) M s p))) g M2) : q_S 1 (d + 50) 83 [qR 5 0, qI s, qI p] g M Q :=
  sp_judge (d := d + 44) C.2.2.1 hq
theorem mz_judge {Vt : Nat → Nat → (Nat → Int) → Int} {d tm : Nat} {g : q_G} {M : q_M} {s p : Int} {Q : Option q_V → q_G → q_M → Prop} (hI : q_MI Vt tm M) (hq : ∀ M2 : q_M, q_mq M M2 → Q (some (qI (B_judge (q_Vr Vt M) M s p))) g M2) : q_S 1 (d + 11) 182 [qR 6 100, qI s, qI p] g M Q :=
  mp_judge (d := d + 2) (q_MI_mi hI) hq
theorem cy_kinds {Vt : Nat → Nat → (Nat → Int) → Int} {d tm l sl : Nat} {g : q_G} {M : q_M} {s p so : Int} {Q : Option q_V → q_G → q_M → Prop} (C : q_XI Vt tm l sl M) (hq : ∀ M2 : q_M, q_tq M M2 → Q (some (qI (A_kinds (Vt l) M s p so))) g M2) : q_S 1 (d + 50) 84 [qR 5 0, qI s, qI p, qI so] g M Q :=
  sp_kinds (d := d + 44) C.2.2.1 hq
theorem mz_kinds {Vt : Nat → Nat → (Nat → Int) → Int} {d tm : Nat} {g : q_G} {M : q_M} {s p so : Int} {Q : Option q_V → q_G → q_M → Prop} (hI : q_MI Vt tm M) (hq : ∀ M2 : q_M, q_mq M M2 → Q (some (qI (B_kinds (q_Vr Vt M) M s p so))) g M2) : q_S 1 (d + 11) 183 [qR 6 100, qI s, qI p, qI so] g M Q :=
  mp_kinds (d := d + 2) (q_MI_mi hI) hq
theorem cy_whose {Vt : Nat → Nat → (Nat → Int) → Int} {d tm l sl : Nat} {g : q_G} {M : q_M} {s : Int} {Q : Option q_V → q_G → q_M → Prop} (C : q_XI Vt tm l sl M) (hq : ∀ M2 : q_M, q_tq M M2 → Q (some (qI (A_whose (Vt l) M s))) g M2) : q_S 1 (d + 50) 86 [qR 5 0, qI s] g M Q :=
  sp_whose (d := d + 44) C.2.2.1 hq
theorem mz_whose {Vt : Nat → Nat → (Nat → Int) → Int} {d tm : Nat} {g : q_G} {M : q_M} {s : Int} {Q : Option q_V → q_G → q_M → Prop} (hI : q_MI Vt tm M) (hq : ∀ M2 : q_M, q_mq M M2 → Q (some (qI (B_whose (q_Vr Vt M) M s))) g M2) : q_S 1 (d + 11) 185 [qR 6 100, qI s] g M Q :=
  mp_whose (d := d + 2) (q_MI_mi hI) hq
theorem cy_laws {Vt : Nat → Nat → (Nat → Int) → Int} {d tm l sl : Nat} {g : q_G} {M : q_M} {s p : Int} {Q : Option q_V → q_G → q_M → Prop} (C : q_XI Vt tm l sl M) (hq : ∀ M2 : q_M, q_tq M M2 → Q (some (qI (A_laws Vt tm M s p))) g M2) : q_S 1 (d + 50) 87 [qR 5 0, qI s, qI p] g M Q :=
  sp_laws (d := d + 44) C.2.2.1 C.1 hq
theorem mz_laws {Vt : Nat → Nat → (Nat → Int) → Int} {d tm : Nat} {g : q_G} {M : q_M} {s p : Int} {Q : Option q_V → q_G → q_M → Prop} (hI : q_MI Vt tm M) (hq : ∀ M2 : q_M, q_mq M M2 → Q (some (qI (B_laws Vt tm M s p))) g M2) : q_S 1 (d + 11) 186 [qR 6 100, qI s, qI p] g M Q :=
  mp_laws (d := d + 2) (q_MI_mi hI) hI.2.2.2.2.1 hq
theorem cy_drawn {Vt : Nat → Nat → (Nat → Int) → Int} {d tm l sl : Nat} {g : q_G} {M : q_M} {seed wt : Int} {Q : Option q_V → q_G → q_M → Prop} (C : q_XI Vt tm l sl M) (hq : ∀ M2 : q_M, q_tq M M2 → Q (some (qI (A_drawn (Vt l) (cW M 11) seed wt))) g M2) : q_S 1 (d + 50) 89 [qR 5 0, qI seed, qI wt] g M Q :=
  sp_drawn (d := d + 44) C.2.2.1 hq
theorem mz_drawn {Vt : Nat → Nat → (Nat → Int) → Int} {d tm : Nat} {g : q_G} {M : q_M} {seed wt : Int} {Q : Option q_V → q_G → q_M → Prop} (hI : q_MI Vt tm M) (hq : ∀ M2 : q_M, q_mq M M2 → Q (some (qI (B_drawn (q_Vr Vt M) (mW M) seed wt))) g M2) : q_S 1 (d + 11) 189 [qR 6 100, qI seed, qI wt] g M Q :=
  mp_drawn (d := d + 2) (q_MI_mi hI) hq
theorem cy_odds {Vt : Nat → Nat → (Nat → Int) → Int} {d tm l sl : Nat} {g : q_G} {M : q_M} {seed seeds most part : Int} {Q : Option q_V → q_G → q_M → Prop} (C : q_XI Vt tm l sl M) (hq : ∀ M2 : q_M, q_tq M M2 → Q (some (qL (A_odds (Vt l) (cW M 11) seed seeds most part))) g M2) : q_S 1 (d + 50) 90 [qR 5 0, qI seed, qI seeds, qI most, qI part] g M Q :=
  sp_odds (d := d + 44) C.2.2.1 hq
theorem mz_odds {Vt : Nat → Nat → (Nat → Int) → Int} {d tm : Nat} {g : q_G} {M : q_M} {seed seeds most part : Int} {Q : Option q_V → q_G → q_M → Prop} (hI : q_MI Vt tm M) (hq : ∀ M2 : q_M, q_mq M M2 → Q (some (qL (B_odds (q_Vr Vt M) (mW M) seed seeds most part))) g M2) : q_S 1 (d + 11) 190 [qR 6 100, qI seed, qI seeds, qI most, qI part] g M Q :=
  mp_odds (d := d + 2) (q_MI_mi hI) hq
theorem cy_share {Vt : Nat → Nat → (Nat → Int) → Int} {d tm l sl : Nat} {g : q_G} {M : q_M} {part : Int} {Q : Option q_V → q_G → q_M → Prop} (C : q_XI Vt tm l sl M) (hq : ∀ M2 : q_M, q_tq M M2 → Q (some (qL (A_share M part))) g M2) : q_S 1 (d + 50) 82 [qR 5 0, qI part] g M Q :=
  sp_share (d := d + 49) C.2.2.1.2.1 (hq M q_tq_rf)
theorem mz_share {Vt : Nat → Nat → (Nat → Int) → Int} {d tm : Nat} {g : q_G} {M : q_M} {part : Int} {Q : Option q_V → q_G → q_M → Prop} (hI : q_MI Vt tm M) (hq : ∀ M2 : q_M, q_mq M M2 → Q (some (qL (B_share M part))) g M2) : q_S 1 (d + 11) 178 [qR 6 100, qI part] g M Q :=
  mp_share (d := d + 10) hI.1 (hq M q_mq_rf)
theorem mz_run {Vt : Nat → Nat → (Nat → Int) → Int} {d tm : Nat} {g : q_G} {M : q_M} {n wt : Int} {Q : Option q_V → q_G → q_M → Prop} (hI : q_MI Vt tm M) (hq : ∀ M2 : q_M, q_mq M M2 → Q (some (qI (B_run (q_Vr Vt M) (mW M) n wt))) g M2) : q_S 1 (d + 11) 156 [qR 6 100, qI n, qI wt] g M Q :=
  mp_run (d := d + 3) (q_MI_mi hI) hq
theorem mz_when {Vt : Nat → Nat → (Nat → Int) → Int} {d tm : Nat} {g : q_G} {M : q_M} {p wt : Int} {Q : Option q_V → q_G → q_M → Prop} (hI : q_MI Vt tm M) (hq : ∀ M2 : q_M, q_mq M M2 → Q (some (qI (B_when (q_Vr Vt M) (mW M) p wt))) g M2) : q_S 1 (d + 11) 158 [qR 6 100, qI p, qI wt] g M Q :=
  mp_when (d := d + 2) (q_MI_mi hI) hq
set_option maxHeartbeats 4000000 in
theorem cy_run {Vt : Nat → Nat → (Nat → Int) → Int} {d tm l sl : Nat} {g : q_G} {M : q_M} {n wt : Int} {Q : Option q_V → q_G → q_M → Prop} (C : q_XI Vt tm l sl M) (iv : q_ivS (cW M 11)) (hq : ∀ M2 : q_M, q_tq M M2 → Q (some (qI (B_run (Vt l) (cW M 11) n wt))) g M2) (hwt : -2147483648 ≤ wt ∧ wt ≤ 2147483647) : q_S 1 (d + 50) 75 [qR 5 0, qI n, qI wt] g M Q := by
  have T := C.1
  have c := C.2.2.1
  have w := c.2.1
  have n5 := q_ci_n c
  have tas := c.1
  have e9 : cW M 11 9 0 = M 12 5 := rfl
  have fail : (¬(0 ≤ n ∧ n ≤ 40) ∨ ¬(wt = 0 ∨ wt = 1 ∨ (0 ≤ wt - 10 ∧ wt - 10 < cW M 11 9 0))) → Q (some (qI (-2))) g M := fun z => by
    have hq2 := hq M q_tq_rf
    rw [B_run_n z] at hq2
    exact hq2
  by_cases c1 : 0 ≤ n ∧ n ≤ 40
  · by_cases c2 : wt = 0 ∨ wt = 1 ∨ (0 ≤ wt - 10 ∧ wt - 10 < M 12 5)
    · obtain ⟨N, rfl⟩ : ∃ k : Nat, n = k := ⟨n.toNat, by omega⟩
      refine sp_run (d := d + 45) (q_ci_t c) w c.2.2.1 c.2.2.2.2.1.1 c.2.2.2.2.2.1 (by omega) c2 (fun M2 h h2 h3 => ?_)
      have hq2 := hq M2 (q_tq_th tas h)
      rw [B_run_y iv (by omega) (by omega), Int.toNat_natCast, ← h3] at hq2
      rw [q_rnA_e (by
        have e : (F_n (cW M2 38)) = F_n (cW M 11) := by rw [h3]; exact (F_ys_e iv N).1 ▸ (F_ys_e iv N).2.2
        have e2 : F_n (cW M 11) = (M 12 5).toNat := rfl
        omega)]
      exact hq2
    · by_cases c3 : -2147483638 ≤ wt
      · have c4 : ¬(0 ≤ wt - 10 ∧ wt - 10 < M 12 5) := by omega
        rw [s_X5_run]
        simp (disch := omega) only [b_X5_run_0, x_loadI_1, y_if_lt_t, y_if_lt_f, b_X5_run_4, x_iconst, y_ic_le_t, y_ic_le_f, b_X5_run_10, x_ret0, b_X5_run_13, x_loadI_2, y_if_eq_t, y_if_eq_f, b_X5_run_17, y_ic_ne_t, y_ic_ne_f, b_X5_run_22, x_goto, b_X5_run_26, b_X5_run_27, x_storeI_3, x_loadI_3, y_if_ne_t, y_if_ne_f, b_X5_run_32, x_loadR_0, x_loadS_0, x_isub, b_X5_run_43, b_X5_run_46, f_5_4, f_5_3, x_storeI_4, b_X5_run_60, x_loadI_4, y_ic_ge_t, y_ic_ge_f, b_X5_run_66, x_popI, x_popR, x_iinc_4, b_X5_run_80, b_X5_run_84, b_X5_run_88, f_4_0, b_X5_run_101, b_X5_run_111, b_X5_run_112, f_4_6, y_iald_26, q_isL_I, q_isL_R, q_isL_S, true_and, and_true, and_self, List.length_nil, List.length_cons, Nat.zero_add, x_K, x_Kn, Int.reduceToNat, Nat.reduceAdd, Nat.reduceMul, Nat.reduceLeDiff, Nat.reduceLT, Nat.zero_le, Int.reduceAdd, Int.reduceSub, Int.reduceMul, Int.reduceNeg, q_add_e, q_sub_e, q_mul_e, q_neg_e, q_upd_s, q_upd_n, zr_shr0, zr_shr1, zr_shr2, zr_shr3, zr_shr4, zr_and, zr_dyn8, zr_or, zr_shl, q_cpy_n, y_cpy26, c_X5_isStone, sp_isStone, c4, if_false]
        exact fail (by omega)
      · have e : q_sub wt 10 = wt - 10 + 4294967296 := by
          rw [q_sub_b, Int.bmod_def]
          split <;> omega
        have c4 : ¬(0 ≤ wt - 10 + 4294967296 ∧ wt - 10 + 4294967296 < M 12 5) := by omega
        rw [s_X5_run]
        simp (disch := omega) only [b_X5_run_0, x_loadI_1, y_if_lt_t, y_if_lt_f, b_X5_run_4, x_iconst, y_ic_le_t, y_ic_le_f, b_X5_run_10, x_ret0, b_X5_run_13, x_loadI_2, y_if_eq_t, y_if_eq_f, b_X5_run_17, y_ic_ne_t, y_ic_ne_f, b_X5_run_22, x_goto, b_X5_run_26, b_X5_run_27, x_storeI_3, x_loadI_3, y_if_ne_t, y_if_ne_f, b_X5_run_32, x_loadR_0, x_loadS_0, x_isub, b_X5_run_43, b_X5_run_46, f_5_4, f_5_3, x_storeI_4, b_X5_run_60, x_loadI_4, y_ic_ge_t, y_ic_ge_f, b_X5_run_66, x_popI, x_popR, x_iinc_4, b_X5_run_80, b_X5_run_84, b_X5_run_88, f_4_0, b_X5_run_101, b_X5_run_111, b_X5_run_112, f_4_6, y_iald_26, q_isL_I, q_isL_R, q_isL_S, true_and, and_true, and_self, List.length_nil, List.length_cons, Nat.zero_add, x_K, x_Kn, Int.reduceToNat, Nat.reduceAdd, Nat.reduceMul, Nat.reduceLeDiff, Nat.reduceLT, Nat.zero_le, Int.reduceAdd, Int.reduceSub, Int.reduceMul, Int.reduceNeg, q_add_e, q_sub_e, q_mul_e, q_neg_e, q_upd_s, q_upd_n, zr_shr0, zr_shr1, zr_shr2, zr_shr3, zr_shr4, zr_and, zr_dyn8, zr_or, zr_shl, q_cpy_n, y_cpy26, c_X5_isStone, sp_isStone, e, c4, if_false]
        exact fail (by omega)
  · rw [s_X5_run]
    by_cases c5 : n < 0
    · simp (disch := omega) only [b_X5_run_0, x_loadI_1, y_if_lt_t, y_if_lt_f, b_X5_run_4, x_iconst, y_ic_le_t, y_ic_le_f, b_X5_run_10, x_ret0, b_X5_run_13, x_loadI_2, y_if_eq_t, y_if_eq_f, b_X5_run_17, y_ic_ne_t, y_ic_ne_f, b_X5_run_22, x_goto, b_X5_run_26, b_X5_run_27, x_storeI_3, x_loadI_3, y_if_ne_t, y_if_ne_f, b_X5_run_32, x_loadR_0, x_loadS_0, x_isub, b_X5_run_43, b_X5_run_46, f_5_4, f_5_3, x_storeI_4, b_X5_run_60, x_loadI_4, y_ic_ge_t, y_ic_ge_f, b_X5_run_66, x_popI, x_popR, x_iinc_4, b_X5_run_80, b_X5_run_84, b_X5_run_88, f_4_0, b_X5_run_101, b_X5_run_111, b_X5_run_112, f_4_6, y_iald_26, q_isL_I, q_isL_R, q_isL_S, true_and, and_true, and_self, List.length_nil, List.length_cons, Nat.zero_add, x_K, x_Kn, Int.reduceToNat, Nat.reduceAdd, Nat.reduceMul, Nat.reduceLeDiff, Nat.reduceLT, Nat.zero_le, Int.reduceAdd, Int.reduceSub, Int.reduceMul, Int.reduceNeg, q_add_e, q_sub_e, q_mul_e, q_neg_e, q_upd_s, q_upd_n, zr_shr0, zr_shr1, zr_shr2, zr_shr3, zr_shr4, zr_and, zr_dyn8, zr_or, zr_shl, q_cpy_n, y_cpy26, c_X5_isStone, sp_isStone]
      exact fail (by omega)
    · simp (disch := omega) only [b_X5_run_0, x_loadI_1, y_if_lt_t, y_if_lt_f, b_X5_run_4, x_iconst, y_ic_le_t, y_ic_le_f, b_X5_run_10, x_ret0, b_X5_run_13, x_loadI_2, y_if_eq_t, y_if_eq_f, b_X5_run_17, y_ic_ne_t, y_ic_ne_f, b_X5_run_22, x_goto, b_X5_run_26, b_X5_run_27, x_storeI_3, x_loadI_3, y_if_ne_t, y_if_ne_f, b_X5_run_32, x_loadR_0, x_loadS_0, x_isub, b_X5_run_43, b_X5_run_46, f_5_4, f_5_3, x_storeI_4, b_X5_run_60, x_loadI_4, y_ic_ge_t, y_ic_ge_f, b_X5_run_66, x_popI, x_popR, x_iinc_4, b_X5_run_80, b_X5_run_84, b_X5_run_88, f_4_0, b_X5_run_101, b_X5_run_111, b_X5_run_112, f_4_6, y_iald_26, q_isL_I, q_isL_R, q_isL_S, true_and, and_true, and_self, List.length_nil, List.length_cons, Nat.zero_add, x_K, x_Kn, Int.reduceToNat, Nat.reduceAdd, Nat.reduceMul, Nat.reduceLeDiff, Nat.reduceLT, Nat.zero_le, Int.reduceAdd, Int.reduceSub, Int.reduceMul, Int.reduceNeg, q_add_e, q_sub_e, q_mul_e, q_neg_e, q_upd_s, q_upd_n, zr_shr0, zr_shr1, zr_shr2, zr_shr3, zr_shr4, zr_and, zr_dyn8, zr_or, zr_shl, q_cpy_n, y_cpy26, c_X5_isStone, sp_isStone]
      exact fail (by omega)
set_option maxHeartbeats 4000000 in
theorem cy_when {Vt : Nat → Nat → (Nat → Int) → Int} {d tm l sl : Nat} {g : q_G} {M : q_M} {p wt : Int} {Q : Option q_V → q_G → q_M → Prop} (C : q_XI Vt tm l sl M) (iv : q_ivS (cW M 11)) (hq : ∀ M2 : q_M, q_tq M M2 → Q (some (qI (B_when (Vt l) (cW M 11) p wt))) g M2) : q_S 1 (d + 50) 76 [qR 5 0, qI p, qI wt] g M Q := by
  have c := C.2.2.1
  have w := c.2.1
  have n5 := q_ci_n c
  have tas := c.1
  have e9 : cW M 11 9 0 = M 12 5 := rfl
  by_cases c1 : 0 ≤ p ∧ p < M 12 5
  · by_cases c2 : wt = -1 ∨ (0 ≤ wt ∧ wt < 5)
    · obtain ⟨P, rfl⟩ : ∃ k : Nat, p = k := ⟨p.toNat, by omega⟩
      refine sp_when (d := d + 44) (q_ci_t c) w c.2.2.1 c.2.2.2.2.1.1 c.2.2.2.2.2.1 (by omega) c2 (fun M2 h => ?_)
      have hq2 := hq M2 (q_tq_th tas h)
      rw [B_when_y iv c1 c2, Int.toNat_natCast] at hq2
      exact hq2
    · refine sp_whenG (d := d + 49) c1 (by omega) (by omega) ?_
      have hq2 := hq M q_tq_rf
      unfold B_when at hq2
      rw [if_neg (by omega), if_pos (by omega)] at hq2
      exact hq2
  · refine sp_whenF (d := d + 49) c1 ?_
    have hq2 := hq M q_tq_rf
    unfold B_when at hq2
    rw [if_pos (by omega)] at hq2
    exact hq2
theorem AB_share_fr {M M1 : q_M} {part : Int} (W : q_Rw M) (hb : q_mb M) (f : q_frQ M M1) : A_share M part = B_share M1 part := by
  rw [AB_share W hb]
  have e : mIn M1 = mIn M := by
    funext i
    unfold mIn
    rw [f 104 _ (by omega) (by omega)]
  unfold B_share
  rw [e, f 100 0 (by omega) (by omega), funext (fun i => f 104 (3 * i + 1) (by omega) (by omega))]
end
section
/-! BOTH SIDES: the small questions, just so -/
theorem q_ans {Q : Option q_V → q_G → q_M → Prop} {v w : Int} {g : q_G} {M : q_M} (h : Q (some (qI v)) g M) (e : w = v) : Q (some (qI w)) g M := by
  rw [e]
  exact h
def E_told (V : Nat → (Nat → Int) → Int) (S : q_M) (p wt : Int) : Int := if 0 ≤ p ∧ p < S 9 0 then F_told V S p.toNat wt else -5
def E_love (V : Nat → (Nat → Int) → Int) (S : q_M) (p b wt : Int) : Int := if ¬((0 ≤ p ∧ p < S 9 0) ∧ (0 ≤ b ∧ b < 5)) then -5000 else if wt = 0 then F_likes V S p.toNat b.toNat else if wt = 1 then F_wants V S p.toNat b.toNat else -7000
def E_asks (V : Nat → (Nat → Int) → Int) (S : q_M) (part p b : Int) : Int := if (0 ≤ part ∧ part < 3) ∧ (0 ≤ p ∧ p < S 9 0) ∧ (b = -1 ∨ (0 ≤ b ∧ b < 5)) then F_says V S part.toNat p.toNat (if b = -1 then 5 else b.toNat) else -1000
theorem E_told_y {V : Nat → (Nat → Int) → Int} {S : q_M} {p : Nat} {wt : Int} (h : (p : Int) < S 9 0) : E_told V S p wt = F_told V S p wt := by
  unfold E_told
  rw [if_pos (by omega), Int.toNat_natCast]
theorem E_told_n {V : Nat → (Nat → Int) → Int} {S : q_M} {p wt : Int} (h : ¬(0 ≤ p ∧ p < S 9 0)) : E_told V S p wt = -5 := if_neg h
theorem E_love_y {V : Nat → (Nat → Int) → Int} {S : q_M} {p b : Nat} {wt : Int} (h : (p : Int) < S 9 0) (h2 : b < 5) : E_love V S p b wt = if wt = 0 then F_likes V S p b else if wt = 1 then F_wants V S p b else -7000 := by
  unfold E_love
  rw [if_neg (by omega), Int.toNat_natCast, Int.toNat_natCast]
theorem E_love_n {V : Nat → (Nat → Int) → Int} {S : q_M} {p b wt : Int} (h : ¬((0 ≤ p ∧ p < S 9 0) ∧ (0 ≤ b ∧ b < 5))) : E_love V S p b wt = -5000 := if_pos h
theorem E_asks_y {V : Nat → (Nat → Int) → Int} {S : q_M} {part p : Nat} {b : Int} (h0 : part < 3) (h : (p : Int) < S 9 0) (h2 : b = -1 ∨ (0 ≤ b ∧ b < 5)) : E_asks V S part p b = F_says V S part p (if b = -1 then 5 else b.toNat) := by
  unfold E_asks
  rw [if_pos ⟨by omega, by omega, h2⟩, Int.toNat_natCast, Int.toNat_natCast]
theorem E_asks_n {V : Nat → (Nat → Int) → Int} {S : q_M} {part p b : Int} (h : ¬((0 ≤ part ∧ part < 3) ∧ (0 ≤ p ∧ p < S 9 0) ∧ (b = -1 ∨ (0 ≤ b ∧ b < 5)))) : E_asks V S part p b = -1000 := if_neg h
def E_site (S : q_M) (b wt : Int) : Int := if 0 ≤ b ∧ b < 5 then F_site S b.toNat wt else -5
def E_count (S : q_M) (tm no tp wt : Int) : Int := if wt = 0 then S 9 0 else if wt = 1 then S 9 1 else if wt = 2 then F_cnt (S 4) 5 (F_n S) else if wt = 3 then tm else if wt = 4 then no else if wt = 5 then tp else -2
set_option maxHeartbeats 4000000 in
theorem cy_told {Vt : Nat → Nat → (Nat → Int) → Int} {d tm l sl : Nat} {g : q_G} {M : q_M} {p wt : Int} {Q : Option q_V → q_G → q_M → Prop} (C : q_XI Vt tm l sl M) (hq : ∀ M2 : q_M, q_tq M M2 → Q (some (qI (E_told (Vt l) (cW M 11) p wt))) g M2) : q_S 1 (d + 50) 72 [qR 5 0, qI p, qI wt] g M Q := by
  have e9 : cW M 11 9 0 = M 12 5 := rfl
  have T := C.1
  have c := C.2.2.1
  have w := c.2.1
  have n5 := q_ci_n c
  have tas := c.1
  by_cases c1 : 0 ≤ p ∧ p < M 12 5
  · obtain ⟨P, rfl⟩ : ∃ n : Nat, p = n := ⟨p.toNat, by omega⟩
    exact sp_told (d := d + 46) w (show P < (M 12 5).toNat by omega) (c.2.2.2.1.1 P (by omega)) (fun M2 h => q_ans (hq M2 (q_tq_tel tas h)) (by first | (rw [E_told_n (by omega)]; done) | (rw [E_told_y (by omega)])))
  · exact sp_toldF (d := d + 49) c1 (q_ans (hq M q_tq_rf) (by first | (rw [E_told_n (by omega)]; done) | (rw [E_told_y (by omega)])))
set_option maxHeartbeats 4000000 in
theorem mz_told {Vt : Nat → Nat → (Nat → Int) → Int} {d tm : Nat} {g : q_G} {M : q_M} {p w : Int} {Q : Option q_V → q_G → q_M → Prop} (hI : q_MI Vt tm M) (hq : ∀ M2 : q_M, q_mq M M2 → Q (some (qI (E_told (q_Vr Vt M) (mW M) p w))) g M2) : q_S 1 (d + 10) 145 [qR 6 100, qI p, qI w] g M Q := by
  have e9 : mW M 9 0 = M 100 0 := rfl
  have n0 := hI.1.1
  rw [s_X6_told]
  have hm := (q_MI_mi hI).1
  by_cases c : 0 ≤ p ∧ p ≤ M 100 0 - 1
  · obtain ⟨N, rfl⟩ : ∃ N : Nat, p = N := ⟨p.toNat, by omega⟩
    have hN : N < (M 100 0).toNat := by omega
    have f0 : mW M 0 N = M 101 N := if_pos hN
    have f1 : mW M 1 N = M 102 N := if_pos hN
    have f2 : mW M 2 N = M 104 (3 * N) := if_pos hN
    have f3 : mW M 3 N = M 104 (3 * N + 1) := if_pos hN
    have f4 : mW M 4 N = mIn M N := if_pos hN
    have t0 : (3 * (N : Int) + 0).toNat = 3 * N := by omega
    have t1 : (3 * (N : Int) + 1).toNat = 3 * N + 1 := by omega
    have t2 : (3 * (N : Int) + 2).toNat = 3 * N + 2 := by omega
    have t3 : (3 * (N : Int)).toNat = 3 * N := by omega
    have b4 := hI.1.2.2.2.2.2.2.1 N (by omega)
    have tn2 : ∀ k : Int, 0 ≤ k → k ≤ 2 → 0 ≤ 3 * (N : Int) + k ∧ 3 * (N : Int) + k < 15 := fun k _ _ => by omega
    have wk : ∀ (nx : Nat) (ops : List Instr) (ls st : List q_V), (∀ M2 : q_M, q_mf M M2 → q_T 1 (d + 10) qP_X6_told nx ops ls (qI (m_no (F_wish (q_Vr Vt M) (mW M) N)) :: st) g M2 Q) → q_S 1 (d + 9) 144 [qR 6 100, qI N] g M (q_K 1 (d + 10) qP_X6_told nx ops ls st Q) := fun nx ops ls st h => mp_wish hm (by omega) (fun M2 h2 => h M2 h2)
    have gk : ∀ (nx : Nat) (ops : List Instr) (ls st : List q_V), (∀ M2 : q_M, q_mf M M2 → q_T 1 (d + 10) qP_X6_told nx ops ls (qI (F_goes (q_Vr Vt M) (mW M) N) :: st) g M2 Q) → q_S 1 (d + 9) 143 [qR 6 100, qI N] g M (q_K 1 (d + 10) qP_X6_told nx ops ls st Q) := fun nx ops ls st h => mp_goes hm (by omega) (fun M2 h2 => h M2 h2)
    rcases (show w < 0 ∨ w = 0 ∨ w = 1 ∨ w = 2 ∨ w = 3 ∨ w = 4 ∨ w = 5 ∨ w = 6 ∨ 6 < w by omega) with k | k | k | k | k | k | k | k | k
    · simp (disch := omega) only [b_X6_told_0, x_loadR_0, x_loadS_0, x_loadI_1, y_if_ne_t, y_if_ne_f, b_X6_told_8, x_iconst, x_ret0, b_X6_told_11, x_loadI_2, tw_13_0, tw_13_1, tw_13_2, tw_13_3, tw_13_4, tw_13_5, tw_13_6, tw_13_o, b_X6_told_56, f_6_4, x_imul, x_iadd, y_iald_25, y_iald_35, b_X6_told_67, f_6_1, b_X6_told_74, f_6_2, b_X6_told_81, b_X6_told_87, b_X6_told_93, q_isL_I, q_isL_R, q_isL_S, true_and, and_true, and_self, List.length_nil, List.length_cons, Nat.zero_add, x_K, x_Kn, Int.reduceToNat, Nat.reduceAdd, Nat.reduceMul, Nat.reduceLeDiff, Nat.reduceLT, Nat.zero_le, Int.reduceAdd, Int.reduceSub, Int.reduceMul, Int.reduceNeg, q_add_e, q_sub_e, q_mul_e, q_neg_e, q_upd_s, q_upd_n, zr_shr0, zr_shr1, zr_shr2, zr_shr3, zr_shr4, zr_and, zr_dyn8, zr_or, zr_shl, q_cpy_n, y_cpy26, c_X6_isStone, mp_isStone, c, and_self, if_true, y_tsw_o]
      exact q_ans (hq _ q_mq_rf) (by first | (rw [E_told_n (by omega)]; done) | (rw [E_told_y (by omega)]; unfold F_told; first | (simp [f0, f1, f2, f3, f4, t0, t1, t2, t3, m_no, mIn]; done) | (simp [f0, f1, f2, f3, f4, t0, t1, t2, t3, m_no, mIn]; (repeat' split) <;> omega) | (rw [if_neg (show ¬w = 0 by omega), if_neg (show ¬w = 1 by omega), if_neg (show ¬w = 2 by omega), if_neg (show ¬w = 3 by omega), if_neg (show ¬w = 4 by omega), if_neg (show ¬w = 5 by omega), if_neg (show ¬w = 6 by omega)])))
    · subst k
      simp (disch := omega) only [b_X6_told_0, x_loadR_0, x_loadS_0, x_loadI_1, y_if_ne_t, y_if_ne_f, b_X6_told_8, x_iconst, x_ret0, b_X6_told_11, x_loadI_2, tw_13_0, tw_13_1, tw_13_2, tw_13_3, tw_13_4, tw_13_5, tw_13_6, tw_13_o, b_X6_told_56, f_6_4, x_imul, x_iadd, y_iald_25, y_iald_35, b_X6_told_67, f_6_1, b_X6_told_74, f_6_2, b_X6_told_81, b_X6_told_87, b_X6_told_93, q_isL_I, q_isL_R, q_isL_S, true_and, and_true, and_self, List.length_nil, List.length_cons, Nat.zero_add, x_K, x_Kn, Int.reduceToNat, Nat.reduceAdd, Nat.reduceMul, Nat.reduceLeDiff, Nat.reduceLT, Nat.zero_le, Int.reduceAdd, Int.reduceSub, Int.reduceMul, Int.reduceNeg, q_add_e, q_sub_e, q_mul_e, q_neg_e, q_upd_s, q_upd_n, zr_shr0, zr_shr1, zr_shr2, zr_shr3, zr_shr4, zr_and, zr_dyn8, zr_or, zr_shl, q_cpy_n, y_cpy26, c_X6_isStone, mp_isStone, c, and_self, if_true]
      exact q_ans (hq _ q_mq_rf) (by first | (rw [E_told_n (by omega)]; done) | (rw [E_told_y (by omega)]; unfold F_told; first | (simp [f0, f1, f2, f3, f4, t0, t1, t2, t3, m_no, mIn]; done) | (simp [f0, f1, f2, f3, f4, t0, t1, t2, t3, m_no, mIn]; (repeat' split) <;> omega) | (rw [if_neg (show ¬w = 0 by omega), if_neg (show ¬w = 1 by omega), if_neg (show ¬w = 2 by omega), if_neg (show ¬w = 3 by omega), if_neg (show ¬w = 4 by omega), if_neg (show ¬w = 5 by omega), if_neg (show ¬w = 6 by omega)])))
    · subst k
      simp (disch := omega) only [b_X6_told_0, x_loadR_0, x_loadS_0, x_loadI_1, y_if_ne_t, y_if_ne_f, b_X6_told_8, x_iconst, x_ret0, b_X6_told_11, x_loadI_2, tw_13_0, tw_13_1, tw_13_2, tw_13_3, tw_13_4, tw_13_5, tw_13_6, tw_13_o, b_X6_told_56, f_6_4, x_imul, x_iadd, y_iald_25, y_iald_35, b_X6_told_67, f_6_1, b_X6_told_74, f_6_2, b_X6_told_81, b_X6_told_87, b_X6_told_93, q_isL_I, q_isL_R, q_isL_S, true_and, and_true, and_self, List.length_nil, List.length_cons, Nat.zero_add, x_K, x_Kn, Int.reduceToNat, Nat.reduceAdd, Nat.reduceMul, Nat.reduceLeDiff, Nat.reduceLT, Nat.zero_le, Int.reduceAdd, Int.reduceSub, Int.reduceMul, Int.reduceNeg, q_add_e, q_sub_e, q_mul_e, q_neg_e, q_upd_s, q_upd_n, zr_shr0, zr_shr1, zr_shr2, zr_shr3, zr_shr4, zr_and, zr_dyn8, zr_or, zr_shl, q_cpy_n, y_cpy26, c_X6_isStone, mp_isStone, c, and_self, if_true]
      exact q_ans (hq _ q_mq_rf) (by first | (rw [E_told_n (by omega)]; done) | (rw [E_told_y (by omega)]; unfold F_told; first | (simp [f0, f1, f2, f3, f4, t0, t1, t2, t3, m_no, mIn]; done) | (simp [f0, f1, f2, f3, f4, t0, t1, t2, t3, m_no, mIn]; (repeat' split) <;> omega) | (rw [if_neg (show ¬w = 0 by omega), if_neg (show ¬w = 1 by omega), if_neg (show ¬w = 2 by omega), if_neg (show ¬w = 3 by omega), if_neg (show ¬w = 4 by omega), if_neg (show ¬w = 5 by omega), if_neg (show ¬w = 6 by omega)])))
    · subst k
      simp (disch := omega) only [b_X6_told_0, x_loadR_0, x_loadS_0, x_loadI_1, y_if_ne_t, y_if_ne_f, b_X6_told_8, x_iconst, x_ret0, b_X6_told_11, x_loadI_2, tw_13_0, tw_13_1, tw_13_2, tw_13_3, tw_13_4, tw_13_5, tw_13_6, tw_13_o, b_X6_told_56, f_6_4, x_imul, x_iadd, y_iald_25, y_iald_35, b_X6_told_67, f_6_1, b_X6_told_74, f_6_2, b_X6_told_81, b_X6_told_87, b_X6_told_93, q_isL_I, q_isL_R, q_isL_S, true_and, and_true, and_self, List.length_nil, List.length_cons, Nat.zero_add, x_K, x_Kn, Int.reduceToNat, Nat.reduceAdd, Nat.reduceMul, Nat.reduceLeDiff, Nat.reduceLT, Nat.zero_le, Int.reduceAdd, Int.reduceSub, Int.reduceMul, Int.reduceNeg, q_add_e, q_sub_e, q_mul_e, q_neg_e, q_upd_s, q_upd_n, zr_shr0, zr_shr1, zr_shr2, zr_shr3, zr_shr4, zr_and, zr_dyn8, zr_or, zr_shl, q_cpy_n, y_cpy26, c_X6_isStone, mp_isStone, c, and_self, if_true]
      exact q_ans (hq _ q_mq_rf) (by first | (rw [E_told_n (by omega)]; done) | (rw [E_told_y (by omega)]; unfold F_told; first | (simp [f0, f1, f2, f3, f4, t0, t1, t2, t3, m_no, mIn]; done) | (simp [f0, f1, f2, f3, f4, t0, t1, t2, t3, m_no, mIn]; (repeat' split) <;> omega) | (rw [if_neg (show ¬w = 0 by omega), if_neg (show ¬w = 1 by omega), if_neg (show ¬w = 2 by omega), if_neg (show ¬w = 3 by omega), if_neg (show ¬w = 4 by omega), if_neg (show ¬w = 5 by omega), if_neg (show ¬w = 6 by omega)])))
    · subst k
      simp (disch := omega) only [b_X6_told_0, x_loadR_0, x_loadS_0, x_loadI_1, y_if_ne_t, y_if_ne_f, b_X6_told_8, x_iconst, x_ret0, b_X6_told_11, x_loadI_2, tw_13_0, tw_13_1, tw_13_2, tw_13_3, tw_13_4, tw_13_5, tw_13_6, tw_13_o, b_X6_told_56, f_6_4, x_imul, x_iadd, y_iald_25, y_iald_35, b_X6_told_67, f_6_1, b_X6_told_74, f_6_2, b_X6_told_81, b_X6_told_87, b_X6_told_93, q_isL_I, q_isL_R, q_isL_S, true_and, and_true, and_self, List.length_nil, List.length_cons, Nat.zero_add, x_K, x_Kn, Int.reduceToNat, Nat.reduceAdd, Nat.reduceMul, Nat.reduceLeDiff, Nat.reduceLT, Nat.zero_le, Int.reduceAdd, Int.reduceSub, Int.reduceMul, Int.reduceNeg, q_add_e, q_sub_e, q_mul_e, q_neg_e, q_upd_s, q_upd_n, zr_shr0, zr_shr1, zr_shr2, zr_shr3, zr_shr4, zr_and, zr_dyn8, zr_or, zr_shl, q_cpy_n, y_cpy26, c_X6_isStone, mp_isStone, c, and_self, if_true]
      exact q_ans (hq _ q_mq_rf) (by first | (rw [E_told_n (by omega)]; done) | (rw [E_told_y (by omega)]; unfold F_told; first | (simp [f0, f1, f2, f3, f4, t0, t1, t2, t3, m_no, mIn]; done) | (simp [f0, f1, f2, f3, f4, t0, t1, t2, t3, m_no, mIn]; (repeat' split) <;> omega) | (rw [if_neg (show ¬w = 0 by omega), if_neg (show ¬w = 1 by omega), if_neg (show ¬w = 2 by omega), if_neg (show ¬w = 3 by omega), if_neg (show ¬w = 4 by omega), if_neg (show ¬w = 5 by omega), if_neg (show ¬w = 6 by omega)])))
    · subst k
      simp (disch := omega) only [b_X6_told_0, x_loadR_0, x_loadS_0, x_loadI_1, y_if_ne_t, y_if_ne_f, b_X6_told_8, x_iconst, x_ret0, b_X6_told_11, x_loadI_2, tw_13_0, tw_13_1, tw_13_2, tw_13_3, tw_13_4, tw_13_5, tw_13_6, tw_13_o, b_X6_told_56, f_6_4, x_imul, x_iadd, y_iald_25, y_iald_35, b_X6_told_67, f_6_1, b_X6_told_74, f_6_2, b_X6_told_81, b_X6_told_87, b_X6_told_93, q_isL_I, q_isL_R, q_isL_S, true_and, and_true, and_self, List.length_nil, List.length_cons, Nat.zero_add, x_K, x_Kn, Int.reduceToNat, Nat.reduceAdd, Nat.reduceMul, Nat.reduceLeDiff, Nat.reduceLT, Nat.zero_le, Int.reduceAdd, Int.reduceSub, Int.reduceMul, Int.reduceNeg, q_add_e, q_sub_e, q_mul_e, q_neg_e, q_upd_s, q_upd_n, zr_shr0, zr_shr1, zr_shr2, zr_shr3, zr_shr4, zr_and, zr_dyn8, zr_or, zr_shl, q_cpy_n, y_cpy26, c_X6_isStone, mp_isStone, c, and_self, if_true]
      exact q_ans (hq _ q_mq_rf) (by first | (rw [E_told_n (by omega)]; done) | (rw [E_told_y (by omega)]; unfold F_told; first | (simp [f0, f1, f2, f3, f4, t0, t1, t2, t3, m_no, mIn]; done) | (simp [f0, f1, f2, f3, f4, t0, t1, t2, t3, m_no, mIn]; (repeat' split) <;> omega) | (rw [if_neg (show ¬w = 0 by omega), if_neg (show ¬w = 1 by omega), if_neg (show ¬w = 2 by omega), if_neg (show ¬w = 3 by omega), if_neg (show ¬w = 4 by omega), if_neg (show ¬w = 5 by omega), if_neg (show ¬w = 6 by omega)])))
    · subst k
      simp (disch := omega) only [b_X6_told_0, x_loadR_0, x_loadS_0, x_loadI_1, y_if_ne_t, y_if_ne_f, b_X6_told_8, x_iconst, x_ret0, b_X6_told_11, x_loadI_2, tw_13_0, tw_13_1, tw_13_2, tw_13_3, tw_13_4, tw_13_5, tw_13_6, tw_13_o, b_X6_told_56, f_6_4, x_imul, x_iadd, y_iald_25, y_iald_35, b_X6_told_67, f_6_1, b_X6_told_74, f_6_2, b_X6_told_81, b_X6_told_87, b_X6_told_93, q_isL_I, q_isL_R, q_isL_S, true_and, and_true, and_self, List.length_nil, List.length_cons, Nat.zero_add, x_K, x_Kn, Int.reduceToNat, Nat.reduceAdd, Nat.reduceMul, Nat.reduceLeDiff, Nat.reduceLT, Nat.zero_le, Int.reduceAdd, Int.reduceSub, Int.reduceMul, Int.reduceNeg, q_add_e, q_sub_e, q_mul_e, q_neg_e, q_upd_s, q_upd_n, zr_shr0, zr_shr1, zr_shr2, zr_shr3, zr_shr4, zr_and, zr_dyn8, zr_or, zr_shl, q_cpy_n, y_cpy26, c_X6_isStone, mp_isStone, c, and_self, if_true, c_X6_wishOf]
      refine wk _ _ _ _ (fun M2 h2 => ?_)
      simp (disch := omega) only [b_X6_told_0, x_loadR_0, x_loadS_0, x_loadI_1, y_if_ne_t, y_if_ne_f, b_X6_told_8, x_iconst, x_ret0, b_X6_told_11, x_loadI_2, tw_13_0, tw_13_1, tw_13_2, tw_13_3, tw_13_4, tw_13_5, tw_13_6, tw_13_o, b_X6_told_56, f_6_4, x_imul, x_iadd, y_iald_25, y_iald_35, b_X6_told_67, f_6_1, b_X6_told_74, f_6_2, b_X6_told_81, b_X6_told_87, b_X6_told_93, q_isL_I, q_isL_R, q_isL_S, true_and, and_true, and_self, List.length_nil, List.length_cons, Nat.zero_add, x_K, x_Kn, Int.reduceToNat, Nat.reduceAdd, Nat.reduceMul, Nat.reduceLeDiff, Nat.reduceLT, Nat.zero_le, Int.reduceAdd, Int.reduceSub, Int.reduceMul, Int.reduceNeg, q_add_e, q_sub_e, q_mul_e, q_neg_e, q_upd_s, q_upd_n, zr_shr0, zr_shr1, zr_shr2, zr_shr3, zr_shr4, zr_and, zr_dyn8, zr_or, zr_shl, q_cpy_n, y_cpy26]
      exact q_ans (hq _ (q_mq_mf h2)) (by first | (rw [E_told_n (by omega)]; done) | (rw [E_told_y (by omega)]; unfold F_told; first | (simp [f0, f1, f2, f3, f4, t0, t1, t2, t3, m_no, mIn]; done) | (simp [f0, f1, f2, f3, f4, t0, t1, t2, t3, m_no, mIn]; (repeat' split) <;> omega) | (rw [if_neg (show ¬w = 0 by omega), if_neg (show ¬w = 1 by omega), if_neg (show ¬w = 2 by omega), if_neg (show ¬w = 3 by omega), if_neg (show ¬w = 4 by omega), if_neg (show ¬w = 5 by omega), if_neg (show ¬w = 6 by omega)])))
    · subst k
      simp (disch := omega) only [b_X6_told_0, x_loadR_0, x_loadS_0, x_loadI_1, y_if_ne_t, y_if_ne_f, b_X6_told_8, x_iconst, x_ret0, b_X6_told_11, x_loadI_2, tw_13_0, tw_13_1, tw_13_2, tw_13_3, tw_13_4, tw_13_5, tw_13_6, tw_13_o, b_X6_told_56, f_6_4, x_imul, x_iadd, y_iald_25, y_iald_35, b_X6_told_67, f_6_1, b_X6_told_74, f_6_2, b_X6_told_81, b_X6_told_87, b_X6_told_93, q_isL_I, q_isL_R, q_isL_S, true_and, and_true, and_self, List.length_nil, List.length_cons, Nat.zero_add, x_K, x_Kn, Int.reduceToNat, Nat.reduceAdd, Nat.reduceMul, Nat.reduceLeDiff, Nat.reduceLT, Nat.zero_le, Int.reduceAdd, Int.reduceSub, Int.reduceMul, Int.reduceNeg, q_add_e, q_sub_e, q_mul_e, q_neg_e, q_upd_s, q_upd_n, zr_shr0, zr_shr1, zr_shr2, zr_shr3, zr_shr4, zr_and, zr_dyn8, zr_or, zr_shl, q_cpy_n, y_cpy26, c_X6_isStone, mp_isStone, c, and_self, if_true, c_X6_goesOf]
      refine gk _ _ _ _ (fun M2 h2 => ?_)
      simp (disch := omega) only [b_X6_told_0, x_loadR_0, x_loadS_0, x_loadI_1, y_if_ne_t, y_if_ne_f, b_X6_told_8, x_iconst, x_ret0, b_X6_told_11, x_loadI_2, tw_13_0, tw_13_1, tw_13_2, tw_13_3, tw_13_4, tw_13_5, tw_13_6, tw_13_o, b_X6_told_56, f_6_4, x_imul, x_iadd, y_iald_25, y_iald_35, b_X6_told_67, f_6_1, b_X6_told_74, f_6_2, b_X6_told_81, b_X6_told_87, b_X6_told_93, q_isL_I, q_isL_R, q_isL_S, true_and, and_true, and_self, List.length_nil, List.length_cons, Nat.zero_add, x_K, x_Kn, Int.reduceToNat, Nat.reduceAdd, Nat.reduceMul, Nat.reduceLeDiff, Nat.reduceLT, Nat.zero_le, Int.reduceAdd, Int.reduceSub, Int.reduceMul, Int.reduceNeg, q_add_e, q_sub_e, q_mul_e, q_neg_e, q_upd_s, q_upd_n, zr_shr0, zr_shr1, zr_shr2, zr_shr3, zr_shr4, zr_and, zr_dyn8, zr_or, zr_shl, q_cpy_n, y_cpy26]
      exact q_ans (hq _ (q_mq_mf h2)) (by first | (rw [E_told_n (by omega)]; done) | (rw [E_told_y (by omega)]; unfold F_told; first | (simp [f0, f1, f2, f3, f4, t0, t1, t2, t3, m_no, mIn]; done) | (simp [f0, f1, f2, f3, f4, t0, t1, t2, t3, m_no, mIn]; (repeat' split) <;> omega) | (rw [if_neg (show ¬w = 0 by omega), if_neg (show ¬w = 1 by omega), if_neg (show ¬w = 2 by omega), if_neg (show ¬w = 3 by omega), if_neg (show ¬w = 4 by omega), if_neg (show ¬w = 5 by omega), if_neg (show ¬w = 6 by omega)])))
    · simp (disch := omega) only [b_X6_told_0, x_loadR_0, x_loadS_0, x_loadI_1, y_if_ne_t, y_if_ne_f, b_X6_told_8, x_iconst, x_ret0, b_X6_told_11, x_loadI_2, tw_13_0, tw_13_1, tw_13_2, tw_13_3, tw_13_4, tw_13_5, tw_13_6, tw_13_o, b_X6_told_56, f_6_4, x_imul, x_iadd, y_iald_25, y_iald_35, b_X6_told_67, f_6_1, b_X6_told_74, f_6_2, b_X6_told_81, b_X6_told_87, b_X6_told_93, q_isL_I, q_isL_R, q_isL_S, true_and, and_true, and_self, List.length_nil, List.length_cons, Nat.zero_add, x_K, x_Kn, Int.reduceToNat, Nat.reduceAdd, Nat.reduceMul, Nat.reduceLeDiff, Nat.reduceLT, Nat.zero_le, Int.reduceAdd, Int.reduceSub, Int.reduceMul, Int.reduceNeg, q_add_e, q_sub_e, q_mul_e, q_neg_e, q_upd_s, q_upd_n, zr_shr0, zr_shr1, zr_shr2, zr_shr3, zr_shr4, zr_and, zr_dyn8, zr_or, zr_shl, q_cpy_n, y_cpy26, c_X6_isStone, mp_isStone, c, and_self, if_true, y_tsw_o]
      exact q_ans (hq _ q_mq_rf) (by first | (rw [E_told_n (by omega)]; done) | (rw [E_told_y (by omega)]; unfold F_told; first | (simp [f0, f1, f2, f3, f4, t0, t1, t2, t3, m_no, mIn]; done) | (simp [f0, f1, f2, f3, f4, t0, t1, t2, t3, m_no, mIn]; (repeat' split) <;> omega) | (rw [if_neg (show ¬w = 0 by omega), if_neg (show ¬w = 1 by omega), if_neg (show ¬w = 2 by omega), if_neg (show ¬w = 3 by omega), if_neg (show ¬w = 4 by omega), if_neg (show ¬w = 5 by omega), if_neg (show ¬w = 6 by omega)])))
  · simp (disch := omega) only [b_X6_told_0, x_loadR_0, x_loadS_0, x_loadI_1, y_if_ne_t, y_if_ne_f, b_X6_told_8, x_iconst, x_ret0, b_X6_told_11, x_loadI_2, tw_13_0, tw_13_1, tw_13_2, tw_13_3, tw_13_4, tw_13_5, tw_13_6, tw_13_o, b_X6_told_56, f_6_4, x_imul, x_iadd, y_iald_25, y_iald_35, b_X6_told_67, f_6_1, b_X6_told_74, f_6_2, b_X6_told_81, b_X6_told_87, b_X6_told_93, q_isL_I, q_isL_R, q_isL_S, true_and, and_true, and_self, List.length_nil, List.length_cons, Nat.zero_add, x_K, x_Kn, Int.reduceToNat, Nat.reduceAdd, Nat.reduceMul, Nat.reduceLeDiff, Nat.reduceLT, Nat.zero_le, Int.reduceAdd, Int.reduceSub, Int.reduceMul, Int.reduceNeg, q_add_e, q_sub_e, q_mul_e, q_neg_e, q_upd_s, q_upd_n, zr_shr0, zr_shr1, zr_shr2, zr_shr3, zr_shr4, zr_and, zr_dyn8, zr_or, zr_shl, q_cpy_n, y_cpy26, c_X6_isStone, mp_isStone, c, if_false]
    exact q_ans (hq _ q_mq_rf) (by first | (rw [E_told_n (by omega)]; done) | (rw [E_told_y (by omega)]; unfold F_told; first | (simp [f0, f1, f2, f3, f4, t0, t1, t2, t3, m_no, mIn]; done) | (simp [f0, f1, f2, f3, f4, t0, t1, t2, t3, m_no, mIn]; (repeat' split) <;> omega) | (rw [if_neg (show ¬w = 0 by omega), if_neg (show ¬w = 1 by omega), if_neg (show ¬w = 2 by omega), if_neg (show ¬w = 3 by omega), if_neg (show ¬w = 4 by omega), if_neg (show ¬w = 5 by omega), if_neg (show ¬w = 6 by omega)])))
set_option maxHeartbeats 4000000 in
theorem cy_love {Vt : Nat → Nat → (Nat → Int) → Int} {d tm l sl : Nat} {g : q_G} {M : q_M} {p b wt : Int} {Q : Option q_V → q_G → q_M → Prop} (C : q_XI Vt tm l sl M) (hq : ∀ M2 : q_M, q_tq M M2 → Q (some (qI (E_love (Vt l) (cW M 11) p b wt))) g M2) : q_S 1 (d + 50) 73 [qR 5 0, qI p, qI b, qI wt] g M Q := by
  have e9 : cW M 11 9 0 = M 12 5 := rfl
  have T := C.1
  have c := C.2.2.1
  have w := c.2.1
  have n5 := q_ci_n c
  have tas := c.1
  by_cases c2 : 0 ≤ p ∧ p < M 12 5
  · by_cases c3 : 0 ≤ b ∧ b < 5
    · obtain ⟨P, rfl⟩ : ∃ n : Nat, p = n := ⟨p.toNat, by omega⟩
      obtain ⟨B, rfl⟩ : ∃ n : Nat, b = n := ⟨b.toNat, by omega⟩
      exact sp_love (d := d + 47) w (show P < (M 12 5).toNat by omega) (by omega) (fun M2 h => q_ans (hq M2 (q_tq_fwd tas h)) (by first | (rw [E_love_n (by omega)]; done) | (rw [E_love_y (by omega) (by omega)])))
    · rw [s_X5_love]
      simp (disch := omega) only [b_X5_love_0, x_loadR_0, x_loadS_0, x_loadI_1, y_if_eq_t, y_if_eq_f, b_X5_love_8, x_loadI_2, y_if_ne_t, y_if_ne_f, b_X5_love_15, x_iconst, x_ret0, b_X5_love_19, x_loadI_3, tw_5_0, tw_5_1, tw_5_o, b_X5_love_48, f_5_3, b_X5_love_58, b_X5_love_68, q_isL_I, q_isL_R, q_isL_S, true_and, and_true, and_self, List.length_nil, List.length_cons, Nat.zero_add, x_K, x_Kn, Int.reduceToNat, Nat.reduceAdd, Nat.reduceMul, Nat.reduceLeDiff, Nat.reduceLT, Nat.zero_le, Int.reduceAdd, Int.reduceSub, Int.reduceMul, Int.reduceNeg, q_add_e, q_sub_e, q_mul_e, q_neg_e, q_upd_s, q_upd_n, zr_shr0, zr_shr1, zr_shr2, zr_shr3, zr_shr4, zr_and, zr_dyn8, zr_or, zr_shl, q_cpy_n, y_cpy26, c_X5_isStone, sp_isStone, c_X5_isBuilding, sp_isBuilding, c2, and_self, if_true, c3, if_false]
      exact q_ans (hq M q_tq_rf) (by first | (rw [E_love_n (by omega)]; done) | (rw [E_love_y (by omega) (by omega)]))
  · rw [s_X5_love]
    simp (disch := omega) only [b_X5_love_0, x_loadR_0, x_loadS_0, x_loadI_1, y_if_eq_t, y_if_eq_f, b_X5_love_8, x_loadI_2, y_if_ne_t, y_if_ne_f, b_X5_love_15, x_iconst, x_ret0, b_X5_love_19, x_loadI_3, tw_5_0, tw_5_1, tw_5_o, b_X5_love_48, f_5_3, b_X5_love_58, b_X5_love_68, q_isL_I, q_isL_R, q_isL_S, true_and, and_true, and_self, List.length_nil, List.length_cons, Nat.zero_add, x_K, x_Kn, Int.reduceToNat, Nat.reduceAdd, Nat.reduceMul, Nat.reduceLeDiff, Nat.reduceLT, Nat.zero_le, Int.reduceAdd, Int.reduceSub, Int.reduceMul, Int.reduceNeg, q_add_e, q_sub_e, q_mul_e, q_neg_e, q_upd_s, q_upd_n, zr_shr0, zr_shr1, zr_shr2, zr_shr3, zr_shr4, zr_and, zr_dyn8, zr_or, zr_shl, q_cpy_n, y_cpy26, c_X5_isStone, sp_isStone, c_X5_isBuilding, sp_isBuilding, c2, if_false]
    exact q_ans (hq M q_tq_rf) (by first | (rw [E_love_n (by omega)]; done) | (rw [E_love_y (by omega) (by omega)]))
set_option maxHeartbeats 4000000 in
theorem mz_love {Vt : Nat → Nat → (Nat → Int) → Int} {d tm : Nat} {g : q_G} {M : q_M} {p b w : Int} {Q : Option q_V → q_G → q_M → Prop} (hI : q_MI Vt tm M) (hq : ∀ M2 : q_M, q_mq M M2 → Q (some (qI (E_love (q_Vr Vt M) (mW M) p b w))) g M2) : q_S 1 (d + 10) 146 [qR 6 100, qI p, qI b, qI w] g M Q := by
  have e9 : mW M 9 0 = M 100 0 := rfl
  have n0 := hI.1.1
  rw [s_X6_love]
  have hm := (q_MI_mi hI).1
  by_cases c : 0 ≤ p ∧ p ≤ M 100 0 - 1
  · by_cases c2 : 0 ≤ b ∧ b ≤ 4
    · obtain ⟨N, rfl⟩ : ∃ N : Nat, p = N := ⟨p.toNat, by omega⟩
      obtain ⟨B, rfl⟩ : ∃ B : Nat, b = B := ⟨b.toNat, by omega⟩
      have lk : ∀ (nx : Nat) (ops : List Instr) (ls st : List q_V), (∀ M2 : q_M, q_mf M M2 → q_T 1 (d + 10) qP_X6_love nx ops ls (qI (F_likes (q_Vr Vt M) (mW M) N B) :: st) g M2 Q) → q_S 1 (d + 9) 141 [qR 6 100, qI N, qI B] g M (q_K 1 (d + 10) qP_X6_love nx ops ls st Q) := fun nx ops ls st h => mp_likes hm (by omega) (by omega) (fun M2 h2 => h M2 h2)
      have wk : ∀ (nx : Nat) (ops : List Instr) (ls st : List q_V), (∀ M2 : q_M, q_mf M M2 → q_T 1 (d + 10) qP_X6_love nx ops ls (qI (F_wants (q_Vr Vt M) (mW M) N B) :: st) g M2 Q) → q_S 1 (d + 9) 142 [qR 6 100, qI N, qI B] g M (q_K 1 (d + 10) qP_X6_love nx ops ls st Q) := fun nx ops ls st h => mp_wants hm (by omega) (by omega) (fun M2 h2 => h M2 h2)
      by_cases k0 : w = 0
      · simp (disch := omega) only [b_X6_love_0, x_loadR_0, x_loadS_0, x_loadI_1, y_if_eq_t, y_if_eq_f, b_X6_love_8, x_loadI_2, y_if_ne_t, y_if_ne_f, b_X6_love_15, x_iconst, x_ret0, b_X6_love_19, x_loadI_3, b_X6_love_23, x_goto, b_X6_love_32, y_ic_ne_t, y_ic_ne_f, b_X6_love_37, b_X6_love_46, b_X6_love_49, q_isL_I, q_isL_R, q_isL_S, true_and, and_true, and_self, List.length_nil, List.length_cons, Nat.zero_add, x_K, x_Kn, Int.reduceToNat, Nat.reduceAdd, Nat.reduceMul, Nat.reduceLeDiff, Nat.reduceLT, Nat.zero_le, Int.reduceAdd, Int.reduceSub, Int.reduceMul, Int.reduceNeg, q_add_e, q_sub_e, q_mul_e, q_neg_e, q_upd_s, q_upd_n, zr_shr0, zr_shr1, zr_shr2, zr_shr3, zr_shr4, zr_and, zr_dyn8, zr_or, zr_shl, q_cpy_n, y_cpy26, c_X6_isStone, mp_isStone, c, c_X6_isSite, mp_isSite, c2, and_self, if_true, c_X6_likesOf]
        refine lk _ _ _ _ (fun M2 h2 => ?_)
        simp (disch := omega) only [b_X6_love_0, x_loadR_0, x_loadS_0, x_loadI_1, y_if_eq_t, y_if_eq_f, b_X6_love_8, x_loadI_2, y_if_ne_t, y_if_ne_f, b_X6_love_15, x_iconst, x_ret0, b_X6_love_19, x_loadI_3, b_X6_love_23, x_goto, b_X6_love_32, y_ic_ne_t, y_ic_ne_f, b_X6_love_37, b_X6_love_46, b_X6_love_49, q_isL_I, q_isL_R, q_isL_S, true_and, and_true, and_self, List.length_nil, List.length_cons, Nat.zero_add, x_K, x_Kn, Int.reduceToNat, Nat.reduceAdd, Nat.reduceMul, Nat.reduceLeDiff, Nat.reduceLT, Nat.zero_le, Int.reduceAdd, Int.reduceSub, Int.reduceMul, Int.reduceNeg, q_add_e, q_sub_e, q_mul_e, q_neg_e, q_upd_s, q_upd_n, zr_shr0, zr_shr1, zr_shr2, zr_shr3, zr_shr4, zr_and, zr_dyn8, zr_or, zr_shl, q_cpy_n, y_cpy26]
        exact q_ans (hq _ (q_mq_mf h2)) (by first | (rw [E_love_n (by omega)]; done) | (rw [E_love_y (by omega) (by omega), if_pos (show w = 0 by omega)]; done) | (rw [E_love_y (by omega) (by omega), if_neg (show ¬w = 0 by omega), if_pos (show w = 1 by omega)]; done) | (rw [E_love_y (by omega) (by omega), if_neg (show ¬w = 0 by omega), if_neg (show ¬w = 1 by omega)]))
      · by_cases k1 : w = 1
        · simp (disch := omega) only [b_X6_love_0, x_loadR_0, x_loadS_0, x_loadI_1, y_if_eq_t, y_if_eq_f, b_X6_love_8, x_loadI_2, y_if_ne_t, y_if_ne_f, b_X6_love_15, x_iconst, x_ret0, b_X6_love_19, x_loadI_3, b_X6_love_23, x_goto, b_X6_love_32, y_ic_ne_t, y_ic_ne_f, b_X6_love_37, b_X6_love_46, b_X6_love_49, q_isL_I, q_isL_R, q_isL_S, true_and, and_true, and_self, List.length_nil, List.length_cons, Nat.zero_add, x_K, x_Kn, Int.reduceToNat, Nat.reduceAdd, Nat.reduceMul, Nat.reduceLeDiff, Nat.reduceLT, Nat.zero_le, Int.reduceAdd, Int.reduceSub, Int.reduceMul, Int.reduceNeg, q_add_e, q_sub_e, q_mul_e, q_neg_e, q_upd_s, q_upd_n, zr_shr0, zr_shr1, zr_shr2, zr_shr3, zr_shr4, zr_and, zr_dyn8, zr_or, zr_shl, q_cpy_n, y_cpy26, c_X6_isStone, mp_isStone, c, c_X6_isSite, mp_isSite, c2, and_self, if_true, c_X6_wantedOf]
          refine wk _ _ _ _ (fun M2 h2 => ?_)
          simp (disch := omega) only [b_X6_love_0, x_loadR_0, x_loadS_0, x_loadI_1, y_if_eq_t, y_if_eq_f, b_X6_love_8, x_loadI_2, y_if_ne_t, y_if_ne_f, b_X6_love_15, x_iconst, x_ret0, b_X6_love_19, x_loadI_3, b_X6_love_23, x_goto, b_X6_love_32, y_ic_ne_t, y_ic_ne_f, b_X6_love_37, b_X6_love_46, b_X6_love_49, q_isL_I, q_isL_R, q_isL_S, true_and, and_true, and_self, List.length_nil, List.length_cons, Nat.zero_add, x_K, x_Kn, Int.reduceToNat, Nat.reduceAdd, Nat.reduceMul, Nat.reduceLeDiff, Nat.reduceLT, Nat.zero_le, Int.reduceAdd, Int.reduceSub, Int.reduceMul, Int.reduceNeg, q_add_e, q_sub_e, q_mul_e, q_neg_e, q_upd_s, q_upd_n, zr_shr0, zr_shr1, zr_shr2, zr_shr3, zr_shr4, zr_and, zr_dyn8, zr_or, zr_shl, q_cpy_n, y_cpy26]
          exact q_ans (hq _ (q_mq_mf h2)) (by first | (rw [E_love_n (by omega)]; done) | (rw [E_love_y (by omega) (by omega), if_pos (show w = 0 by omega)]; done) | (rw [E_love_y (by omega) (by omega), if_neg (show ¬w = 0 by omega), if_pos (show w = 1 by omega)]; done) | (rw [E_love_y (by omega) (by omega), if_neg (show ¬w = 0 by omega), if_neg (show ¬w = 1 by omega)]))
        · simp (disch := omega) only [b_X6_love_0, x_loadR_0, x_loadS_0, x_loadI_1, y_if_eq_t, y_if_eq_f, b_X6_love_8, x_loadI_2, y_if_ne_t, y_if_ne_f, b_X6_love_15, x_iconst, x_ret0, b_X6_love_19, x_loadI_3, b_X6_love_23, x_goto, b_X6_love_32, y_ic_ne_t, y_ic_ne_f, b_X6_love_37, b_X6_love_46, b_X6_love_49, q_isL_I, q_isL_R, q_isL_S, true_and, and_true, and_self, List.length_nil, List.length_cons, Nat.zero_add, x_K, x_Kn, Int.reduceToNat, Nat.reduceAdd, Nat.reduceMul, Nat.reduceLeDiff, Nat.reduceLT, Nat.zero_le, Int.reduceAdd, Int.reduceSub, Int.reduceMul, Int.reduceNeg, q_add_e, q_sub_e, q_mul_e, q_neg_e, q_upd_s, q_upd_n, zr_shr0, zr_shr1, zr_shr2, zr_shr3, zr_shr4, zr_and, zr_dyn8, zr_or, zr_shl, q_cpy_n, y_cpy26, c_X6_isStone, mp_isStone, c, c_X6_isSite, mp_isSite, c2, and_self, if_true]
          exact q_ans (hq _ q_mq_rf) (by first | (rw [E_love_n (by omega)]; done) | (rw [E_love_y (by omega) (by omega), if_pos (show w = 0 by omega)]; done) | (rw [E_love_y (by omega) (by omega), if_neg (show ¬w = 0 by omega), if_pos (show w = 1 by omega)]; done) | (rw [E_love_y (by omega) (by omega), if_neg (show ¬w = 0 by omega), if_neg (show ¬w = 1 by omega)]))
    · simp (disch := omega) only [b_X6_love_0, x_loadR_0, x_loadS_0, x_loadI_1, y_if_eq_t, y_if_eq_f, b_X6_love_8, x_loadI_2, y_if_ne_t, y_if_ne_f, b_X6_love_15, x_iconst, x_ret0, b_X6_love_19, x_loadI_3, b_X6_love_23, x_goto, b_X6_love_32, y_ic_ne_t, y_ic_ne_f, b_X6_love_37, b_X6_love_46, b_X6_love_49, q_isL_I, q_isL_R, q_isL_S, true_and, and_true, and_self, List.length_nil, List.length_cons, Nat.zero_add, x_K, x_Kn, Int.reduceToNat, Nat.reduceAdd, Nat.reduceMul, Nat.reduceLeDiff, Nat.reduceLT, Nat.zero_le, Int.reduceAdd, Int.reduceSub, Int.reduceMul, Int.reduceNeg, q_add_e, q_sub_e, q_mul_e, q_neg_e, q_upd_s, q_upd_n, zr_shr0, zr_shr1, zr_shr2, zr_shr3, zr_shr4, zr_and, zr_dyn8, zr_or, zr_shl, q_cpy_n, y_cpy26, c_X6_isStone, mp_isStone, c, c_X6_isSite, mp_isSite, c2, and_self, if_true, if_false]
      exact q_ans (hq _ q_mq_rf) (by first | (rw [E_love_n (by omega)]; done) | (rw [E_love_y (by omega) (by omega), if_pos (show w = 0 by omega)]; done) | (rw [E_love_y (by omega) (by omega), if_neg (show ¬w = 0 by omega), if_pos (show w = 1 by omega)]; done) | (rw [E_love_y (by omega) (by omega), if_neg (show ¬w = 0 by omega), if_neg (show ¬w = 1 by omega)]))
  · simp (disch := omega) only [b_X6_love_0, x_loadR_0, x_loadS_0, x_loadI_1, y_if_eq_t, y_if_eq_f, b_X6_love_8, x_loadI_2, y_if_ne_t, y_if_ne_f, b_X6_love_15, x_iconst, x_ret0, b_X6_love_19, x_loadI_3, b_X6_love_23, x_goto, b_X6_love_32, y_ic_ne_t, y_ic_ne_f, b_X6_love_37, b_X6_love_46, b_X6_love_49, q_isL_I, q_isL_R, q_isL_S, true_and, and_true, and_self, List.length_nil, List.length_cons, Nat.zero_add, x_K, x_Kn, Int.reduceToNat, Nat.reduceAdd, Nat.reduceMul, Nat.reduceLeDiff, Nat.reduceLT, Nat.zero_le, Int.reduceAdd, Int.reduceSub, Int.reduceMul, Int.reduceNeg, q_add_e, q_sub_e, q_mul_e, q_neg_e, q_upd_s, q_upd_n, zr_shr0, zr_shr1, zr_shr2, zr_shr3, zr_shr4, zr_and, zr_dyn8, zr_or, zr_shl, q_cpy_n, y_cpy26, c_X6_isStone, mp_isStone, c, if_false]
    exact q_ans (hq _ q_mq_rf) (by first | (rw [E_love_n (by omega)]; done) | (rw [E_love_y (by omega) (by omega), if_pos (show w = 0 by omega)]; done) | (rw [E_love_y (by omega) (by omega), if_neg (show ¬w = 0 by omega), if_pos (show w = 1 by omega)]; done) | (rw [E_love_y (by omega) (by omega), if_neg (show ¬w = 0 by omega), if_neg (show ¬w = 1 by omega)]))
set_option maxHeartbeats 4000000 in
theorem cy_asks {Vt : Nat → Nat → (Nat → Int) → Int} {d tm l sl : Nat} {g : q_G} {M : q_M} {part p b : Int} {Q : Option q_V → q_G → q_M → Prop} (C : q_XI Vt tm l sl M) (hq : ∀ M2 : q_M, q_tq M M2 → Q (some (qI (E_asks (Vt l) (cW M 11) part p b))) g M2) : q_S 1 (d + 50) 69 [qR 5 0, qI part, qI p, qI b] g M Q := by
  have e9 : cW M 11 9 0 = M 12 5 := rfl
  have T := C.1
  have c := C.2.2.1
  have w := c.2.1
  have n5 := q_ci_n c
  have tas := c.1
  by_cases c1 : 0 ≤ part ∧ part < 3
  · by_cases c2 : 0 ≤ p ∧ p < M 12 5
    · by_cases c3 : b = -1 ∨ (0 ≤ b ∧ b < 5)
      · obtain ⟨PT, rfl⟩ : ∃ n : Nat, part = n := ⟨part.toNat, by omega⟩
        obtain ⟨P, rfl⟩ : ∃ n : Nat, p = n := ⟨p.toNat, by omega⟩
        exact sp_asks (d := d + 48) w (by omega) (show P < (M 12 5).toNat by omega) c3 (fun M2 h => q_ans (hq M2 (q_tq_fwd tas h)) (by first | (rw [E_asks_n (by omega)]; done) | (rw [E_asks_y (by omega) (by omega) (by omega)])))
      · have c4 : ¬(0 ≤ b ∧ b < 5) := by omega
        rw [s_X5_asks]
        simp (disch := omega) only [b_X5_asks_0, x_loadI_1, y_if_lt_t, y_if_lt_f, b_X5_asks_4, x_iconst, y_ic_ge_t, y_ic_ge_f, b_X5_asks_9, x_loadR_0, x_loadS_0, x_loadI_2, y_if_eq_t, y_if_eq_f, b_X5_asks_17, x_loadI_3, y_ic_eq_t, y_ic_eq_f, b_X5_asks_22, y_if_ne_t, y_if_ne_f, b_X5_asks_29, x_ret0, b_X5_asks_33, f_5_3, y_ic_ne_t, y_ic_ne_f, b_X5_asks_44, x_goto, b_X5_asks_48, b_X5_asks_49, q_isL_I, q_isL_R, q_isL_S, true_and, and_true, and_self, List.length_nil, List.length_cons, Nat.zero_add, x_K, x_Kn, Int.reduceToNat, Nat.reduceAdd, Nat.reduceMul, Nat.reduceLeDiff, Nat.reduceLT, Nat.zero_le, Int.reduceAdd, Int.reduceSub, Int.reduceMul, Int.reduceNeg, q_add_e, q_sub_e, q_mul_e, q_neg_e, q_upd_s, q_upd_n, zr_shr0, zr_shr1, zr_shr2, zr_shr3, zr_shr4, zr_and, zr_dyn8, zr_or, zr_shl, q_cpy_n, y_cpy26, c_X5_isStone, sp_isStone, c_X5_isBuilding, sp_isBuilding, c2, and_self, if_true, c4, if_false]
        exact q_ans (hq M q_tq_rf) (by first | (rw [E_asks_n (by omega)]; done) | (rw [E_asks_y (by omega) (by omega) (by omega)]))
    · rw [s_X5_asks]
      simp (disch := omega) only [b_X5_asks_0, x_loadI_1, y_if_lt_t, y_if_lt_f, b_X5_asks_4, x_iconst, y_ic_ge_t, y_ic_ge_f, b_X5_asks_9, x_loadR_0, x_loadS_0, x_loadI_2, y_if_eq_t, y_if_eq_f, b_X5_asks_17, x_loadI_3, y_ic_eq_t, y_ic_eq_f, b_X5_asks_22, y_if_ne_t, y_if_ne_f, b_X5_asks_29, x_ret0, b_X5_asks_33, f_5_3, y_ic_ne_t, y_ic_ne_f, b_X5_asks_44, x_goto, b_X5_asks_48, b_X5_asks_49, q_isL_I, q_isL_R, q_isL_S, true_and, and_true, and_self, List.length_nil, List.length_cons, Nat.zero_add, x_K, x_Kn, Int.reduceToNat, Nat.reduceAdd, Nat.reduceMul, Nat.reduceLeDiff, Nat.reduceLT, Nat.zero_le, Int.reduceAdd, Int.reduceSub, Int.reduceMul, Int.reduceNeg, q_add_e, q_sub_e, q_mul_e, q_neg_e, q_upd_s, q_upd_n, zr_shr0, zr_shr1, zr_shr2, zr_shr3, zr_shr4, zr_and, zr_dyn8, zr_or, zr_shl, q_cpy_n, y_cpy26, c_X5_isStone, sp_isStone, c_X5_isBuilding, sp_isBuilding, c2, if_false]
      exact q_ans (hq M q_tq_rf) (by first | (rw [E_asks_n (by omega)]; done) | (rw [E_asks_y (by omega) (by omega) (by omega)]))
  · rw [s_X5_asks]
    by_cases c5 : part < 0
    · simp (disch := omega) only [b_X5_asks_0, x_loadI_1, y_if_lt_t, y_if_lt_f, b_X5_asks_4, x_iconst, y_ic_ge_t, y_ic_ge_f, b_X5_asks_9, x_loadR_0, x_loadS_0, x_loadI_2, y_if_eq_t, y_if_eq_f, b_X5_asks_17, x_loadI_3, y_ic_eq_t, y_ic_eq_f, b_X5_asks_22, y_if_ne_t, y_if_ne_f, b_X5_asks_29, x_ret0, b_X5_asks_33, f_5_3, y_ic_ne_t, y_ic_ne_f, b_X5_asks_44, x_goto, b_X5_asks_48, b_X5_asks_49, q_isL_I, q_isL_R, q_isL_S, true_and, and_true, and_self, List.length_nil, List.length_cons, Nat.zero_add, x_K, x_Kn, Int.reduceToNat, Nat.reduceAdd, Nat.reduceMul, Nat.reduceLeDiff, Nat.reduceLT, Nat.zero_le, Int.reduceAdd, Int.reduceSub, Int.reduceMul, Int.reduceNeg, q_add_e, q_sub_e, q_mul_e, q_neg_e, q_upd_s, q_upd_n, zr_shr0, zr_shr1, zr_shr2, zr_shr3, zr_shr4, zr_and, zr_dyn8, zr_or, zr_shl, q_cpy_n, y_cpy26, c_X5_isStone, sp_isStone, c_X5_isBuilding, sp_isBuilding]
      exact q_ans (hq M q_tq_rf) (by first | (rw [E_asks_n (by omega)]; done) | (rw [E_asks_y (by omega) (by omega) (by omega)]))
    · simp (disch := omega) only [b_X5_asks_0, x_loadI_1, y_if_lt_t, y_if_lt_f, b_X5_asks_4, x_iconst, y_ic_ge_t, y_ic_ge_f, b_X5_asks_9, x_loadR_0, x_loadS_0, x_loadI_2, y_if_eq_t, y_if_eq_f, b_X5_asks_17, x_loadI_3, y_ic_eq_t, y_ic_eq_f, b_X5_asks_22, y_if_ne_t, y_if_ne_f, b_X5_asks_29, x_ret0, b_X5_asks_33, f_5_3, y_ic_ne_t, y_ic_ne_f, b_X5_asks_44, x_goto, b_X5_asks_48, b_X5_asks_49, q_isL_I, q_isL_R, q_isL_S, true_and, and_true, and_self, List.length_nil, List.length_cons, Nat.zero_add, x_K, x_Kn, Int.reduceToNat, Nat.reduceAdd, Nat.reduceMul, Nat.reduceLeDiff, Nat.reduceLT, Nat.zero_le, Int.reduceAdd, Int.reduceSub, Int.reduceMul, Int.reduceNeg, q_add_e, q_sub_e, q_mul_e, q_neg_e, q_upd_s, q_upd_n, zr_shr0, zr_shr1, zr_shr2, zr_shr3, zr_shr4, zr_and, zr_dyn8, zr_or, zr_shl, q_cpy_n, y_cpy26, c_X5_isStone, sp_isStone, c_X5_isBuilding, sp_isBuilding]
      exact q_ans (hq M q_tq_rf) (by first | (rw [E_asks_n (by omega)]; done) | (rw [E_asks_y (by omega) (by omega) (by omega)]))
set_option maxHeartbeats 4000000 in
theorem mz_asks {Vt : Nat → Nat → (Nat → Int) → Int} {d tm : Nat} {g : q_G} {M : q_M} {pt p b : Int} {Q : Option q_V → q_G → q_M → Prop} (hI : q_MI Vt tm M) (hq : ∀ M2 : q_M, q_mq M M2 → Q (some (qI (E_asks (q_Vr Vt M) (mW M) pt p b))) g M2) : q_S 1 (d + 10) 138 [qR 6 100, qI pt, qI p, qI b] g M Q := by
  have e9 : mW M 9 0 = M 100 0 := rfl
  have n0 := hI.1.1
  rw [s_X6_asks]
  have hm := (q_MI_mi hI).1
  by_cases c1 : 0 ≤ pt ∧ pt ≤ 2
  · by_cases c2 : 0 ≤ p ∧ p ≤ M 100 0 - 1
    · by_cases c3 : -1 ≤ b ∧ b ≤ 4
      · obtain ⟨P, rfl⟩ : ∃ P : Nat, pt = P := ⟨pt.toNat, by omega⟩
        obtain ⟨N, rfl⟩ : ∃ N : Nat, p = N := ⟨p.toNat, by omega⟩
        have ak : ∀ (nx : Nat) (ops : List Instr) (ls st : List q_V), (∀ M2 : q_M, q_mf M M2 → q_T 1 (d + 10) qP_X6_asks nx ops ls (qI (F_says (q_Vr Vt M) (mW M) P N (if b = -1 then 5 else b.toNat)) :: st) g M2 Q) → q_S 1 (d + 9) 137 [qR 6 100, qI P, qI N, qI b] g M (q_K 1 (d + 10) qP_X6_asks nx ops ls st Q) := fun nx ops ls st h => mp_asks hm (by omega) (by omega) (by omega) (fun M2 h2 => h M2 h2)
        simp (disch := omega) only [b_X6_asks_0, x_loadI_1, x_iconst, y_if_eq_t, y_if_eq_f, b_X6_asks_9, x_loadR_0, x_loadS_0, x_loadI_2, b_X6_asks_17, x_loadI_3, b_X6_asks_26, x_goto, b_X6_asks_36, b_X6_asks_39, x_ret0, q_isL_I, q_isL_R, q_isL_S, true_and, and_true, and_self, List.length_nil, List.length_cons, Nat.zero_add, x_K, x_Kn, Int.reduceToNat, Nat.reduceAdd, Nat.reduceMul, Nat.reduceLeDiff, Nat.reduceLT, Nat.zero_le, Int.reduceAdd, Int.reduceSub, Int.reduceMul, Int.reduceNeg, q_add_e, q_sub_e, q_mul_e, q_neg_e, q_upd_s, q_upd_n, zr_shr0, zr_shr1, zr_shr2, zr_shr3, zr_shr4, zr_and, zr_dyn8, zr_or, zr_shl, q_cpy_n, y_cpy26, c_X6_in, mp_in, c1, c_X6_isStone, mp_isStone, c2, c3, and_self, if_true, c_X6_asksOf]
        refine ak _ _ _ _ (fun M2 h2 => ?_)
        simp (disch := omega) only [b_X6_asks_0, x_loadI_1, x_iconst, y_if_eq_t, y_if_eq_f, b_X6_asks_9, x_loadR_0, x_loadS_0, x_loadI_2, b_X6_asks_17, x_loadI_3, b_X6_asks_26, x_goto, b_X6_asks_36, b_X6_asks_39, x_ret0, q_isL_I, q_isL_R, q_isL_S, true_and, and_true, and_self, List.length_nil, List.length_cons, Nat.zero_add, x_K, x_Kn, Int.reduceToNat, Nat.reduceAdd, Nat.reduceMul, Nat.reduceLeDiff, Nat.reduceLT, Nat.zero_le, Int.reduceAdd, Int.reduceSub, Int.reduceMul, Int.reduceNeg, q_add_e, q_sub_e, q_mul_e, q_neg_e, q_upd_s, q_upd_n, zr_shr0, zr_shr1, zr_shr2, zr_shr3, zr_shr4, zr_and, zr_dyn8, zr_or, zr_shl, q_cpy_n, y_cpy26]
        exact q_ans (hq _ (q_mq_mf h2)) (by first | (rw [E_asks_n (by omega)]; done) | (rw [E_asks_y (by omega) (by omega) (by omega)]))
      · simp (disch := omega) only [b_X6_asks_0, x_loadI_1, x_iconst, y_if_eq_t, y_if_eq_f, b_X6_asks_9, x_loadR_0, x_loadS_0, x_loadI_2, b_X6_asks_17, x_loadI_3, b_X6_asks_26, x_goto, b_X6_asks_36, b_X6_asks_39, x_ret0, q_isL_I, q_isL_R, q_isL_S, true_and, and_true, and_self, List.length_nil, List.length_cons, Nat.zero_add, x_K, x_Kn, Int.reduceToNat, Nat.reduceAdd, Nat.reduceMul, Nat.reduceLeDiff, Nat.reduceLT, Nat.zero_le, Int.reduceAdd, Int.reduceSub, Int.reduceMul, Int.reduceNeg, q_add_e, q_sub_e, q_mul_e, q_neg_e, q_upd_s, q_upd_n, zr_shr0, zr_shr1, zr_shr2, zr_shr3, zr_shr4, zr_and, zr_dyn8, zr_or, zr_shl, q_cpy_n, y_cpy26, c_X6_in, mp_in, c1, c_X6_isStone, mp_isStone, c2, c3, and_self, if_true, if_false]
        exact q_ans (hq _ q_mq_rf) (by first | (rw [E_asks_n (by omega)]; done) | (rw [E_asks_y (by omega) (by omega) (by omega)]))
    · simp (disch := omega) only [b_X6_asks_0, x_loadI_1, x_iconst, y_if_eq_t, y_if_eq_f, b_X6_asks_9, x_loadR_0, x_loadS_0, x_loadI_2, b_X6_asks_17, x_loadI_3, b_X6_asks_26, x_goto, b_X6_asks_36, b_X6_asks_39, x_ret0, q_isL_I, q_isL_R, q_isL_S, true_and, and_true, and_self, List.length_nil, List.length_cons, Nat.zero_add, x_K, x_Kn, Int.reduceToNat, Nat.reduceAdd, Nat.reduceMul, Nat.reduceLeDiff, Nat.reduceLT, Nat.zero_le, Int.reduceAdd, Int.reduceSub, Int.reduceMul, Int.reduceNeg, q_add_e, q_sub_e, q_mul_e, q_neg_e, q_upd_s, q_upd_n, zr_shr0, zr_shr1, zr_shr2, zr_shr3, zr_shr4, zr_and, zr_dyn8, zr_or, zr_shl, q_cpy_n, y_cpy26, c_X6_in, mp_in, c1, c_X6_isStone, mp_isStone, c2, and_self, if_true, if_false]
      exact q_ans (hq _ q_mq_rf) (by first | (rw [E_asks_n (by omega)]; done) | (rw [E_asks_y (by omega) (by omega) (by omega)]))
  · simp (disch := omega) only [b_X6_asks_0, x_loadI_1, x_iconst, y_if_eq_t, y_if_eq_f, b_X6_asks_9, x_loadR_0, x_loadS_0, x_loadI_2, b_X6_asks_17, x_loadI_3, b_X6_asks_26, x_goto, b_X6_asks_36, b_X6_asks_39, x_ret0, q_isL_I, q_isL_R, q_isL_S, true_and, and_true, and_self, List.length_nil, List.length_cons, Nat.zero_add, x_K, x_Kn, Int.reduceToNat, Nat.reduceAdd, Nat.reduceMul, Nat.reduceLeDiff, Nat.reduceLT, Nat.zero_le, Int.reduceAdd, Int.reduceSub, Int.reduceMul, Int.reduceNeg, q_add_e, q_sub_e, q_mul_e, q_neg_e, q_upd_s, q_upd_n, zr_shr0, zr_shr1, zr_shr2, zr_shr3, zr_shr4, zr_and, zr_dyn8, zr_or, zr_shl, q_cpy_n, y_cpy26, c_X6_in, mp_in, c1, if_false]
    exact q_ans (hq _ q_mq_rf) (by first | (rw [E_asks_n (by omega)]; done) | (rw [E_asks_y (by omega) (by omega) (by omega)]))
set_option maxHeartbeats 4000000 in
theorem cy_site {Vt : Nat → Nat → (Nat → Int) → Int} {d tm l sl : Nat} {g : q_G} {M : q_M} {b wt : Int} {Q : Option q_V → q_G → q_M → Prop} (C : q_XI Vt tm l sl M) (hq : ∀ M2 : q_M, q_tq M M2 → Q (some (qI (E_site (cW M 11) b wt))) g M2) : q_S 1 (d + 50) 65 [qR 5 0, qI b, qI wt] g M Q := by
  have e9 : cW M 11 9 0 = M 12 5 := rfl
  have T := C.1
  have c := C.2.2.1
  have w := c.2.1
  have n5 := q_ci_n c
  have tas := c.1
  by_cases c1 : 0 ≤ b ∧ b < 5
  · obtain ⟨B, rfl⟩ : ∃ B : Nat, b = B := ⟨b.toNat, by omega⟩
    rw [sp_site (d := d + 49) (by omega) n5.1 n5.2]
    exact q_ans (hq M q_tq_rf) (by unfold E_site; first | (rw [if_neg (by omega)]; done) | (rw [if_pos (by omega), Int.toNat_natCast]))
  · exact sp_siteF (d := d + 49) c1 (q_ans (hq M q_tq_rf) (by unfold E_site; first | (rw [if_neg (by omega)]; done) | (rw [if_pos (by omega), Int.toNat_natCast])))
set_option maxHeartbeats 4000000 in
theorem mz_site {Vt : Nat → Nat → (Nat → Int) → Int} {d tm : Nat} {g : q_G} {M : q_M} {b w : Int} {Q : Option q_V → q_G → q_M → Prop} (hI : q_MI Vt tm M) (hq : ∀ M2 : q_M, q_mq M M2 → Q (some (qI (E_site (mW M) b w))) g M2) : q_S 1 (d + 10) 120 [qR 6 100, qI b, qI w] g M Q := by
  have e9 : mW M 9 0 = M 100 0 := rfl
  have n0 := hI.1.1
  rw [s_X6_site]
  by_cases c : 0 ≤ b ∧ b ≤ 4
  · obtain ⟨B, rfl⟩ : ∃ B : Nat, b = B := ⟨b.toNat, by omega⟩
    have g5 : mW M 5 B = M 103 (4 * B) := if_pos (show B < 5 by omega)
    have g6 : mW M 6 B = M 103 (4 * B + 1) := if_pos (show B < 5 by omega)
    have g7 : mW M 7 B = M 103 (4 * B + 2) := if_pos (show B < 5 by omega)
    have g8 : mW M 8 B = M 103 (4 * B + 3) := if_pos (show B < 5 by omega)
    have u0 : (4 * (B : Int)).toNat = 4 * B := by omega
    have u1 : (4 * (B : Int) + 1).toNat = 4 * B + 1 := by omega
    have u2 : (4 * (B : Int) + 2).toNat = 4 * B + 2 := by omega
    have u3 : (4 * (B : Int) + 3).toNat = 4 * B + 3 := by omega
    have g4 : F_bits (mW M 4) B (F_n (mW M)) = F_bits (mIn M) B (M 100 0).toNat := F_bits_cong _ (fun k hk => if_pos hk)
    have n0a := n0.1
    have n0b := n0.2
    by_cases c2 : w = 4
    · subst c2
      simp (disch := omega) only [b_X6_site_0, x_loadI_1, y_if_ne_t, y_if_ne_f, b_X6_site_7, x_iconst, x_ret0, b_X6_site_10, x_loadI_2, y_ic_ne_t, y_ic_ne_f, b_X6_site_15, x_loadR_0, x_loadS_0, x_goto, b_X6_site_23, y_if_eq_t, y_if_eq_f, b_X6_site_32, f_6_3, x_imul, x_iadd, y_iald_40, b_X6_site_45, b_X6_site_47, q_isL_I, q_isL_R, q_isL_S, true_and, and_true, and_self, List.length_nil, List.length_cons, Nat.zero_add, x_K, x_Kn, Int.reduceToNat, Nat.reduceAdd, Nat.reduceMul, Nat.reduceLeDiff, Nat.reduceLT, Nat.zero_le, Int.reduceAdd, Int.reduceSub, Int.reduceMul, Int.reduceNeg, q_add_e, q_sub_e, q_mul_e, q_neg_e, q_upd_s, q_upd_n, zr_shr0, zr_shr1, zr_shr2, zr_shr3, zr_shr4, zr_and, zr_dyn8, zr_or, zr_shl, q_cpy_n, y_cpy26, c_X6_isSite, mp_isSite, c, and_self, if_true, c_X6_whoIn, mp_whoIn]
      exact q_ans (hq _ q_mq_rf) (by unfold E_site; first | (rw [if_neg (by omega)]; done) | (rw [if_pos (by omega), Int.toNat_natCast]; unfold F_site; first | (simp [g5, g6, g7, g8, g4]; done) | (rcases (show w = 0 ∨ w = 1 ∨ w = 2 ∨ w = 3 by omega) with z | z | z | z <;> (subst z; simp [g5, g6, g7, g8, u0, u1, u2, u3]; done)) | (rw [if_neg (by omega), if_neg (by omega), if_neg (by omega), if_neg (by omega), if_neg (by omega)])))
    · by_cases c3 : 0 ≤ w ∧ w ≤ 3
      · simp (disch := omega) only [b_X6_site_0, x_loadI_1, y_if_ne_t, y_if_ne_f, b_X6_site_7, x_iconst, x_ret0, b_X6_site_10, x_loadI_2, y_ic_ne_t, y_ic_ne_f, b_X6_site_15, x_loadR_0, x_loadS_0, x_goto, b_X6_site_23, y_if_eq_t, y_if_eq_f, b_X6_site_32, f_6_3, x_imul, x_iadd, y_iald_40, b_X6_site_45, b_X6_site_47, q_isL_I, q_isL_R, q_isL_S, true_and, and_true, and_self, List.length_nil, List.length_cons, Nat.zero_add, x_K, x_Kn, Int.reduceToNat, Nat.reduceAdd, Nat.reduceMul, Nat.reduceLeDiff, Nat.reduceLT, Nat.zero_le, Int.reduceAdd, Int.reduceSub, Int.reduceMul, Int.reduceNeg, q_add_e, q_sub_e, q_mul_e, q_neg_e, q_upd_s, q_upd_n, zr_shr0, zr_shr1, zr_shr2, zr_shr3, zr_shr4, zr_and, zr_dyn8, zr_or, zr_shl, q_cpy_n, y_cpy26, c_X6_isSite, mp_isSite, c, c_X6_in, mp_in, c3, and_self, if_true]
        exact q_ans (hq _ q_mq_rf) (by unfold E_site; first | (rw [if_neg (by omega)]; done) | (rw [if_pos (by omega), Int.toNat_natCast]; unfold F_site; first | (simp [g5, g6, g7, g8, g4]; done) | (rcases (show w = 0 ∨ w = 1 ∨ w = 2 ∨ w = 3 by omega) with z | z | z | z <;> (subst z; simp [g5, g6, g7, g8, u0, u1, u2, u3]; done)) | (rw [if_neg (by omega), if_neg (by omega), if_neg (by omega), if_neg (by omega), if_neg (by omega)])))
      · simp (disch := omega) only [b_X6_site_0, x_loadI_1, y_if_ne_t, y_if_ne_f, b_X6_site_7, x_iconst, x_ret0, b_X6_site_10, x_loadI_2, y_ic_ne_t, y_ic_ne_f, b_X6_site_15, x_loadR_0, x_loadS_0, x_goto, b_X6_site_23, y_if_eq_t, y_if_eq_f, b_X6_site_32, f_6_3, x_imul, x_iadd, y_iald_40, b_X6_site_45, b_X6_site_47, q_isL_I, q_isL_R, q_isL_S, true_and, and_true, and_self, List.length_nil, List.length_cons, Nat.zero_add, x_K, x_Kn, Int.reduceToNat, Nat.reduceAdd, Nat.reduceMul, Nat.reduceLeDiff, Nat.reduceLT, Nat.zero_le, Int.reduceAdd, Int.reduceSub, Int.reduceMul, Int.reduceNeg, q_add_e, q_sub_e, q_mul_e, q_neg_e, q_upd_s, q_upd_n, zr_shr0, zr_shr1, zr_shr2, zr_shr3, zr_shr4, zr_and, zr_dyn8, zr_or, zr_shl, q_cpy_n, y_cpy26, c_X6_isSite, mp_isSite, c, c_X6_in, mp_in, c3, and_self, if_true, if_false]
        exact q_ans (hq _ q_mq_rf) (by unfold E_site; first | (rw [if_neg (by omega)]; done) | (rw [if_pos (by omega), Int.toNat_natCast]; unfold F_site; first | (simp [g5, g6, g7, g8, g4]; done) | (rcases (show w = 0 ∨ w = 1 ∨ w = 2 ∨ w = 3 by omega) with z | z | z | z <;> (subst z; simp [g5, g6, g7, g8, u0, u1, u2, u3]; done)) | (rw [if_neg (by omega), if_neg (by omega), if_neg (by omega), if_neg (by omega), if_neg (by omega)])))
  · simp (disch := omega) only [b_X6_site_0, x_loadI_1, y_if_ne_t, y_if_ne_f, b_X6_site_7, x_iconst, x_ret0, b_X6_site_10, x_loadI_2, y_ic_ne_t, y_ic_ne_f, b_X6_site_15, x_loadR_0, x_loadS_0, x_goto, b_X6_site_23, y_if_eq_t, y_if_eq_f, b_X6_site_32, f_6_3, x_imul, x_iadd, y_iald_40, b_X6_site_45, b_X6_site_47, q_isL_I, q_isL_R, q_isL_S, true_and, and_true, and_self, List.length_nil, List.length_cons, Nat.zero_add, x_K, x_Kn, Int.reduceToNat, Nat.reduceAdd, Nat.reduceMul, Nat.reduceLeDiff, Nat.reduceLT, Nat.zero_le, Int.reduceAdd, Int.reduceSub, Int.reduceMul, Int.reduceNeg, q_add_e, q_sub_e, q_mul_e, q_neg_e, q_upd_s, q_upd_n, zr_shr0, zr_shr1, zr_shr2, zr_shr3, zr_shr4, zr_and, zr_dyn8, zr_or, zr_shl, q_cpy_n, y_cpy26, c_X6_isSite, mp_isSite, c, if_false]
    exact q_ans (hq _ q_mq_rf) (by unfold E_site; first | (rw [if_neg (by omega)]; done) | (rw [if_pos (by omega), Int.toNat_natCast]; unfold F_site; first | (simp [g5, g6, g7, g8, g4]; done) | (rcases (show w = 0 ∨ w = 1 ∨ w = 2 ∨ w = 3 by omega) with z | z | z | z <;> (subst z; simp [g5, g6, g7, g8, u0, u1, u2, u3]; done)) | (rw [if_neg (by omega), if_neg (by omega), if_neg (by omega), if_neg (by omega), if_neg (by omega)])))
set_option maxHeartbeats 4000000 in
theorem cy_taken {Vt : Nat → Nat → (Nat → Int) → Int} {d tm l sl : Nat} {g : q_G} {M : q_M} {i k : Int} {Q : Option q_V → q_G → q_M → Prop} (C : q_XI Vt tm l sl M) (hq : ∀ M2 : q_M, q_tq M M2 → Q (some (qI (A_taken (cW M 11) i k))) g M2) : q_S 1 (d + 50) 97 [qR 5 0, qI i, qI k] g M Q := by
  have e9 : cW M 11 9 0 = M 12 5 := rfl
  have T := C.1
  have c := C.2.2.1
  have w := c.2.1
  have n5 := q_ci_n c
  have tas := c.1
  exact sp_taken (d := d + 49) n5.1 n5.2 (q_ans (hq M q_tq_rf) rfl)
set_option maxHeartbeats 4000000 in
theorem mz_taken {Vt : Nat → Nat → (Nat → Int) → Int} {d tm : Nat} {g : q_G} {M : q_M} {i k : Int} {Q : Option q_V → q_G → q_M → Prop} (hI : q_MI Vt tm M) (hq : ∀ M2 : q_M, q_mq M M2 → Q (some (qI (A_taken (mW M) i k))) g M2) : q_S 1 (d + 11) 198 [qR 6 100, qI i, qI k] g M Q := by
  have e9 : mW M 9 0 = M 100 0 := rfl
  have n0 := hI.1.1
  rw [s_X6_taken]
  by_cases c1 : 0 ≤ k ∧ k ≤ 6
  · by_cases c2 : 0 ≤ i ∧ i ≤ 9
    · obtain ⟨I, rfl⟩ : ∃ I : Nat, i = I := ⟨i.toNat, by omega⟩
      by_cases c3 : 5 ≤ I
      · by_cases c4 : k = 6
        · have g8 : mW M 8 (I - 5) = M 103 (4 * (I - 5) + 3) := if_pos (show I - 5 < 5 by omega)
          simp (disch := omega) only [b_X6_taken_0, x_loadI_2, x_iconst, y_if_ne_t, y_if_ne_f, b_X6_taken_10, x_ret0, b_X6_taken_13, x_loadI_1, b_X6_taken_23, b_X6_taken_26, y_ic_lt_t, y_ic_lt_f, b_X6_taken_31, y_ic_ne_t, y_ic_ne_f, b_X6_taken_37, x_loadR_0, x_loadS_0, f_6_3, x_isub, x_imul, x_iadd, y_iald_25, y_iald_40, x_goto, b_X6_taken_52, b_X6_taken_54, b_X6_taken_55, f_6_0, b_X6_taken_63, b_X6_taken_68, y_ic_ge_t, y_ic_ge_f, b_X6_taken_74, f_6_1, y_if_eq_t, y_if_eq_f, b_X6_taken_87, b_X6_taken_91, b_X6_taken_93, q_isL_I, q_isL_R, q_isL_S, true_and, and_true, and_self, List.length_nil, List.length_cons, Nat.zero_add, x_K, x_Kn, Int.reduceToNat, Nat.reduceAdd, Nat.reduceMul, Nat.reduceLeDiff, Nat.reduceLT, Nat.zero_le, Int.reduceAdd, Int.reduceSub, Int.reduceMul, Int.reduceNeg, q_add_e, q_sub_e, q_mul_e, q_neg_e, q_upd_s, q_upd_n, zr_shr0, zr_shr1, zr_shr2, zr_shr3, zr_shr4, zr_and, zr_dyn8, zr_or, zr_shl, q_cpy_n, y_cpy26, c_X6_in, mp_in, c1, c2, and_self, if_true]
          exact q_ans (hq _ q_mq_rf) (by unfold A_taken; first | (rw [if_pos (by omega)]; done) | (rw [if_neg (by omega), if_pos (by omega)]; done) | (rw [if_neg (by omega), if_neg (by omega), if_pos (by omega), if_pos (by omega), show ((I : Int) - 5).toNat = I - 5 by omega, g8, show (4 * ((I : Int) - 5) + 3).toNat = 4 * (I - 5) + 3 by omega]; done) | (rw [if_neg (by omega), if_neg (by omega), if_pos (by omega), if_neg (by omega)]; done) | (rw [if_neg (by omega), if_neg (by omega), if_neg (by omega), if_pos (by omega)]; done) | (rw [if_neg (by omega), if_neg (by omega), if_neg (by omega), if_neg (by omega), Int.toNat_natCast, g0, if_pos ⟨by omega, c6⟩]; done) | (rw [if_neg (by omega), if_neg (by omega), if_neg (by omega), if_neg (by omega), Int.toNat_natCast, g0, if_neg (fun z => c6 z.2)]; done) | (rw [if_neg (by omega), if_neg (by omega), if_neg (by omega), if_neg (by omega), if_neg (fun z => z.1 (by omega))]))
        · simp (disch := omega) only [b_X6_taken_0, x_loadI_2, x_iconst, y_if_ne_t, y_if_ne_f, b_X6_taken_10, x_ret0, b_X6_taken_13, x_loadI_1, b_X6_taken_23, b_X6_taken_26, y_ic_lt_t, y_ic_lt_f, b_X6_taken_31, y_ic_ne_t, y_ic_ne_f, b_X6_taken_37, x_loadR_0, x_loadS_0, f_6_3, x_isub, x_imul, x_iadd, y_iald_25, y_iald_40, x_goto, b_X6_taken_52, b_X6_taken_54, b_X6_taken_55, f_6_0, b_X6_taken_63, b_X6_taken_68, y_ic_ge_t, y_ic_ge_f, b_X6_taken_74, f_6_1, y_if_eq_t, y_if_eq_f, b_X6_taken_87, b_X6_taken_91, b_X6_taken_93, q_isL_I, q_isL_R, q_isL_S, true_and, and_true, and_self, List.length_nil, List.length_cons, Nat.zero_add, x_K, x_Kn, Int.reduceToNat, Nat.reduceAdd, Nat.reduceMul, Nat.reduceLeDiff, Nat.reduceLT, Nat.zero_le, Int.reduceAdd, Int.reduceSub, Int.reduceMul, Int.reduceNeg, q_add_e, q_sub_e, q_mul_e, q_neg_e, q_upd_s, q_upd_n, zr_shr0, zr_shr1, zr_shr2, zr_shr3, zr_shr4, zr_and, zr_dyn8, zr_or, zr_shl, q_cpy_n, y_cpy26, c_X6_in, mp_in, c1, c2, and_self, if_true]
          exact q_ans (hq _ q_mq_rf) (by unfold A_taken; first | (rw [if_pos (by omega)]; done) | (rw [if_neg (by omega), if_pos (by omega)]; done) | (rw [if_neg (by omega), if_neg (by omega), if_pos (by omega), if_pos (by omega), show ((I : Int) - 5).toNat = I - 5 by omega, g8, show (4 * ((I : Int) - 5) + 3).toNat = 4 * (I - 5) + 3 by omega]; done) | (rw [if_neg (by omega), if_neg (by omega), if_pos (by omega), if_neg (by omega)]; done) | (rw [if_neg (by omega), if_neg (by omega), if_neg (by omega), if_pos (by omega)]; done) | (rw [if_neg (by omega), if_neg (by omega), if_neg (by omega), if_neg (by omega), Int.toNat_natCast, g0, if_pos ⟨by omega, c6⟩]; done) | (rw [if_neg (by omega), if_neg (by omega), if_neg (by omega), if_neg (by omega), Int.toNat_natCast, g0, if_neg (fun z => c6 z.2)]; done) | (rw [if_neg (by omega), if_neg (by omega), if_neg (by omega), if_neg (by omega), if_neg (fun z => z.1 (by omega))]))
      · by_cases c4 : (I : Int) < M 100 0
        · have g0 : mW M 0 I = M 101 I := if_pos (show I < (M 100 0).toNat by omega)
          by_cases c5 : k < 6
          · by_cases c6 : F_und (M 101 I) k = true
            · simp (disch := omega) only [b_X6_taken_0, x_loadI_2, x_iconst, y_if_ne_t, y_if_ne_f, b_X6_taken_10, x_ret0, b_X6_taken_13, x_loadI_1, b_X6_taken_23, b_X6_taken_26, y_ic_lt_t, y_ic_lt_f, b_X6_taken_31, y_ic_ne_t, y_ic_ne_f, b_X6_taken_37, x_loadR_0, x_loadS_0, f_6_3, x_isub, x_imul, x_iadd, y_iald_25, y_iald_40, x_goto, b_X6_taken_52, b_X6_taken_54, b_X6_taken_55, f_6_0, b_X6_taken_63, b_X6_taken_68, y_ic_ge_t, y_ic_ge_f, b_X6_taken_74, f_6_1, y_if_eq_t, y_if_eq_f, b_X6_taken_87, b_X6_taken_91, b_X6_taken_93, q_isL_I, q_isL_R, q_isL_S, true_and, and_true, and_self, List.length_nil, List.length_cons, Nat.zero_add, x_K, x_Kn, Int.reduceToNat, Nat.reduceAdd, Nat.reduceMul, Nat.reduceLeDiff, Nat.reduceLT, Nat.zero_le, Int.reduceAdd, Int.reduceSub, Int.reduceMul, Int.reduceNeg, q_add_e, q_sub_e, q_mul_e, q_neg_e, q_upd_s, q_upd_n, zr_shr0, zr_shr1, zr_shr2, zr_shr3, zr_shr4, zr_and, zr_dyn8, zr_or, zr_shl, q_cpy_n, y_cpy26, c_X6_in, mp_in, c1, c2, and_self, if_true, Int.toNat_natCast, c_X6_isUnder, mp_isUnder, c6]
              exact q_ans (hq _ q_mq_rf) (by unfold A_taken; first | (rw [if_pos (by omega)]; done) | (rw [if_neg (by omega), if_pos (by omega)]; done) | (rw [if_neg (by omega), if_neg (by omega), if_pos (by omega), if_pos (by omega), show ((I : Int) - 5).toNat = I - 5 by omega, g8, show (4 * ((I : Int) - 5) + 3).toNat = 4 * (I - 5) + 3 by omega]; done) | (rw [if_neg (by omega), if_neg (by omega), if_pos (by omega), if_neg (by omega)]; done) | (rw [if_neg (by omega), if_neg (by omega), if_neg (by omega), if_pos (by omega)]; done) | (rw [if_neg (by omega), if_neg (by omega), if_neg (by omega), if_neg (by omega), Int.toNat_natCast, g0, if_pos ⟨by omega, c6⟩]; done) | (rw [if_neg (by omega), if_neg (by omega), if_neg (by omega), if_neg (by omega), Int.toNat_natCast, g0, if_neg (fun z => c6 z.2)]; done) | (rw [if_neg (by omega), if_neg (by omega), if_neg (by omega), if_neg (by omega), if_neg (fun z => z.1 (by omega))]))
            · simp (disch := omega) only [b_X6_taken_0, x_loadI_2, x_iconst, y_if_ne_t, y_if_ne_f, b_X6_taken_10, x_ret0, b_X6_taken_13, x_loadI_1, b_X6_taken_23, b_X6_taken_26, y_ic_lt_t, y_ic_lt_f, b_X6_taken_31, y_ic_ne_t, y_ic_ne_f, b_X6_taken_37, x_loadR_0, x_loadS_0, f_6_3, x_isub, x_imul, x_iadd, y_iald_25, y_iald_40, x_goto, b_X6_taken_52, b_X6_taken_54, b_X6_taken_55, f_6_0, b_X6_taken_63, b_X6_taken_68, y_ic_ge_t, y_ic_ge_f, b_X6_taken_74, f_6_1, y_if_eq_t, y_if_eq_f, b_X6_taken_87, b_X6_taken_91, b_X6_taken_93, q_isL_I, q_isL_R, q_isL_S, true_and, and_true, and_self, List.length_nil, List.length_cons, Nat.zero_add, x_K, x_Kn, Int.reduceToNat, Nat.reduceAdd, Nat.reduceMul, Nat.reduceLeDiff, Nat.reduceLT, Nat.zero_le, Int.reduceAdd, Int.reduceSub, Int.reduceMul, Int.reduceNeg, q_add_e, q_sub_e, q_mul_e, q_neg_e, q_upd_s, q_upd_n, zr_shr0, zr_shr1, zr_shr2, zr_shr3, zr_shr4, zr_and, zr_dyn8, zr_or, zr_shl, q_cpy_n, y_cpy26, c_X6_in, mp_in, c1, c2, and_self, if_true, Int.toNat_natCast, c_X6_isUnder, mp_isUnder, c6, Bool.false_eq_true, if_false]
              exact q_ans (hq _ q_mq_rf) (by unfold A_taken; first | (rw [if_pos (by omega)]; done) | (rw [if_neg (by omega), if_pos (by omega)]; done) | (rw [if_neg (by omega), if_neg (by omega), if_pos (by omega), if_pos (by omega), show ((I : Int) - 5).toNat = I - 5 by omega, g8, show (4 * ((I : Int) - 5) + 3).toNat = 4 * (I - 5) + 3 by omega]; done) | (rw [if_neg (by omega), if_neg (by omega), if_pos (by omega), if_neg (by omega)]; done) | (rw [if_neg (by omega), if_neg (by omega), if_neg (by omega), if_pos (by omega)]; done) | (rw [if_neg (by omega), if_neg (by omega), if_neg (by omega), if_neg (by omega), Int.toNat_natCast, g0, if_pos ⟨by omega, c6⟩]; done) | (rw [if_neg (by omega), if_neg (by omega), if_neg (by omega), if_neg (by omega), Int.toNat_natCast, g0, if_neg (fun z => c6 z.2)]; done) | (rw [if_neg (by omega), if_neg (by omega), if_neg (by omega), if_neg (by omega), if_neg (fun z => z.1 (by omega))]))
          · simp (disch := omega) only [b_X6_taken_0, x_loadI_2, x_iconst, y_if_ne_t, y_if_ne_f, b_X6_taken_10, x_ret0, b_X6_taken_13, x_loadI_1, b_X6_taken_23, b_X6_taken_26, y_ic_lt_t, y_ic_lt_f, b_X6_taken_31, y_ic_ne_t, y_ic_ne_f, b_X6_taken_37, x_loadR_0, x_loadS_0, f_6_3, x_isub, x_imul, x_iadd, y_iald_25, y_iald_40, x_goto, b_X6_taken_52, b_X6_taken_54, b_X6_taken_55, f_6_0, b_X6_taken_63, b_X6_taken_68, y_ic_ge_t, y_ic_ge_f, b_X6_taken_74, f_6_1, y_if_eq_t, y_if_eq_f, b_X6_taken_87, b_X6_taken_91, b_X6_taken_93, q_isL_I, q_isL_R, q_isL_S, true_and, and_true, and_self, List.length_nil, List.length_cons, Nat.zero_add, x_K, x_Kn, Int.reduceToNat, Nat.reduceAdd, Nat.reduceMul, Nat.reduceLeDiff, Nat.reduceLT, Nat.zero_le, Int.reduceAdd, Int.reduceSub, Int.reduceMul, Int.reduceNeg, q_add_e, q_sub_e, q_mul_e, q_neg_e, q_upd_s, q_upd_n, zr_shr0, zr_shr1, zr_shr2, zr_shr3, zr_shr4, zr_and, zr_dyn8, zr_or, zr_shl, q_cpy_n, y_cpy26, c_X6_in, mp_in, c1, c2, and_self, if_true]
            exact q_ans (hq _ q_mq_rf) (by unfold A_taken; first | (rw [if_pos (by omega)]; done) | (rw [if_neg (by omega), if_pos (by omega)]; done) | (rw [if_neg (by omega), if_neg (by omega), if_pos (by omega), if_pos (by omega), show ((I : Int) - 5).toNat = I - 5 by omega, g8, show (4 * ((I : Int) - 5) + 3).toNat = 4 * (I - 5) + 3 by omega]; done) | (rw [if_neg (by omega), if_neg (by omega), if_pos (by omega), if_neg (by omega)]; done) | (rw [if_neg (by omega), if_neg (by omega), if_neg (by omega), if_pos (by omega)]; done) | (rw [if_neg (by omega), if_neg (by omega), if_neg (by omega), if_neg (by omega), Int.toNat_natCast, g0, if_pos ⟨by omega, c6⟩]; done) | (rw [if_neg (by omega), if_neg (by omega), if_neg (by omega), if_neg (by omega), Int.toNat_natCast, g0, if_neg (fun z => c6 z.2)]; done) | (rw [if_neg (by omega), if_neg (by omega), if_neg (by omega), if_neg (by omega), if_neg (fun z => z.1 (by omega))]))
        · simp (disch := omega) only [b_X6_taken_0, x_loadI_2, x_iconst, y_if_ne_t, y_if_ne_f, b_X6_taken_10, x_ret0, b_X6_taken_13, x_loadI_1, b_X6_taken_23, b_X6_taken_26, y_ic_lt_t, y_ic_lt_f, b_X6_taken_31, y_ic_ne_t, y_ic_ne_f, b_X6_taken_37, x_loadR_0, x_loadS_0, f_6_3, x_isub, x_imul, x_iadd, y_iald_25, y_iald_40, x_goto, b_X6_taken_52, b_X6_taken_54, b_X6_taken_55, f_6_0, b_X6_taken_63, b_X6_taken_68, y_ic_ge_t, y_ic_ge_f, b_X6_taken_74, f_6_1, y_if_eq_t, y_if_eq_f, b_X6_taken_87, b_X6_taken_91, b_X6_taken_93, q_isL_I, q_isL_R, q_isL_S, true_and, and_true, and_self, List.length_nil, List.length_cons, Nat.zero_add, x_K, x_Kn, Int.reduceToNat, Nat.reduceAdd, Nat.reduceMul, Nat.reduceLeDiff, Nat.reduceLT, Nat.zero_le, Int.reduceAdd, Int.reduceSub, Int.reduceMul, Int.reduceNeg, q_add_e, q_sub_e, q_mul_e, q_neg_e, q_upd_s, q_upd_n, zr_shr0, zr_shr1, zr_shr2, zr_shr3, zr_shr4, zr_and, zr_dyn8, zr_or, zr_shl, q_cpy_n, y_cpy26, c_X6_in, mp_in, c1, c2, and_self, if_true]
          exact q_ans (hq _ q_mq_rf) (by unfold A_taken; first | (rw [if_pos (by omega)]; done) | (rw [if_neg (by omega), if_pos (by omega)]; done) | (rw [if_neg (by omega), if_neg (by omega), if_pos (by omega), if_pos (by omega), show ((I : Int) - 5).toNat = I - 5 by omega, g8, show (4 * ((I : Int) - 5) + 3).toNat = 4 * (I - 5) + 3 by omega]; done) | (rw [if_neg (by omega), if_neg (by omega), if_pos (by omega), if_neg (by omega)]; done) | (rw [if_neg (by omega), if_neg (by omega), if_neg (by omega), if_pos (by omega)]; done) | (rw [if_neg (by omega), if_neg (by omega), if_neg (by omega), if_neg (by omega), Int.toNat_natCast, g0, if_pos ⟨by omega, c6⟩]; done) | (rw [if_neg (by omega), if_neg (by omega), if_neg (by omega), if_neg (by omega), Int.toNat_natCast, g0, if_neg (fun z => c6 z.2)]; done) | (rw [if_neg (by omega), if_neg (by omega), if_neg (by omega), if_neg (by omega), if_neg (fun z => z.1 (by omega))]))
    · simp (disch := omega) only [b_X6_taken_0, x_loadI_2, x_iconst, y_if_ne_t, y_if_ne_f, b_X6_taken_10, x_ret0, b_X6_taken_13, x_loadI_1, b_X6_taken_23, b_X6_taken_26, y_ic_lt_t, y_ic_lt_f, b_X6_taken_31, y_ic_ne_t, y_ic_ne_f, b_X6_taken_37, x_loadR_0, x_loadS_0, f_6_3, x_isub, x_imul, x_iadd, y_iald_25, y_iald_40, x_goto, b_X6_taken_52, b_X6_taken_54, b_X6_taken_55, f_6_0, b_X6_taken_63, b_X6_taken_68, y_ic_ge_t, y_ic_ge_f, b_X6_taken_74, f_6_1, y_if_eq_t, y_if_eq_f, b_X6_taken_87, b_X6_taken_91, b_X6_taken_93, q_isL_I, q_isL_R, q_isL_S, true_and, and_true, and_self, List.length_nil, List.length_cons, Nat.zero_add, x_K, x_Kn, Int.reduceToNat, Nat.reduceAdd, Nat.reduceMul, Nat.reduceLeDiff, Nat.reduceLT, Nat.zero_le, Int.reduceAdd, Int.reduceSub, Int.reduceMul, Int.reduceNeg, q_add_e, q_sub_e, q_mul_e, q_neg_e, q_upd_s, q_upd_n, zr_shr0, zr_shr1, zr_shr2, zr_shr3, zr_shr4, zr_and, zr_dyn8, zr_or, zr_shl, q_cpy_n, y_cpy26, c_X6_in, mp_in, c1, c2, and_self, if_true, if_false]
      exact q_ans (hq _ q_mq_rf) (by unfold A_taken; first | (rw [if_pos (by omega)]; done) | (rw [if_neg (by omega), if_pos (by omega)]; done) | (rw [if_neg (by omega), if_neg (by omega), if_pos (by omega), if_pos (by omega), show ((I : Int) - 5).toNat = I - 5 by omega, g8, show (4 * ((I : Int) - 5) + 3).toNat = 4 * (I - 5) + 3 by omega]; done) | (rw [if_neg (by omega), if_neg (by omega), if_pos (by omega), if_neg (by omega)]; done) | (rw [if_neg (by omega), if_neg (by omega), if_neg (by omega), if_pos (by omega)]; done) | (rw [if_neg (by omega), if_neg (by omega), if_neg (by omega), if_neg (by omega), Int.toNat_natCast, g0, if_pos ⟨by omega, c6⟩]; done) | (rw [if_neg (by omega), if_neg (by omega), if_neg (by omega), if_neg (by omega), Int.toNat_natCast, g0, if_neg (fun z => c6 z.2)]; done) | (rw [if_neg (by omega), if_neg (by omega), if_neg (by omega), if_neg (by omega), if_neg (fun z => z.1 (by omega))]))
  · simp (disch := omega) only [b_X6_taken_0, x_loadI_2, x_iconst, y_if_ne_t, y_if_ne_f, b_X6_taken_10, x_ret0, b_X6_taken_13, x_loadI_1, b_X6_taken_23, b_X6_taken_26, y_ic_lt_t, y_ic_lt_f, b_X6_taken_31, y_ic_ne_t, y_ic_ne_f, b_X6_taken_37, x_loadR_0, x_loadS_0, f_6_3, x_isub, x_imul, x_iadd, y_iald_25, y_iald_40, x_goto, b_X6_taken_52, b_X6_taken_54, b_X6_taken_55, f_6_0, b_X6_taken_63, b_X6_taken_68, y_ic_ge_t, y_ic_ge_f, b_X6_taken_74, f_6_1, y_if_eq_t, y_if_eq_f, b_X6_taken_87, b_X6_taken_91, b_X6_taken_93, q_isL_I, q_isL_R, q_isL_S, true_and, and_true, and_self, List.length_nil, List.length_cons, Nat.zero_add, x_K, x_Kn, Int.reduceToNat, Nat.reduceAdd, Nat.reduceMul, Nat.reduceLeDiff, Nat.reduceLT, Nat.zero_le, Int.reduceAdd, Int.reduceSub, Int.reduceMul, Int.reduceNeg, q_add_e, q_sub_e, q_mul_e, q_neg_e, q_upd_s, q_upd_n, zr_shr0, zr_shr1, zr_shr2, zr_shr3, zr_shr4, zr_and, zr_dyn8, zr_or, zr_shl, q_cpy_n, y_cpy26, c_X6_in, mp_in, c1, if_false]
    exact q_ans (hq _ q_mq_rf) (by unfold A_taken; first | (rw [if_pos (by omega)]; done) | (rw [if_neg (by omega), if_pos (by omega)]; done) | (rw [if_neg (by omega), if_neg (by omega), if_pos (by omega), if_pos (by omega), show ((I : Int) - 5).toNat = I - 5 by omega, g8, show (4 * ((I : Int) - 5) + 3).toNat = 4 * (I - 5) + 3 by omega]; done) | (rw [if_neg (by omega), if_neg (by omega), if_pos (by omega), if_neg (by omega)]; done) | (rw [if_neg (by omega), if_neg (by omega), if_neg (by omega), if_pos (by omega)]; done) | (rw [if_neg (by omega), if_neg (by omega), if_neg (by omega), if_neg (by omega), Int.toNat_natCast, g0, if_pos ⟨by omega, c6⟩]; done) | (rw [if_neg (by omega), if_neg (by omega), if_neg (by omega), if_neg (by omega), Int.toNat_natCast, g0, if_neg (fun z => c6 z.2)]; done) | (rw [if_neg (by omega), if_neg (by omega), if_neg (by omega), if_neg (by omega), if_neg (fun z => z.1 (by omega))]))

set_option maxHeartbeats 4000000 in
theorem cy_count {Vt : Nat → Nat → (Nat → Int) → Int} {d tm l sl : Nat} {g : q_G} {M : q_M} {wt : Int} {Q : Option q_V → q_G → q_M → Prop} (C : q_XI Vt tm l sl M) (hq : ∀ M2 : q_M, q_tq M M2 → Q (some (qI (E_count (cW M 11) tm l (M 1 1) wt))) g M2) : q_S 1 (d + 50) 62 [qR 5 0, qI wt] g M Q := by
  have T := C.1
  refine sp_count (d := d + 48) C.2.2.1.2.1 (q_ans (hq M q_tq_rf) ?_)
  have e : F_cnt (M (12 + 2)) 5 (M 12 5).toNat = F_cnt (cW M 11 4) 5 (F_n (cW M 11)) := F_cnt_cong _ (fun k hk => (if_pos hk).symm)
  unfold q_ctA E_count
  rw [e, T.2.2.1, (T.2.2.2 l C.2.1).2.1]
  rfl
set_option maxHeartbeats 4000000 in
theorem mz_count {Vt : Nat → Nat → (Nat → Int) → Int} {d tm : Nat} {g : q_G} {M : q_M} {w : Int} {Q : Option q_V → q_G → q_M → Prop} (hI : q_MI Vt tm M) (hq : ∀ M2 : q_M, q_mq M M2 → Q (some (qI (E_count (mW M) (M 100 10) (M 100 11) (M 100 7) w))) g M2) : q_S 1 (d + 10) 117 [qR 6 100, qI w] g M Q := by
  have e : F_cnt (mIn M) 5 (M 100 0).toNat = F_cnt (mW M 4) 5 (F_n (mW M)) := F_cnt_cong _ (fun k hk => (if_pos hk).symm)
  have e9 : mW M 9 0 = M 100 0 := rfl
  have e8 : mW M 9 1 = M 100 5 := rfl
  have n0 := hI.1.1
  rw [s_X6_count]
  have hin := hI.1.2.2.2.2.2.2.1
  have n0a := n0.1
  have n0b := n0.2
  rcases (show w < 0 ∨ w = 0 ∨ w = 1 ∨ w = 2 ∨ w = 3 ∨ w = 4 ∨ w = 5 ∨ 5 < w by omega) with k | k | k | k | k | k | k | k
  · rw [b_X6_count_0, x_loadI_1]
    rw [y_tsw_o (Or.inl k)]
    simp (disch := omega) only [b_X6_count_0, x_loadI_1, tw_8_0, tw_8_1, tw_8_2, tw_8_3, tw_8_4, tw_8_5, tw_8_o, b_X6_count_40, x_loadR_0, x_loadS_0, f_6_0, x_ret0, b_X6_count_45, f_6_5, b_X6_count_50, b_X6_count_55, f_6_10, b_X6_count_60, f_6_11, b_X6_count_65, f_6_7, b_X6_count_70, x_iconst, q_isL_I, q_isL_R, q_isL_S, true_and, and_true, and_self, List.length_nil, List.length_cons, Nat.zero_add, x_K, x_Kn, Int.reduceToNat, Nat.reduceAdd, Nat.reduceMul, Nat.reduceLeDiff, Nat.reduceLT, Nat.zero_le, Int.reduceAdd, Int.reduceSub, Int.reduceMul, Int.reduceNeg, q_add_e, q_sub_e, q_mul_e, q_neg_e, q_upd_s, q_upd_n, zr_shr0, zr_shr1, zr_shr2, zr_shr3, zr_shr4, zr_and, zr_dyn8, zr_or, zr_shl, q_cpy_n, y_cpy26]
    exact q_ans (hq _ q_mq_rf) (by unfold E_count; first | (simp [e, e9, e8]; done) | (rw [if_neg (show ¬w = 0 by omega), if_neg (show ¬w = 1 by omega), if_neg (show ¬w = 2 by omega), if_neg (show ¬w = 3 by omega), if_neg (show ¬w = 4 by omega), if_neg (show ¬w = 5 by omega)]))
  · subst k
    simp (disch := omega) only [b_X6_count_0, x_loadI_1, tw_8_0, tw_8_1, tw_8_2, tw_8_3, tw_8_4, tw_8_5, tw_8_o, b_X6_count_40, x_loadR_0, x_loadS_0, f_6_0, x_ret0, b_X6_count_45, f_6_5, b_X6_count_50, b_X6_count_55, f_6_10, b_X6_count_60, f_6_11, b_X6_count_65, f_6_7, b_X6_count_70, x_iconst, q_isL_I, q_isL_R, q_isL_S, true_and, and_true, and_self, List.length_nil, List.length_cons, Nat.zero_add, x_K, x_Kn, Int.reduceToNat, Nat.reduceAdd, Nat.reduceMul, Nat.reduceLeDiff, Nat.reduceLT, Nat.zero_le, Int.reduceAdd, Int.reduceSub, Int.reduceMul, Int.reduceNeg, q_add_e, q_sub_e, q_mul_e, q_neg_e, q_upd_s, q_upd_n, zr_shr0, zr_shr1, zr_shr2, zr_shr3, zr_shr4, zr_and, zr_dyn8, zr_or, zr_shl, q_cpy_n, y_cpy26]
    exact q_ans (hq _ q_mq_rf) (by unfold E_count; first | (simp [e, e9, e8]; done) | (rw [if_neg (show ¬w = 0 by omega), if_neg (show ¬w = 1 by omega), if_neg (show ¬w = 2 by omega), if_neg (show ¬w = 3 by omega), if_neg (show ¬w = 4 by omega), if_neg (show ¬w = 5 by omega)]))
  · subst k
    simp (disch := omega) only [b_X6_count_0, x_loadI_1, tw_8_0, tw_8_1, tw_8_2, tw_8_3, tw_8_4, tw_8_5, tw_8_o, b_X6_count_40, x_loadR_0, x_loadS_0, f_6_0, x_ret0, b_X6_count_45, f_6_5, b_X6_count_50, b_X6_count_55, f_6_10, b_X6_count_60, f_6_11, b_X6_count_65, f_6_7, b_X6_count_70, x_iconst, q_isL_I, q_isL_R, q_isL_S, true_and, and_true, and_self, List.length_nil, List.length_cons, Nat.zero_add, x_K, x_Kn, Int.reduceToNat, Nat.reduceAdd, Nat.reduceMul, Nat.reduceLeDiff, Nat.reduceLT, Nat.zero_le, Int.reduceAdd, Int.reduceSub, Int.reduceMul, Int.reduceNeg, q_add_e, q_sub_e, q_mul_e, q_neg_e, q_upd_s, q_upd_n, zr_shr0, zr_shr1, zr_shr2, zr_shr3, zr_shr4, zr_and, zr_dyn8, zr_or, zr_shl, q_cpy_n, y_cpy26]
    exact q_ans (hq _ q_mq_rf) (by unfold E_count; first | (simp [e, e9, e8]; done) | (rw [if_neg (show ¬w = 0 by omega), if_neg (show ¬w = 1 by omega), if_neg (show ¬w = 2 by omega), if_neg (show ¬w = 3 by omega), if_neg (show ¬w = 4 by omega), if_neg (show ¬w = 5 by omega)]))
  · subst k
    simp (disch := omega) only [b_X6_count_0, x_loadI_1, tw_8_0, tw_8_1, tw_8_2, tw_8_3, tw_8_4, tw_8_5, tw_8_o, b_X6_count_40, x_loadR_0, x_loadS_0, f_6_0, x_ret0, b_X6_count_45, f_6_5, b_X6_count_50, b_X6_count_55, f_6_10, b_X6_count_60, f_6_11, b_X6_count_65, f_6_7, b_X6_count_70, x_iconst, q_isL_I, q_isL_R, q_isL_S, true_and, and_true, and_self, List.length_nil, List.length_cons, Nat.zero_add, x_K, x_Kn, Int.reduceToNat, Nat.reduceAdd, Nat.reduceMul, Nat.reduceLeDiff, Nat.reduceLT, Nat.zero_le, Int.reduceAdd, Int.reduceSub, Int.reduceMul, Int.reduceNeg, q_add_e, q_sub_e, q_mul_e, q_neg_e, q_upd_s, q_upd_n, zr_shr0, zr_shr1, zr_shr2, zr_shr3, zr_shr4, zr_and, zr_dyn8, zr_or, zr_shl, q_cpy_n, y_cpy26, c_X6_outside]
    rw [mp_outside n0a n0b hin]
    simp (disch := omega) only [b_X6_count_0, x_loadI_1, tw_8_0, tw_8_1, tw_8_2, tw_8_3, tw_8_4, tw_8_5, tw_8_o, b_X6_count_40, x_loadR_0, x_loadS_0, f_6_0, x_ret0, b_X6_count_45, f_6_5, b_X6_count_50, b_X6_count_55, f_6_10, b_X6_count_60, f_6_11, b_X6_count_65, f_6_7, b_X6_count_70, x_iconst, q_isL_I, q_isL_R, q_isL_S, true_and, and_true, and_self, List.length_nil, List.length_cons, Nat.zero_add, x_K, x_Kn, Int.reduceToNat, Nat.reduceAdd, Nat.reduceMul, Nat.reduceLeDiff, Nat.reduceLT, Nat.zero_le, Int.reduceAdd, Int.reduceSub, Int.reduceMul, Int.reduceNeg, q_add_e, q_sub_e, q_mul_e, q_neg_e, q_upd_s, q_upd_n, zr_shr0, zr_shr1, zr_shr2, zr_shr3, zr_shr4, zr_and, zr_dyn8, zr_or, zr_shl, q_cpy_n, y_cpy26]
    exact q_ans (hq _ q_mq_rf) (by unfold E_count; first | (simp [e, e9, e8]; done) | (rw [if_neg (show ¬w = 0 by omega), if_neg (show ¬w = 1 by omega), if_neg (show ¬w = 2 by omega), if_neg (show ¬w = 3 by omega), if_neg (show ¬w = 4 by omega), if_neg (show ¬w = 5 by omega)]))
  · subst k
    simp (disch := omega) only [b_X6_count_0, x_loadI_1, tw_8_0, tw_8_1, tw_8_2, tw_8_3, tw_8_4, tw_8_5, tw_8_o, b_X6_count_40, x_loadR_0, x_loadS_0, f_6_0, x_ret0, b_X6_count_45, f_6_5, b_X6_count_50, b_X6_count_55, f_6_10, b_X6_count_60, f_6_11, b_X6_count_65, f_6_7, b_X6_count_70, x_iconst, q_isL_I, q_isL_R, q_isL_S, true_and, and_true, and_self, List.length_nil, List.length_cons, Nat.zero_add, x_K, x_Kn, Int.reduceToNat, Nat.reduceAdd, Nat.reduceMul, Nat.reduceLeDiff, Nat.reduceLT, Nat.zero_le, Int.reduceAdd, Int.reduceSub, Int.reduceMul, Int.reduceNeg, q_add_e, q_sub_e, q_mul_e, q_neg_e, q_upd_s, q_upd_n, zr_shr0, zr_shr1, zr_shr2, zr_shr3, zr_shr4, zr_and, zr_dyn8, zr_or, zr_shl, q_cpy_n, y_cpy26]
    exact q_ans (hq _ q_mq_rf) (by unfold E_count; first | (simp [e, e9, e8]; done) | (rw [if_neg (show ¬w = 0 by omega), if_neg (show ¬w = 1 by omega), if_neg (show ¬w = 2 by omega), if_neg (show ¬w = 3 by omega), if_neg (show ¬w = 4 by omega), if_neg (show ¬w = 5 by omega)]))
  · subst k
    simp (disch := omega) only [b_X6_count_0, x_loadI_1, tw_8_0, tw_8_1, tw_8_2, tw_8_3, tw_8_4, tw_8_5, tw_8_o, b_X6_count_40, x_loadR_0, x_loadS_0, f_6_0, x_ret0, b_X6_count_45, f_6_5, b_X6_count_50, b_X6_count_55, f_6_10, b_X6_count_60, f_6_11, b_X6_count_65, f_6_7, b_X6_count_70, x_iconst, q_isL_I, q_isL_R, q_isL_S, true_and, and_true, and_self, List.length_nil, List.length_cons, Nat.zero_add, x_K, x_Kn, Int.reduceToNat, Nat.reduceAdd, Nat.reduceMul, Nat.reduceLeDiff, Nat.reduceLT, Nat.zero_le, Int.reduceAdd, Int.reduceSub, Int.reduceMul, Int.reduceNeg, q_add_e, q_sub_e, q_mul_e, q_neg_e, q_upd_s, q_upd_n, zr_shr0, zr_shr1, zr_shr2, zr_shr3, zr_shr4, zr_and, zr_dyn8, zr_or, zr_shl, q_cpy_n, y_cpy26]
    exact q_ans (hq _ q_mq_rf) (by unfold E_count; first | (simp [e, e9, e8]; done) | (rw [if_neg (show ¬w = 0 by omega), if_neg (show ¬w = 1 by omega), if_neg (show ¬w = 2 by omega), if_neg (show ¬w = 3 by omega), if_neg (show ¬w = 4 by omega), if_neg (show ¬w = 5 by omega)]))
  · subst k
    simp (disch := omega) only [b_X6_count_0, x_loadI_1, tw_8_0, tw_8_1, tw_8_2, tw_8_3, tw_8_4, tw_8_5, tw_8_o, b_X6_count_40, x_loadR_0, x_loadS_0, f_6_0, x_ret0, b_X6_count_45, f_6_5, b_X6_count_50, b_X6_count_55, f_6_10, b_X6_count_60, f_6_11, b_X6_count_65, f_6_7, b_X6_count_70, x_iconst, q_isL_I, q_isL_R, q_isL_S, true_and, and_true, and_self, List.length_nil, List.length_cons, Nat.zero_add, x_K, x_Kn, Int.reduceToNat, Nat.reduceAdd, Nat.reduceMul, Nat.reduceLeDiff, Nat.reduceLT, Nat.zero_le, Int.reduceAdd, Int.reduceSub, Int.reduceMul, Int.reduceNeg, q_add_e, q_sub_e, q_mul_e, q_neg_e, q_upd_s, q_upd_n, zr_shr0, zr_shr1, zr_shr2, zr_shr3, zr_shr4, zr_and, zr_dyn8, zr_or, zr_shl, q_cpy_n, y_cpy26]
    exact q_ans (hq _ q_mq_rf) (by unfold E_count; first | (simp [e, e9, e8]; done) | (rw [if_neg (show ¬w = 0 by omega), if_neg (show ¬w = 1 by omega), if_neg (show ¬w = 2 by omega), if_neg (show ¬w = 3 by omega), if_neg (show ¬w = 4 by omega), if_neg (show ¬w = 5 by omega)]))
  · rw [b_X6_count_0, x_loadI_1]
    rw [y_tsw_o (Or.inr k)]
    simp (disch := omega) only [b_X6_count_0, x_loadI_1, tw_8_0, tw_8_1, tw_8_2, tw_8_3, tw_8_4, tw_8_5, tw_8_o, b_X6_count_40, x_loadR_0, x_loadS_0, f_6_0, x_ret0, b_X6_count_45, f_6_5, b_X6_count_50, b_X6_count_55, f_6_10, b_X6_count_60, f_6_11, b_X6_count_65, f_6_7, b_X6_count_70, x_iconst, q_isL_I, q_isL_R, q_isL_S, true_and, and_true, and_self, List.length_nil, List.length_cons, Nat.zero_add, x_K, x_Kn, Int.reduceToNat, Nat.reduceAdd, Nat.reduceMul, Nat.reduceLeDiff, Nat.reduceLT, Nat.zero_le, Int.reduceAdd, Int.reduceSub, Int.reduceMul, Int.reduceNeg, q_add_e, q_sub_e, q_mul_e, q_neg_e, q_upd_s, q_upd_n, zr_shr0, zr_shr1, zr_shr2, zr_shr3, zr_shr4, zr_and, zr_dyn8, zr_or, zr_shl, q_cpy_n, y_cpy26]
    exact q_ans (hq _ q_mq_rf) (by unfold E_count; first | (simp [e, e9, e8]; done) | (rw [if_neg (show ¬w = 0 by omega), if_neg (show ¬w = 1 by omega), if_neg (show ¬w = 2 by omega), if_neg (show ¬w = 3 by omega), if_neg (show ¬w = 4 by omega), if_neg (show ¬w = 5 by omega)]))
end
section
/-! BOTH SIDES: peace, the court, just so -/
section CMP
variable {L L' : Nat → Nat → Int} {T T' : Nat → Nat → Bool} {f f' : Nat → Int}
theorem F_cB_e {p : Nat} (hL : ∀ b, b < 6 → L p b = L' p b) (hf : f p = f' p) (h5 : 0 ≤ f p ∧ f p ≤ 5) (hT : ∀ b : Nat, b < 5 → f p ≠ b → T p b = T' p b) : ∀ j b : Nat, b + j ≤ 5 → F_cB L T f p j b = F_cB L' T' f' p j b
  | 0, _, _ => rfl
  | j + 1, b, h => by
    rw [F_cB, F_cB, F_cB_e hL hf h5 hT j (b + 1) (by omega), ← hf]
    have er : F_rth (L' p) b (f p).toNat = F_rth (L p) b (f p).toNat := by
      unfold F_rth
      rw [hL b (by omega), hL (f p).toNat (by omega)]
    rw [er]
    by_cases c : F_rth (L p) b (f p).toNat = true
    · have hb : f p ≠ b := by
        intro e
        unfold F_rth at c
        have c := of_decide_eq_true c
        rw [e, Int.toNat_natCast] at c
        omega
      rw [hT b (by omega) hb]
    · rw [if_neg (fun z => c z.1), if_neg (fun z => c z.1)]
theorem F_cmp_e {n : Nat} (hL : ∀ p b, p < n → b < 6 → L p b = L' p b) (hf : ∀ p, p < n → f p = f' p) (h5 : ∀ p, p < n → 0 ≤ f p ∧ f p ≤ 5) (hT : ∀ p b : Nat, p < n → b < 5 → f p ≠ b → T p b = T' p b) : ∀ j p : Nat, p + j ≤ n → F_cmp L T f j p = F_cmp L' T' f' j p
  | 0, _, _ => rfl
  | j + 1, p, h => by
    have hp := h5 p (by omega)
    rw [F_cmp, F_cmp, F_cmp_e hL hf h5 hT j (p + 1) (by omega), ← hf p (by omega), F_cB_e (fun b hb => hL p b (by omega) hb) (hf p (by omega)) hp (fun b hb hn => hT p b (by omega) hb hn) 5 0 (by omega), hL p (f p).toNat (by omega) (by omega)]
theorem F_sum_e {N : Nat} (hL : ∀ p b, p < N → b < 6 → L p b = L' p b) (hf : ∀ p, p < N → f p = f' p) (h5 : ∀ p, p < N → 0 ≤ f p ∧ f p ≤ 5) : ∀ n : Nat, n ≤ N → F_sum L f n = F_sum L' f' n
  | 0, _ => rfl
  | n + 1, h => by
    have hp := h5 n (by omega)
    rw [F_sum, F_sum, F_sum_e hL hf h5 n (by omega), ← hf n (by omega), hL n (f n).toNat (by omega) (by omega)]
end CMP
def EL (V : Nat → (Nat → Int) → Int) (S : q_M) : Nat → Nat → Int := fun p b => if b < 5 then F_likes V S p b else 0
def EW (V : Nat → (Nat → Int) → Int) (S : q_M) : Nat → Nat → Int := fun p b => if b < 5 then F_wants V S p b else 0
def E_peace (V : Nat → (Nat → Int) → Int) (S : q_M) (wt : Int) : Int := if ¬(0 ≤ wt ∧ wt ≤ 2) then -100000 else if wt = 0 then F_cmp (EL V S) (G_T (EW V S) (S 6) (S 4) (F_n S)) (S 4) (F_n S) 0 else if wt = 1 then F_sum (EL V S) (S 4) (F_n S) else F_sum (EW V S) (S 4) (F_n S)
theorem E_peace_n {V : Nat → (Nat → Int) → Int} {S : q_M} {wt : Int} (h : ¬(0 ≤ wt ∧ wt ≤ 2)) : E_peace V S wt = -100000 := if_pos h
theorem cy_peace {Vt : Nat → Nat → (Nat → Int) → Int} {d tm l sl : Nat} {g : q_G} {M : q_M} {wt : Int} {Q : Option q_V → q_G → q_M → Prop} (C : q_XI Vt tm l sl M) (iv : q_ivS (cW M 11)) (hq : ∀ M2 : q_M, q_tq M M2 → Q (some (qI (E_peace (Vt l) (cW M 11) wt))) g M2) : q_S 1 (d + 50) 77 [qR 5 0, qI wt] g M Q := by
  have c := C.2.2.1
  have w := c.2.1
  have n5 := q_ci_n c
  have tas := c.1
  by_cases c1 : 0 ≤ wt ∧ wt ≤ 2
  · refine sp_peace (d := d + 46) w c.2.2.2.1.1 c.2.2.2.1.2 c1 (fun M2 h ht => q_ans (hq M2 (q_tq_tel tas h)) ?_)
    have ta5 := tas
    unfold q_tas at ta5
    have e5 : M2 12 5 = M 12 5 := h 12 5 (by omega) (by omega) (by omega)
    have en : F_n (cW M 11) = (M 12 5).toNat := rfl
    have eL : ∀ p b, p < (M 12 5).toNat → b < 6 → M2 (12 + 3 + (1 + p)) b = EL (Vt l) (cW M 11) p b := fun p b hp hb => by
      unfold EL
      by_cases cb : b < 5
      · rw [if_pos cb]
        exact (ht p b hp cb).1
      · have e : b = 5 := by omega
        subst e
        rw [if_neg cb, h _ 5 (by omega) (by omega) (by omega)]
        exact c.2.2.2.1.1 p (by omega)
    have eW : ∀ p b, p < (M 12 5).toNat → b < 6 → M2 (12 + 10 + (1 + p)) b = EW (Vt l) (cW M 11) p b := fun p b hp hb => by
      unfold EW
      by_cases cb : b < 5
      · rw [if_pos cb]
        exact (ht p b hp cb).2
      · have e : b = 5 := by omega
        subst e
        rw [if_neg cb, h _ 5 (by omega) (by omega) (by omega)]
        exact c.2.2.2.1.2 p (by omega)
    have e4 : ∀ k, k < (M 12 5).toNat → M2 (12 + 2) k = cW M 11 4 k := fun k hk => (h 14 k (by omega) (by omega) (by omega)).trans (if_pos hk).symm
    have f5 : ∀ k, k < (M 12 5).toNat → 0 ≤ M2 (12 + 2) k ∧ M2 (12 + 2) k ≤ 5 := fun k hk => by
      rw [e4 k hk]
      exact iv.2.1 k hk
    have e6 : ∀ b, b < 5 → M2 (12 + 1) b = cW M 11 6 b := fun b hb => (h 13 b (by omega) (by omega) (by omega)).trans (if_pos hb).symm
    unfold q_pcA E_peace
    rw [if_neg (show ¬¬(0 ≤ wt ∧ wt ≤ 2) from fun z => z c1), e5, en]
    by_cases k0 : wt = 0
    · rw [if_pos k0, if_pos k0]
      refine F_cmp_e (n := (M 12 5).toNat) eL e4 f5 (fun p b hp hb hn => ?_) _ 0 (by omega)
      unfold q_Tk G_T
      have cn : F_cnt (M2 (12 + 2)) b (M 12 5).toNat ≤ M2 (12 + 1) b := by
        rw [e6 b hb, F_cnt_cong _ e4]
        exact iv.2.2.1 b hb
      rw [e5, F_takes_12 hn cn, e6 b hb]
      exact F_takes_cong e4 (fun k hk => eW k b hk (by omega)) hp
    · rw [if_neg k0, if_neg k0]
      by_cases k1 : wt = 1
      · rw [if_pos k1, if_pos k1]
        exact F_sum_e (N := (M 12 5).toNat) eL e4 f5 _ (by omega)
      · rw [if_neg k1, if_neg k1]
        exact F_sum_e (N := (M 12 5).toNat) eW e4 f5 _ (by omega)
  · exact sp_peaceF (by omega) (q_ans (hq M q_tq_rf) (E_peace_n c1).symm)
/-- what the model's tables say -/
theorem m_td_e {V : Nat → (Nat → Int) → Int} {M M2 : q_M} (hb : q_mb M) (h : m_td V M M2) : M2 100 0 = M 100 0 ∧ (∀ p b, p < (M 100 0).toNat → b < 6 → mL M2 p b = EL V (mW M) p b) ∧ (∀ p b, p < (M 100 0).toNat → b < 6 → mWn M2 p b = EW V (mW M) p b) ∧ (∀ k, k < (M 100 0).toNat → (m_st M2).1 k = mW M 4 k) ∧ (∀ b, b < 5 → mR M2 b = mW M 6 b) ∧ (∀ k, k < (M 100 0).toNat → 0 ≤ (m_st M2).1 k ∧ (m_st M2).1 k ≤ 5) := by
  have n0 := hb.1
  obtain ⟨h1, h2, h3⟩ := h
  have e4 : ∀ k, k < (M 100 0).toNat → (m_st M2).1 k = mW M 4 k := fun k hk => by
    have b4 := hb.2.2.2.2.2.2.1 k (by omega)
    show m_raw (M2 121 k) = (if k < (M 100 0).toNat then mIn M k else 0)
    rw [if_pos hk, h3 k hk]
    unfold m_raw mIn
    (repeat' split) <;> omega
  refine ⟨h1 100 0 (by omega) (by omega), fun p b hp hb6 => ?_, fun p b hp hb6 => ?_, e4, fun b hb5 => ?_, fun k hk => ?_⟩
  · unfold mL EL
    by_cases cb : b < 5
    · rw [if_pos cb, if_pos cb]
      exact (h2 p b hp cb).1
    · rw [if_neg cb, if_neg cb]
  · unfold mWn EW
    by_cases cb : b < 5
    · rw [if_pos cb, if_pos cb]
      exact (h2 p b hp cb).2
    · rw [if_neg cb, if_neg cb]
  · show M2 103 (4 * b + 1) = (if b < 5 then M 103 (4 * b + 1) else 0)
    rw [if_pos hb5]
    exact h1 103 _ (by omega) (by omega)
  · have b4 := hb.2.2.2.2.2.2.1 k (by omega)
    rw [e4 k hk]
    show 0 ≤ (if k < (M 100 0).toNat then mIn M k else 0) ∧ (if k < (M 100 0).toNat then mIn M k else 0) ≤ 5
    rw [if_pos hk]
    unfold mIn
    split <;> omega
theorem mz_peace {Vt : Nat → Nat → (Nat → Int) → Int} {d tm : Nat} {g : q_G} {M : q_M} {wt : Int} {Q : Option q_V → q_G → q_M → Prop} (hI : q_MI Vt tm M) (hq : ∀ M2 : q_M, q_mq M M2 → Q (some (qI (E_peace (q_Vr Vt M) (mW M) wt))) g M2) : q_S 1 (d + 11) 167 [qR 6 100, qI wt] g M Q := by
  by_cases c : 0 ≤ wt ∧ wt ≤ 2
  · refine mp_peace (d := d + 6) (q_MI_mi hI).1 c (fun M2 h2 => q_ans (hq M2 h2.1) ?_)
    obtain ⟨e0, eL, eW, e4, e6, f5⟩ := m_td_e hI.1 h2
    have en : F_n (mW M) = (M 100 0).toNat := rfl
    unfold B_pcA E_peace
    rw [if_neg (show ¬¬(0 ≤ wt ∧ wt ≤ 2) from fun z => z c), e0, en]
    by_cases k0 : wt = 0
    · rw [if_pos k0, if_pos k0]
      refine F_cmp_e (n := (M 100 0).toNat) eL e4 f5 (fun p b hp hb hn => ?_) _ 0 (by omega)
      unfold G_T
      rw [e6 b hb]
      exact F_takes_cong e4 (fun k hk => eW k b hk (by omega)) hp
    · rw [if_neg k0, if_neg k0]
      by_cases k1 : wt = 1
      · rw [if_pos k1, if_pos k1]
        exact F_sum_e (N := (M 100 0).toNat) eL e4 f5 _ (by omega)
      · rw [if_neg k1, if_neg k1]
        exact F_sum_e (N := (M 100 0).toNat) eW e4 f5 _ (by omega)
  · exact mp_peaceF (d := d + 10) c (q_ans (hq M q_mq_rf) (E_peace_n c).symm)
/-! asking in turn -/
def q_smx (n : Nat) (x y : (Nat → Int) × (Nat → Int)) : Prop := ∀ i, i < n → x.1 i = y.1 i ∧ x.2 i = y.2 i
def q_Jn (n : Nat) (R : Nat → Int) (y : (Nat → Int) × (Nat → Int)) : Prop := (∀ b : Nat, b < 5 → F_cnt y.1 b n ≤ R b) ∧ (∀ i, i < n → 0 ≤ y.1 i ∧ y.1 i ≤ 5)
section TURN
variable {L L' W W' : Nat → Nat → Int} {R R' : Nat → Int} {n : Nat}
theorem F_ask_e {p b : Nat} {x y : (Nat → Int) × (Nat → Int)} (hn : n ≤ 5) (hp : p < n) (hb : b < 5) (h5 : y.1 p = 5) (hW : ∀ q c, q < n → c < 6 → W q c = W' q c) (hR : ∀ c, c < 5 → R c = R' c) (h : q_smx n x y) (J : q_Jn n R' y) : q_smx n (F_ask W R n p b x) (G_ask W' R' n p b y) ∧ q_Jn n R' (G_ask W' R' n p b y) := by
  have hx1 : ∀ k, k < n → x.1 k = y.1 k := fun k hk => (h k hk).1
  have eT : F_takes1 x.1 (fun q => W q b) (R b) b n p = F_takes y.1 (fun q => W' q b) (R' b) b n p := by
    rw [F_takes1_cong (f' := y.1) (w' := fun q => W' q b) hp hx1 (fun k hk _ => hW k b hk (by omega)), hR b hb]
    exact F_takes_12 (by rw [h5]; omega) (J.1 b hb)
  have eO : F_askO W R n b x.1 = F_askO W' R' n b y.1 := by
    unfold F_askO
    rw [F_cast_cong (f' := y.1) (w' := fun q => W' q b) hx1 (fun k hk _ => hW k b hk (by omega)), hR b hb]
  unfold F_ask G_ask
  rw [eT, eO]
  by_cases c : F_takes y.1 (fun q => W' q b) (R' b) b n p = true
  · rw [if_pos c, if_pos c]
    by_cases c2 : F_askO W' R' n b y.1 = 5
    · rw [if_pos c2, if_pos c2]
      have room : F_cnt y.1 b n < R' b := by
        unfold F_askO F_cast at c2
        unfold F_takes at c
        by_cases c3 : F_cnt y.1 b n < R' b
        · exact c3
        · rw [if_neg c3] at c2 c
          rw [if_pos c2] at c
          cases c
      refine ⟨fun i hi => ⟨?_, (h i hi).2⟩, fun k hk => ?_, fun i hi => ?_⟩
      · show F_u x.1 p b i = F_u y.1 p b i
        unfold F_u
        split
        · rfl
        · exact hx1 i hi
      · show F_cnt (F_u y.1 p b) k n ≤ R' k
        have j := J.1 k hk
        rw [F_cnt_u n hp, h5, if_neg (show ¬(5 : Int) = k by omega)]
        by_cases e : (b : Int) = k
        · have e2 : b = k := by omega
          subst e2
          rw [if_pos e]
          omega
        · rw [if_neg e]
          omega
      · show 0 ≤ F_u y.1 p b i ∧ F_u y.1 p b i ≤ 5
        unfold F_u
        split
        · omega
        · exact J.2 i hi
    · rw [if_neg c2, if_neg c2]
      have ho : F_askO W' R' n b y.1 < n ∧ y.1 (F_askO W' R' n b y.1) = b := by
        unfold F_askO F_cast at c2 ⊢
        by_cases c3 : F_cnt y.1 b n < R' b
        · rw [if_pos c3] at c2
          exact absurd rfl c2
        · rw [if_neg c3] at c2 ⊢
          rcases F_last_in (f := y.1) (w := fun q => W' q b) (b := b) n with z | z
          · exact absurd z c2
          · exact z
      generalize F_askO W' R' n b y.1 = o at ho
      have hop : p ≠ o := fun e => by
        have := ho.2
        rw [← e, h5] at this
        omega
      refine ⟨fun i hi => ⟨?_, ?_⟩, fun k hk => ?_, fun i hi => ?_⟩
      · show F_u (F_u x.1 o 5) p b i = F_u (F_u y.1 o 5) p b i
        unfold F_u
        split
        · rfl
        · split
          · rfl
          · exact hx1 i hi
      · show F_u x.2 o (q_or (x.2 o) (q_shl 1 b)) i = F_u y.2 o (q_or (y.2 o) (q_shl 1 b)) i
        unfold F_u
        split
        · rw [(h o ho.1).2]
        · exact (h i hi).2
      · show F_cnt (F_u (F_u y.1 o 5) p b) k n ≤ R' k
        have j := J.1 k hk
        have ep : F_u y.1 o 5 p = 5 := by
          unfold F_u
          rw [if_neg hop]
          exact h5
        rw [F_cnt_u n hp, F_cnt_u n ho.1, ep, ho.2, if_neg (show ¬(5 : Int) = k by omega)]
        omega
      · show 0 ≤ F_u (F_u y.1 o 5) p b i ∧ F_u (F_u y.1 o 5) p b i ≤ 5
        unfold F_u
        split
        · omega
        · split
          · omega
          · exact J.2 i hi
  · rw [if_neg c, if_neg c]
    refine ⟨fun i hi => ⟨hx1 i hi, ?_⟩, J⟩
    show F_u x.2 p (q_or (x.2 p) (q_shl 1 b)) i = F_u y.2 p (q_or (y.2 p) (q_shl 1 b)) i
    unfold F_u
    split
    · rw [(h p hp).2]
    · exact (h i hi).2
theorem F_dst_e {p : Nat} {x y : (Nat → Int) × (Nat → Int)} (hp : p < n) (hL : ∀ q c, q < n → c < 6 → L q c = L' q c) (h : q_smx n x y) : F_dst L x p = F_dst L' y p := by
  unfold F_dst
  rw [F_best_cong (L' := L' p) (ok' := fun k => decide (q_and (q_shr (y.2 p) k) 1 = 0)) 5 (fun k hk => hL p k hp (by omega)) (fun k _ => by rw [(h p hp).2])]
theorem F_rd_e {x y : (Nat → Int) × (Nat → Int)} (hn : n ≤ 5) (hL : ∀ q c, q < n → c < 6 → L q c = L' q c) (hW : ∀ q c, q < n → c < 6 → W q c = W' q c) (hR : ∀ c, c < 5 → R c = R' c) (h : q_smx n x y) (J : q_Jn n R' y) : ∀ p, p ≤ n → (F_rd L W R n x p).1 = (G_rd L' W' R' n y p).1 ∧ q_smx n (F_rd L W R n x p).2 (G_rd L' W' R' n y p).2 ∧ q_Jn n R' (G_rd L' W' R' n y p).2
  | 0, _ => ⟨rfl, h, J⟩
  | p + 1, hp => by
    obtain ⟨i1, i2, i3⟩ := F_rd_e hn hL hW hR h J p (by omega)
    rw [F_rd, G_rd, F_dst_e (by omega) hL i2, (i2 p (by omega)).1]
    by_cases c : (G_rd L' W' R' n y p).2.1 p = 5 ∧ F_dst L' (G_rd L' W' R' n y p).2 p ≠ 5
    · rw [if_pos c, if_pos c]
      rcases F_dst_le (L := L') (x := (G_rd L' W' R' n y p).2) (p := p) with k | k
      · have e := F_ask_e (p := p) (b := F_dst L' (G_rd L' W' R' n y p).2 p) hn (by omega) k c.1 hW hR i2 i3
        exact ⟨rfl, e.1, e.2⟩
      · exact absurd k c.2
    · rw [if_neg c, if_neg c]
      exact ⟨i1, i2, i3⟩
theorem F_turn_e (hn : n ≤ 5) (hL : ∀ q c, q < n → c < 6 → L q c = L' q c) (hW : ∀ q c, q < n → c < 6 → W q c = W' q c) (hR : ∀ c, c < 5 → R c = R' c) : ∀ (k : Nat) (x y : (Nat → Int) × (Nat → Int)), q_smx n x y → q_Jn n R' y → q_smx n (F_turn L W R n k x) (G_trn L' W' R' n k y) ∧ q_Jn n R' (G_trn L' W' R' n k y)
  | 0, _, _, h, J => ⟨h, J⟩
  | k + 1, x, y, h, J => by
    obtain ⟨i1, i2, i3⟩ := F_rd_e hn hL hW hR h J n (Nat.le_refl n)
    rw [F_turn, G_trn, i1]
    by_cases c : (G_rd L' W' R' n y n).1 = true
    · rw [if_pos c, if_pos c]
      exact F_turn_e hn hL hW hR k _ _ i2 i3
    · rw [if_neg c, if_neg c]
      exact ⟨i2, i3⟩
theorem G_ask_e {p b : Nat} {x y : (Nat → Int) × (Nat → Int)} (hn : n ≤ 5) (hp : p < n) (hb : b < 5) (h5 : y.1 p = 5) (hW : ∀ q c, q < n → c < 6 → W q c = W' q c) (hR : ∀ c, c < 5 → R c = R' c) (h : q_smx n x y) (J : q_Jn n R' y) : q_smx n (G_ask W R n p b x) (G_ask W' R' n p b y) ∧ q_Jn n R' (G_ask W' R' n p b y) := by
  have hx1 : ∀ k, k < n → x.1 k = y.1 k := fun k hk => (h k hk).1
  have eT : F_takes x.1 (fun q => W q b) (R b) b n p = F_takes y.1 (fun q => W' q b) (R' b) b n p := by
    rw [F_takes_cong (f' := y.1) (w' := fun q => W' q b) hx1 (fun k hk => hW k b hk (by omega)) hp, hR b hb]
  have eO : F_askO W R n b x.1 = F_askO W' R' n b y.1 := by
    unfold F_askO
    rw [F_cast_cong (f' := y.1) (w' := fun q => W' q b) hx1 (fun k hk _ => hW k b hk (by omega)), hR b hb]
  unfold G_ask
  rw [eT, eO]
  by_cases c : F_takes y.1 (fun q => W' q b) (R' b) b n p = true
  · rw [if_pos c, if_pos c]
    by_cases c2 : F_askO W' R' n b y.1 = 5
    · rw [if_pos c2, if_pos c2]
      have room : F_cnt y.1 b n < R' b := by
        unfold F_askO F_cast at c2
        unfold F_takes at c
        by_cases c3 : F_cnt y.1 b n < R' b
        · exact c3
        · rw [if_neg c3] at c2 c
          rw [if_pos c2] at c
          cases c
      refine ⟨fun i hi => ⟨?_, (h i hi).2⟩, fun k hk => ?_, fun i hi => ?_⟩
      · show F_u x.1 p b i = F_u y.1 p b i
        unfold F_u
        split
        · rfl
        · exact hx1 i hi
      · show F_cnt (F_u y.1 p b) k n ≤ R' k
        have j := J.1 k hk
        rw [F_cnt_u n hp, h5, if_neg (show ¬(5 : Int) = k by omega)]
        by_cases e : (b : Int) = k
        · have e2 : b = k := by omega
          subst e2
          rw [if_pos e]
          omega
        · rw [if_neg e]
          omega
      · show 0 ≤ F_u y.1 p b i ∧ F_u y.1 p b i ≤ 5
        unfold F_u
        split
        · omega
        · exact J.2 i hi
    · rw [if_neg c2, if_neg c2]
      have ho : F_askO W' R' n b y.1 < n ∧ y.1 (F_askO W' R' n b y.1) = b := by
        unfold F_askO F_cast at c2 ⊢
        by_cases c3 : F_cnt y.1 b n < R' b
        · rw [if_pos c3] at c2
          exact absurd rfl c2
        · rw [if_neg c3] at c2 ⊢
          rcases F_last_in (f := y.1) (w := fun q => W' q b) (b := b) n with z | z
          · exact absurd z c2
          · exact z
      generalize F_askO W' R' n b y.1 = o at ho
      have hop : p ≠ o := fun e => by
        have := ho.2
        rw [← e, h5] at this
        omega
      refine ⟨fun i hi => ⟨?_, ?_⟩, fun k hk => ?_, fun i hi => ?_⟩
      · show F_u (F_u x.1 o 5) p b i = F_u (F_u y.1 o 5) p b i
        unfold F_u
        split
        · rfl
        · split
          · rfl
          · exact hx1 i hi
      · show F_u x.2 o (q_or (x.2 o) (q_shl 1 b)) i = F_u y.2 o (q_or (y.2 o) (q_shl 1 b)) i
        unfold F_u
        split
        · rw [(h o ho.1).2]
        · exact (h i hi).2
      · show F_cnt (F_u (F_u y.1 o 5) p b) k n ≤ R' k
        have j := J.1 k hk
        have ep : F_u y.1 o 5 p = 5 := by
          unfold F_u
          rw [if_neg hop]
          exact h5
        rw [F_cnt_u n hp, F_cnt_u n ho.1, ep, ho.2, if_neg (show ¬(5 : Int) = k by omega)]
        omega
      · show 0 ≤ F_u (F_u y.1 o 5) p b i ∧ F_u (F_u y.1 o 5) p b i ≤ 5
        unfold F_u
        split
        · omega
        · split
          · omega
          · exact J.2 i hi
  · rw [if_neg c, if_neg c]
    refine ⟨fun i hi => ⟨hx1 i hi, ?_⟩, J⟩
    show F_u x.2 p (q_or (x.2 p) (q_shl 1 b)) i = F_u y.2 p (q_or (y.2 p) (q_shl 1 b)) i
    unfold F_u
    split
    · rw [(h p hp).2]
    · exact (h i hi).2
theorem G_rd_e {x y : (Nat → Int) × (Nat → Int)} (hn : n ≤ 5) (hL : ∀ q c, q < n → c < 6 → L q c = L' q c) (hW : ∀ q c, q < n → c < 6 → W q c = W' q c) (hR : ∀ c, c < 5 → R c = R' c) (h : q_smx n x y) (J : q_Jn n R' y) : ∀ p, p ≤ n → (G_rd L W R n x p).1 = (G_rd L' W' R' n y p).1 ∧ q_smx n (G_rd L W R n x p).2 (G_rd L' W' R' n y p).2 ∧ q_Jn n R' (G_rd L' W' R' n y p).2
  | 0, _ => ⟨rfl, h, J⟩
  | p + 1, hp => by
    obtain ⟨i1, i2, i3⟩ := G_rd_e hn hL hW hR h J p (by omega)
    rw [G_rd, G_rd, F_dst_e (by omega) hL i2, (i2 p (by omega)).1]
    by_cases c : (G_rd L' W' R' n y p).2.1 p = 5 ∧ F_dst L' (G_rd L' W' R' n y p).2 p ≠ 5
    · rw [if_pos c, if_pos c]
      rcases F_dst_le (L := L') (x := (G_rd L' W' R' n y p).2) (p := p) with k | k
      · have e := G_ask_e (p := p) (b := F_dst L' (G_rd L' W' R' n y p).2 p) hn (by omega) k c.1 hW hR i2 i3
        exact ⟨rfl, e.1, e.2⟩
      · exact absurd k c.2
    · rw [if_neg c, if_neg c]
      exact ⟨i1, i2, i3⟩
theorem G_trn_e (hn : n ≤ 5) (hL : ∀ q c, q < n → c < 6 → L q c = L' q c) (hW : ∀ q c, q < n → c < 6 → W q c = W' q c) (hR : ∀ c, c < 5 → R c = R' c) : ∀ (k : Nat) (x y : (Nat → Int) × (Nat → Int)), q_smx n x y → q_Jn n R' y → q_smx n (G_trn L W R n k x) (G_trn L' W' R' n k y) ∧ q_Jn n R' (G_trn L' W' R' n k y)
  | 0, _, _, h, J => ⟨h, J⟩
  | k + 1, x, y, h, J => by
    obtain ⟨i1, i2, i3⟩ := G_rd_e hn hL hW hR h J n (Nat.le_refl n)
    rw [G_trn, G_trn, i1]
    by_cases c : (G_rd L' W' R' n y n).1 = true
    · rw [if_pos c, if_pos c]
      exact G_trn_e hn hL hW hR k _ _ i2 i3
    · rw [if_neg c, if_neg c]
      exact ⟨i2, i3⟩
end TURN
def E_crx (V : Nat → (Nat → Int) → Int) (S : q_M) : (Nat → Int) × (Nat → Int) := G_trn (EL V S) (EW V S) (S 6) (F_n S) 1000 G_x0
def E_court (V : Nat → (Nat → Int) → Int) (S : q_M) (wt : Int) : Int := if ¬(0 ≤ wt ∧ wt ≤ 2) then -100000 else if wt = 0 then F_dig (E_crx V S).1 (F_n S) else if wt = 1 then F_sum (EL V S) (E_crx V S).1 (F_n S) else F_sum (EW V S) (E_crx V S).1 (F_n S)
theorem E_court_n {V : Nat → (Nat → Int) → Int} {S : q_M} {wt : Int} (h : ¬(0 ≤ wt ∧ wt ≤ 2)) : E_court V S wt = -100000 := if_pos h
theorem F_cnt_5 {b : Nat} (hb : b < 5) : ∀ n : Nat, F_cnt (fun _ => 5) b n = 0
  | 0 => rfl
  | n + 1 => by
    rw [F_cnt, F_cnt_5 hb n, if_neg (show ¬(5 : Int) = b by omega)]
    omega
theorem q_Jn_0 {n : Nat} {R : Nat → Int} (h : ∀ b : Nat, b < 5 → 0 ≤ R b) : q_Jn n R G_x0 := ⟨fun b hb => by
  show F_cnt (fun _ => 5) b n ≤ R b
  rw [F_cnt_5 hb]
  exact h b hb, fun i _ => by show (0 : Int) ≤ 5 ∧ (5 : Int) ≤ 5; omega⟩
theorem F_fr_e {n : Nat} {x : (Nat → Int) × (Nat → Int)} (hn : n ≤ 5) : q_smx n (F_fr x) G_x0 := by
  intro i hi
  unfold F_fr
  rcases (show i = 0 ∨ i = 1 ∨ i = 2 ∨ i = 3 ∨ i = 4 by omega) with e | e | e | e | e <;> subst e <;> exact ⟨rfl, rfl⟩
set_option maxHeartbeats 4000000 in
theorem cy_court {Vt : Nat → Nat → (Nat → Int) → Int} {d tm l sl : Nat} {g : q_G} {M : q_M} {wt : Int} {Q : Option q_V → q_G → q_M → Prop} (C : q_XI Vt tm l sl M) (iv : q_ivS (cW M 11)) (hq : ∀ M2 : q_M, q_tq M M2 → Q (some (qI (E_court (Vt l) (cW M 11) wt))) g M2) : q_S 1 (d + 50) 78 [qR 5 0, qI wt] g M Q := by
  have c := C.2.2.1
  have w := c.2.1
  have n5 := q_ci_n c
  have tas := c.1
  by_cases c1 : 0 ≤ wt ∧ wt ≤ 2
  · refine sp_court (d := d + 45) (q_ci_t c) w c.2.2.1 c.2.2.2.2.1.1 c.2.2.2.2.1.2 c1 (fun M2 M3 h h2 h3 h4 => ?_)
    have hn : M2 39 5 = M 12 5 := by
      have := congrFun (congrFun h2 9) 0
      rw [cW_90, cW_90] at this
      exact this
    have hx : q_tq M M3 := by
      rw [h4]
      exact q_tq_cM (q_tq_th tas h) (q_hi_tr F_fr_hi (F_turn_hi (by omega) 1000 _))
    have ht := q_tq_th tas h
    refine q_ans (hq M3 hx) ?_
    have en : F_n (cW M 11) = (M 12 5).toNat := rfl
    have en2 : (M2 39 5).toNat = F_n (cW M 11) := by rw [hn]; rfl
    have hn5 : F_n (cW M 11) ≤ 5 := by rw [en]; omega
    have eL : ∀ p b, p < F_n (cW M 11) → b < 6 → q_Lk M2 39 p b = EL (Vt l) (cW M 11) p b := fun p b hp hb => by
      unfold EL
      by_cases cb : b < 5
      · rw [if_pos cb]
        exact (h3 p b (show p < (M2 39 5).toNat by omega) cb).1
      · have e : b = 5 := by omega
        subst e
        rw [if_neg cb]
        exact (ht (39 + 3 + (1 + p)) 5 (by omega) (by omega) (by omega) (by omega)).trans (c.2.2.2.2.1.1 p (by omega))
    have eW : ∀ p b, p < F_n (cW M 11) → b < 6 → q_Wn M2 39 p b = EW (Vt l) (cW M 11) p b := fun p b hp hb => by
      unfold EW
      by_cases cb : b < 5
      · rw [if_pos cb]
        exact (h3 p b (show p < (M2 39 5).toNat by omega) cb).2
      · have e : b = 5 := by omega
        subst e
        rw [if_neg cb]
        exact (ht (39 + 10 + (1 + p)) 5 (by omega) (by omega) (by omega) (by omega)).trans (c.2.2.2.2.1.2 p (by omega))
    have eR : ∀ b, b < 5 → M2 (39 + 1) b = cW M 11 6 b := fun b hb => by
      rw [← h2]
      exact (if_pos hb).symm
    obtain ⟨k1, k2⟩ := F_turn_e (n := F_n (cW M 11)) hn5 eL eW eR 1000 (F_fr (M2 (39 + 2), M2 (39 + 17))) G_x0 (F_fr_e hn5) (q_Jn_0 (fun b hb => by have := iv.2.2.1 b hb; have := (F_cnt_le (cW M 11 4) b (F_n (cW M 11))).1; omega))
    rw [en2] at h4
    generalize hX : F_turn (q_Lk M2 39) (q_Wn M2 39) (M2 (39 + 1)) (F_n (cW M 11)) 1000 (F_fr (M2 (39 + 2), M2 (39 + 17))) = x at h4 k1
    have e1 : ∀ k, k < F_n (cW M 11) → x.1 k = (E_crx (Vt l) (cW M 11)).1 k := fun k hk => (k1 k hk).1
    have f5 : ∀ k, k < F_n (cW M 11) → 0 ≤ x.1 k ∧ x.1 k ≤ 5 := fun k hk => by
      rw [e1 k hk]
      exact k2.2 k hk
    have r2 : M3 (39 + 2) = x.1 := by rw [h4]; funext i; exact q_cM_f
    have r5 : (M3 39 5).toNat = F_n (cW M 11) := by rw [h4, q_cM_n (by omega) (by omega)]; exact en2
    have rL : ∀ p b, p < F_n (cW M 11) → b < 6 → M3 (39 + 3 + (1 + p)) b = EL (Vt l) (cW M 11) p b := fun p b hp hb => by
      rw [h4, q_cM_n (by omega) (by omega)]
      exact eL p b hp hb
    have rW : ∀ p b, p < F_n (cW M 11) → b < 6 → M3 (39 + 10 + (1 + p)) b = EW (Vt l) (cW M 11) p b := fun p b hp hb => by
      rw [h4, q_cM_n (by omega) (by omega)]
      exact eW p b hp hb
    unfold q_crA E_court
    rw [if_neg (show ¬¬(0 ≤ wt ∧ wt ≤ 2) from fun z => z c1), r2, r5]
    by_cases k0 : wt = 0
    · rw [if_pos k0, if_pos k0]
      exact F_dig_cong _ e1
    · rw [if_neg k0, if_neg k0]
      by_cases k1 : wt = 1
      · rw [if_pos k1, if_pos k1]
        exact F_sum_e (N := F_n (cW M 11)) rL e1 f5 _ (by omega)
      · rw [if_neg k1, if_neg k1]
        exact F_sum_e (N := F_n (cW M 11)) rW e1 f5 _ (by omega)
  · exact sp_courtF (by omega) (q_ans (hq M q_tq_rf) (E_court_n c1).symm)
theorem mz_court {Vt : Nat → Nat → (Nat → Int) → Int} {d tm : Nat} {g : q_G} {M : q_M} {wt : Int} {Q : Option q_V → q_G → q_M → Prop} (hI : q_MI Vt tm M) (iv : q_ivS (mW M)) (hq : ∀ M2 : q_M, q_mq M M2 → Q (some (qI (E_court (q_Vr Vt M) (mW M) wt))) g M2) : q_S 1 (d + 11) 171 [qR 6 100, qI wt] g M Q := by
  by_cases c : 0 ≤ wt ∧ wt ≤ 2
  · refine mp_court (d := d + 5) (q_MI_mi hI).1 c (fun M2 M3 h2 h3 => q_ans (hq M3 h3) ?_)
    obtain ⟨e0, eL, eW, e4, e6, f5⟩ := m_td_e hI.1 h2
    have n0 := hI.1.1
    have en : F_n (mW M) = (M 100 0).toNat := rfl
    obtain ⟨k1, k2⟩ := G_trn_e (n := (M 100 0).toNat) (by omega) eL eW e6 1000 G_x0 G_x0 (fun i _ => ⟨rfl, rfl⟩) (q_Jn_0 (fun b hb => by have := iv.2.2.1 b hb; have := (F_cnt_le (mW M 4) b (F_n (mW M))).1; omega))
    have e1 : ∀ k, k < (M 100 0).toNat → (G_trn (mL M2) (mWn M2) (mR M2) (M 100 0).toNat 1000 G_x0).1 k = (E_crx (q_Vr Vt M) (mW M)).1 k := fun k hk => (k1 k hk).1
    have f5 : ∀ k, k < (M 100 0).toNat → 0 ≤ (G_trn (mL M2) (mWn M2) (mR M2) (M 100 0).toNat 1000 G_x0).1 k ∧ (G_trn (mL M2) (mWn M2) (mR M2) (M 100 0).toNat 1000 G_x0).1 k ≤ 5 := fun k hk => by
      rw [e1 k hk]
      exact k2.2 k hk
    unfold B_crA E_court
    rw [if_neg (show ¬¬(0 ≤ wt ∧ wt ≤ 2) from fun z => z c), e0, en]
    by_cases k0 : wt = 0
    · rw [if_pos k0, if_pos k0]
      exact F_dig_cong _ e1
    · rw [if_neg k0, if_neg k0]
      by_cases k1 : wt = 1
      · rw [if_pos k1, if_pos k1]
        exact F_sum_e (N := (M 100 0).toNat) eL e1 f5 _ (by omega)
      · rw [if_neg k1, if_neg k1]
        exact F_sum_e (N := (M 100 0).toNat) eW e1 f5 _ (by omega)
  · exact mp_courtF (d := d + 10) c (q_ans (hq M q_mq_rf) (E_court_n c).symm)
end
section
/-! BOTH SIDES: the annex, just so -/
theorem F_says_r6 {V : Nat → (Nat → Int) → Int} {S : q_M} {part p c b : Nat} {v : Int} : F_says V (q_upd S 6 b v) part p c = F_says V S part p c := by
  have e : F_nm (q_upd S 6 b v) p c = F_nm S p c := by
    funext k
    unfold F_nm
    simp (disch := omega) only [q_upd_n]
  unfold F_says
  rw [e]
theorem EL_r6 {V : Nat → (Nat → Int) → Int} {S : q_M} {b : Nat} {v : Int} : EL V (q_upd S 6 b v) = EL V S ∧ EW V (q_upd S 6 b v) = EW V S := by
  constructor
  · funext p c
    unfold EL F_likes
    simp (disch := omega) only [q_upd_n, F_says_r6]
  · funext p c
    unfold EW F_wants
    simp (disch := omega) only [q_upd_n, F_says_r6]
/-- liked, were there room for one more in b -/
def E_ans (V : Nat → (Nat → Int) → Int) (S : q_M) (b : Nat) : Int := F_sum (EL V S) (G_trn (EL V S) (EW V S) (F_u (S 6) b (S 6 b + 1)) (F_n S) 1000 G_x0).1 (F_n S)
def E_an (V : Nat → (Nat → Int) → Int) (S : q_M) : Nat → Int × Int
  | 0 => (-1, 0)
  | b + 1 => if (E_an V S b).1 = -1 ∨ (E_an V S b).2 < E_ans V S b then ((b : Int), E_ans V S b) else E_an V S b
def E_annex (V : Nat → (Nat → Int) → Int) (S : q_M) (wt : Int) : Int := if ¬(0 ≤ wt ∧ wt ≤ 1) then -100000 else if wt = 0 then (E_an V S 5).1 else (E_an V S 5).2
theorem E_annex_n {V : Nat → (Nat → Int) → Int} {S : q_M} {wt : Int} (h : ¬(0 ≤ wt ∧ wt ≤ 1)) : E_annex V S wt = -100000 := if_pos h
theorem E_annex_0 {V : Nat → (Nat → Int) → Int} {S : q_M} : E_annex V S 0 = (E_an V S 5).1 := rfl
theorem E_annex_1 {V : Nat → (Nat → Int) → Int} {S : q_M} : E_annex V S 1 = (E_an V S 5).2 := rfl
theorem E_ans_e {V : Nat → (Nat → Int) → Int} {S : q_M} {L W : Nat → Nat → Int} {R : Nat → Int} {b : Nat} {x : (Nat → Int) × (Nat → Int)} (iv : q_ivS S) (hL : ∀ p c, p < F_n S → c < 6 → L p c = EL V S p c) (hW : ∀ p c, p < F_n S → c < 6 → W p c = EW V S p c) (hR : ∀ c, c < 5 → R c = S 6 c) (hb : b < 5) : F_sum L (F_turn L W (F_u R b (R b + 1)) (F_n S) 1000 (F_fr x)).1 (F_n S) = E_ans V S b := by
  have hn : F_n S ≤ 5 := by have := iv.1; unfold F_n; omega
  have r0 : ∀ c : Nat, c < 5 → 0 ≤ S 6 c := fun c hc => by
    have := iv.2.2.1 c hc
    have := (F_cnt_le (S 4) c (F_n S)).1
    omega
  obtain ⟨k1, k2⟩ := F_turn_e (R := F_u R b (R b + 1)) (R' := F_u (S 6) b (S 6 b + 1)) hn hL hW (fun c hc => by
    unfold F_u
    rw [hR c hc, hR b hb]) 1000 (F_fr x) G_x0 (F_fr_e hn) (q_Jn_0 (fun c hc => by
    unfold F_u
    have := r0 c hc
    have := r0 b hb
    split <;> omega))
  exact F_sum_e (N := F_n S) hL (fun p hp => (k1 p hp).1) (fun p hp => by rw [(k1 p hp).1]; exact k2.2 p hp) _ (Nat.le_refl _)
theorem F_an_e {V : Nat → (Nat → Int) → Int} {S : q_M} {L W : Nat → Nat → Int} {R : Nat → Int} {x : (Nat → Int) × (Nat → Int)} (iv : q_ivS S) (hL : ∀ p c, p < F_n S → c < 6 → L p c = EL V S p c) (hW : ∀ p c, p < F_n S → c < 6 → W p c = EW V S p c) (hR : ∀ c, c < 5 → R c = S 6 c) : ∀ b : Nat, b ≤ 5 → (F_an L W R (F_n S) x b).1 = E_an V S b
  | 0, _ => rfl
  | b + 1, hb => by
    have ih := F_an_e (x := x) iv hL hW hR b (by omega)
    rw [F_an, E_an]
    unfold F_anX
    rw [ih, E_ans_e iv hL hW hR (by omega)]
theorem cy_annex {Vt : Nat → Nat → (Nat → Int) → Int} {d tm l sl : Nat} {g : q_G} {M : q_M} {wt : Int} {Q : Option q_V → q_G → q_M → Prop} (C : q_XI Vt tm l sl M) (iv : q_ivS (cW M 11)) (hq : ∀ M2 : q_M, q_tq M M2 → Q (some (qI (E_annex (Vt l) (cW M 11) wt))) g M2) : q_S 1 (d + 50) 80 [qR 5 0, qI wt] g M Q := by
  have c := C.2.2.1
  have n5 := q_ci_n c
  by_cases c1 : 0 ≤ wt ∧ wt ≤ 1
  · refine sp_annex (d := d + 44) c c1 (fun M2 M3 h h3 => q_ans (hq M3 h3) ?_)
    obtain ⟨t1, t2, t3, t4, t5, t6, _⟩ := h
    have en : F_n (cW M 11) = (M 12 5).toNat := rfl
    have eL : ∀ p b, p < F_n (cW M 11) → b < 6 → q_Lk M2 39 p b = EL (Vt l) (cW M 11) p b := fun p b hp hb => by
      unfold EL
      by_cases cb : b < 5
      · rw [if_pos cb]
        exact (t6 p b hp cb).1
      · have e : b = 5 := by omega
        subst e
        rw [if_neg cb]
        exact t3.1 p (by omega)
    have eW : ∀ p b, p < F_n (cW M 11) → b < 6 → q_Wn M2 39 p b = EW (Vt l) (cW M 11) p b := fun p b hp hb => by
      unfold EW
      by_cases cb : b < 5
      · rw [if_pos cb]
        exact (t6 p b hp cb).2
      · have e : b = 5 := by omega
        subst e
        rw [if_neg cb]
        exact t3.2 p (by omega)
    have eR : ∀ b, b < 5 → M2 40 b = cW M 11 6 b := fun b hb => by
      rw [← t2]
      exact (if_pos hb).symm
    have k := F_an_e (x := (M2 41, M2 56)) iv eL eW eR 5 (Nat.le_refl 5)
    have e5 : (M2 39 5).toNat = F_n (cW M 11) := by rw [t4]; rfl
    unfold A_annex E_annex
    rw [if_neg (show ¬¬(0 ≤ wt ∧ wt ≤ 1) from fun z => z c1), e5, k]
  · exact sp_annexF (by omega) (q_ans (hq M q_tq_rf) (E_annex_n c1).symm)
set_option maxHeartbeats 4000000 in
theorem mp_annexE {V : Nat → (Nat → Int) → Int} {d : Nat} {g : q_G} {M : q_M} {wt : Int} {Q : Option q_V → q_G → q_M → Prop} (hm : q_ml V M) (hR : ∀ b, b < 5 → M 103 (4 * b + 1) ≤ 5) (hiv : q_ivS (mW M)) (hq : ∀ M2 : q_M, q_mq M M2 → Q (some (qI (E_annex V (mW M) wt))) g M2) : q_S 1 (d + 6) 175 [qR 6 100, qI wt] g M Q := by
  have n0 := hm.1.1
  rw [s_X6_annex]
  by_cases c1 : 0 ≤ wt ∧ wt ≤ 1
  · have loop : ∀ j b : Nat, b + j = 5 → ∀ (M1 : q_M) (best most : Int) (l5 l6 : q_V), E_an V (mW M) b = (best, most) → q_isL l5 = false → q_isL l6 = false → q_mq M M1 → q_T 1 (d + 6) qP_X6_annex 19 [] [qR 6 100, qI wt, qI best, qI most, qI b, l5, l6] [] g M1 Q := by
      intro j
      induction j with
      | zero =>
        intro b hb M1 best most l5 l6 hE hl5 hl6 h1
        rw [b_X6_annex_19]
        rcases (show wt = 0 ∨ wt = 1 by omega) with k | k
        · have e5 : b = 5 := by omega
          subst e5
          subst k
          simp (disch := omega) only [b_X6_annex_0, x_loadI_1, x_iconst, y_if_ne_t, y_if_ne_f, b_X6_annex_9, x_ret0, b_X6_annex_12, x_storeI_2, x_storeI_3, x_storeI_4, x_loadI_4, y_ic_ge_t, y_ic_ge_f, b_X6_annex_25, x_loadR_0, x_loadS_0, f_6_3, x_imul, x_iadd, x_dup2, y_iald_40, y_iast_40, x_storeI_5, x_isub, x_loadI_2, y_ic_eq_t, y_ic_eq_f, b_X6_annex_71, x_loadI_5, x_loadI_3, y_ic_le_t, y_ic_le_f, b_X6_annex_77, x_goto, b_X6_annex_81, b_X6_annex_82, x_storeI_6, x_loadI_6, y_if_eq_t, y_if_eq_f, b_X6_annex_89, b_X6_annex_94, b_X6_annex_95, b_X6_annex_101, b_X6_annex_106, b_X6_annex_107, x_iinc_4, b_X6_annex_114, b_X6_annex_118, b_X6_annex_122, b_X6_annex_123, q_isL_I, q_isL_R, q_isL_S, true_and, and_true, and_self, List.length_nil, List.length_cons, Nat.zero_add, x_K, x_Kn, Int.reduceToNat, Nat.reduceAdd, Nat.reduceMul, Nat.reduceLeDiff, Nat.reduceLT, Nat.zero_le, Int.reduceAdd, Int.reduceSub, Int.reduceMul, Int.reduceNeg, q_add_e, q_sub_e, q_mul_e, q_neg_e, q_upd_s, q_upd_n, zr_shr0, zr_shr1, zr_shr2, zr_shr3, zr_shr4, zr_and, zr_dyn8, zr_or, zr_shl, q_cpy_n, y_cpy26]
          exact q_ans (hq M1 h1) (by first | (rw [E_annex_0, hE]; done) | (rw [E_annex_1, hE]))
        · have e5 : b = 5 := by omega
          subst e5
          subst k
          simp (disch := omega) only [b_X6_annex_0, x_loadI_1, x_iconst, y_if_ne_t, y_if_ne_f, b_X6_annex_9, x_ret0, b_X6_annex_12, x_storeI_2, x_storeI_3, x_storeI_4, x_loadI_4, y_ic_ge_t, y_ic_ge_f, b_X6_annex_25, x_loadR_0, x_loadS_0, f_6_3, x_imul, x_iadd, x_dup2, y_iald_40, y_iast_40, x_storeI_5, x_isub, x_loadI_2, y_ic_eq_t, y_ic_eq_f, b_X6_annex_71, x_loadI_5, x_loadI_3, y_ic_le_t, y_ic_le_f, b_X6_annex_77, x_goto, b_X6_annex_81, b_X6_annex_82, x_storeI_6, x_loadI_6, y_if_eq_t, y_if_eq_f, b_X6_annex_89, b_X6_annex_94, b_X6_annex_95, b_X6_annex_101, b_X6_annex_106, b_X6_annex_107, x_iinc_4, b_X6_annex_114, b_X6_annex_118, b_X6_annex_122, b_X6_annex_123, q_isL_I, q_isL_R, q_isL_S, true_and, and_true, and_self, List.length_nil, List.length_cons, Nat.zero_add, x_K, x_Kn, Int.reduceToNat, Nat.reduceAdd, Nat.reduceMul, Nat.reduceLeDiff, Nat.reduceLT, Nat.zero_le, Int.reduceAdd, Int.reduceSub, Int.reduceMul, Int.reduceNeg, q_add_e, q_sub_e, q_mul_e, q_neg_e, q_upd_s, q_upd_n, zr_shr0, zr_shr1, zr_shr2, zr_shr3, zr_shr4, zr_and, zr_dyn8, zr_or, zr_shl, q_cpy_n, y_cpy26]
          exact q_ans (hq M1 h1) (by first | (rw [E_annex_0, hE]; done) | (rw [E_annex_1, hE]))
      | succ j ih =>
        intro b hb M1 best most l5 l6 hE hl5 hl6 h1
        have hb5 : b < 5 := by omega
        have m1 := q_mq_ml h1 hm
        have r1 := m1.1.2.2.2.2.2.2.2.2.1 b hb5
        have r2 : M1 103 (4 * b + 1) ≤ 5 := by rw [h1 103 _ (by omega) (by omega)]; exact hR b hb5
        have m2 : q_ml V (q_upd M1 103 (4 * b + 1) (M1 103 (4 * b + 1) + 1)) := q_ml_up m1 (q_ok6 (by omega)) (by omega) (by omega) (by omega)
        have crt : ∀ (nx : Nat) (ops : List Instr) (ls st : List q_V), (∀ (M2 : q_M) (x : (Nat → Int) × (Nat → Int)), m_td V (q_upd M1 103 (4 * b + 1) (M1 103 (4 * b + 1) + 1)) M2 → q_iv (M2 100 0).toNat x → x = G_trn (mL M2) (mWn M2) (mR M2) (M2 100 0).toNat 1000 G_x0 → q_T 1 (d + 6) qP_X6_annex nx ops ls st g (q_yM M2 x) Q) → q_S 1 (d + 5) 170 [qR 6 100] g (q_upd M1 103 (4 * b + 1) (M1 103 (4 * b + 1) + 1)) (q_K 1 (d + 6) qP_X6_annex nx ops ls st Q) := fun nx ops ls st h => mp_courts m2 (fun M2 h2 => by
          have e0 : M2 100 0 = M1 100 0 := (h2.1 100 0 (by omega) (by omega)).trans (q_upd_n (by omega))
          have n1 := m1.1.1
          exact h M2 _ h2 (G_trn_iv (by omega) 1000 G_x0 G_x0_iv) rfl)
        rw [b_X6_annex_19]
        simp (disch := omega) only [b_X6_annex_0, x_loadI_1, x_iconst, y_if_ne_t, y_if_ne_f, b_X6_annex_9, x_ret0, b_X6_annex_12, x_storeI_2, x_storeI_3, x_storeI_4, x_loadI_4, y_ic_ge_t, y_ic_ge_f, b_X6_annex_25, x_loadR_0, x_loadS_0, f_6_3, x_imul, x_iadd, x_dup2, y_iald_40, y_iast_40, x_storeI_5, x_isub, x_loadI_2, y_ic_eq_t, y_ic_eq_f, b_X6_annex_71, x_loadI_5, x_loadI_3, y_ic_le_t, y_ic_le_f, b_X6_annex_77, x_goto, b_X6_annex_81, b_X6_annex_82, x_storeI_6, x_loadI_6, y_if_eq_t, y_if_eq_f, b_X6_annex_89, b_X6_annex_94, b_X6_annex_95, b_X6_annex_101, b_X6_annex_106, b_X6_annex_107, x_iinc_4, b_X6_annex_114, b_X6_annex_118, b_X6_annex_122, b_X6_annex_123, q_isL_I, q_isL_R, q_isL_S, true_and, and_true, and_self, List.length_nil, List.length_cons, Nat.zero_add, x_K, x_Kn, Int.reduceToNat, Nat.reduceAdd, Nat.reduceMul, Nat.reduceLeDiff, Nat.reduceLT, Nat.zero_le, Int.reduceAdd, Int.reduceSub, Int.reduceMul, Int.reduceNeg, q_add_e, q_sub_e, q_mul_e, q_neg_e, q_upd_s, q_upd_n, zr_shr0, zr_shr1, zr_shr2, zr_shr3, zr_shr4, zr_and, zr_dyn8, zr_or, zr_shl, q_cpy_n, y_cpy26, tn_41, c_X6_courts]
        refine crt _ _ _ _ (fun M2 x h2 hx hxe => ?_)
        have eW1 : mW (q_upd M1 103 (4 * b + 1) (M1 103 (4 * b + 1) + 1)) = q_upd (mW M) 6 b (mW M 6 b + 1) := by
          have e6 : mW M 6 b = M1 103 (4 * b + 1) := (if_pos hb5).trans (h1 103 _ (by omega) (by omega)).symm
          rw [mW_up6 hb5, q_mq_mW h1, e6]
        obtain ⟨g0, gL, gW, _, gR, _⟩ := m_td_e m2.1 h2
        rw [eW1, EL_r6.1] at gL
        rw [eW1, EL_r6.2] at gW
        rw [eW1] at gR
        have gn : (q_upd M1 103 (4 * b + 1) (M1 103 (4 * b + 1) + 1) 100 0).toNat = F_n (mW M) := by
          rw [q_upd_n (by omega), h1 100 0 (by omega) (by omega)]
          rfl
        have gn2 : (M2 100 0).toNat = F_n (mW M) := by rw [g0]; exact gn
        rw [gn] at gL gW
        have iv := hiv
        have nle : F_n (mW M) ≤ 5 := by have := iv.1; unfold F_n; omega
        have gy : F_sum (mL M2) x.1 (M2 100 0).toNat = E_ans V (mW M) b := by
          obtain ⟨k1, k2⟩ := G_trn_e (n := F_n (mW M)) (R := mR M2) (R' := F_u (mW M 6) b (mW M 6 b + 1)) nle gL gW (fun c hc => by
            rw [gR c hc]
            unfold F_u
            by_cases z : c = b
            · rw [if_pos z, z, q_upd_s]
            · rw [if_neg z, q_upd_n (by omega)]) 1000 G_x0 G_x0 (fun i _ => ⟨rfl, rfl⟩) (q_Jn_0 (fun c hc => by
            have := iv.2.2.1 c hc
            have := (F_cnt_le (mW M 4) c (F_n (mW M))).1
            have := iv.2.2.1 b hb5
            have := (F_cnt_le (mW M 4) b (F_n (mW M))).1
            unfold F_u
            split <;> omega))
          rw [hxe, gn2]
          exact F_sum_e (N := F_n (mW M)) gL (fun p hp => (k1 p hp).1) (fun p hp => by rw [(k1 p hp).1]; exact k2.2 p hp) _ (Nat.le_refl _)
        have e0 : M2 100 0 = M1 100 0 := (h2.1 100 0 (by omega) (by omega)).trans (q_upd_n (by omega))
        have n1 := m1.1.1
        have sm := fun (QQ : Option q_V → q_G → q_M → Prop) => mp_sumOf (d := d + 5) (g := g) (wt := 1) (M := M2) (x := x) (by omega) (by omega) (q_iv_x5 hx) (m_td_L h2) (m_td_W m2 h2) QQ
        have er : q_yM M2 x 103 (4 * b + 1) = M1 103 (4 * b + 1) + 1 := (ry_n (by omega) (by omega)).trans ((h2.1 103 _ (by omega) (by omega)).trans q_upd_s)
        have ex : M1 103 (4 * b + 1) + 1 - 1 = M1 103 (4 * b + 1) := by omega
        have h3 : q_mq M (q_upd (q_yM M2 x) 103 (4 * b + 1) (M1 103 (4 * b + 1))) := by
          intro a i q1 q2
          by_cases k : a = 103 ∧ i = 4 * b + 1
          · obtain ⟨rfl, rfl⟩ := k
            rw [q_upd_s]
            exact h1 103 _ (by omega) (by omega)
          · rw [q_upd_n (by omega), ry_n (by omega) (by omega), h2.1 a i q1 q2, q_upd_n (by omega)]
            exact h1 a i q1 q2
        simp (disch := omega) only [b_X6_annex_0, x_loadI_1, x_iconst, y_if_ne_t, y_if_ne_f, b_X6_annex_9, x_ret0, b_X6_annex_12, x_storeI_2, x_storeI_3, x_storeI_4, x_loadI_4, y_ic_ge_t, y_ic_ge_f, b_X6_annex_25, x_loadR_0, x_loadS_0, f_6_3, x_imul, x_iadd, x_dup2, y_iald_40, y_iast_40, x_storeI_5, x_isub, x_loadI_2, y_ic_eq_t, y_ic_eq_f, b_X6_annex_71, x_loadI_5, x_loadI_3, y_ic_le_t, y_ic_le_f, b_X6_annex_77, x_goto, b_X6_annex_81, b_X6_annex_82, x_storeI_6, x_loadI_6, y_if_eq_t, y_if_eq_f, b_X6_annex_89, b_X6_annex_94, b_X6_annex_95, b_X6_annex_101, b_X6_annex_106, b_X6_annex_107, x_iinc_4, b_X6_annex_114, b_X6_annex_118, b_X6_annex_122, b_X6_annex_123, q_isL_I, q_isL_R, q_isL_S, true_and, and_true, and_self, List.length_nil, List.length_cons, Nat.zero_add, x_K, x_Kn, Int.reduceToNat, Nat.reduceAdd, Nat.reduceMul, Nat.reduceLeDiff, Nat.reduceLT, Nat.zero_le, Int.reduceAdd, Int.reduceSub, Int.reduceMul, Int.reduceNeg, q_add_e, q_sub_e, q_mul_e, q_neg_e, q_upd_s, q_upd_n, zr_shr0, zr_shr1, zr_shr2, zr_shr3, zr_shr4, zr_and, zr_dyn8, zr_or, zr_shl, q_cpy_n, y_cpy26, tn_41, c_X6_sumOf, sm, if_true, er, ex, hl5]
        rw [gy]
        generalize hy : E_ans V (mW M) b = y
        by_cases k1 : best = -1
        · simp (disch := omega) only [b_X6_annex_0, x_loadI_1, x_iconst, y_if_ne_t, y_if_ne_f, b_X6_annex_9, x_ret0, b_X6_annex_12, x_storeI_2, x_storeI_3, x_storeI_4, x_loadI_4, y_ic_ge_t, y_ic_ge_f, b_X6_annex_25, x_loadR_0, x_loadS_0, f_6_3, x_imul, x_iadd, x_dup2, y_iald_40, y_iast_40, x_storeI_5, x_isub, x_loadI_2, y_ic_eq_t, y_ic_eq_f, b_X6_annex_71, x_loadI_5, x_loadI_3, y_ic_le_t, y_ic_le_f, b_X6_annex_77, x_goto, b_X6_annex_81, b_X6_annex_82, x_storeI_6, x_loadI_6, y_if_eq_t, y_if_eq_f, b_X6_annex_89, b_X6_annex_94, b_X6_annex_95, b_X6_annex_101, b_X6_annex_106, b_X6_annex_107, x_iinc_4, b_X6_annex_114, b_X6_annex_118, b_X6_annex_122, b_X6_annex_123, q_isL_I, q_isL_R, q_isL_S, true_and, and_true, and_self, List.length_nil, List.length_cons, Nat.zero_add, x_K, x_Kn, Int.reduceToNat, Nat.reduceAdd, Nat.reduceMul, Nat.reduceLeDiff, Nat.reduceLT, Nat.zero_le, Int.reduceAdd, Int.reduceSub, Int.reduceMul, Int.reduceNeg, q_add_e, q_sub_e, q_mul_e, q_neg_e, q_upd_s, q_upd_n, zr_shr0, zr_shr1, zr_shr2, zr_shr3, zr_shr4, zr_and, zr_dyn8, zr_or, zr_shl, q_cpy_n, y_cpy26, hl6]
          exact ih (b + 1) (by omega) _ _ _ _ _ (by rw [E_an, hE, hy, if_pos (Or.inl k1)]) rfl rfl h3
        · by_cases k2 : y ≤ most
          · simp (disch := omega) only [b_X6_annex_0, x_loadI_1, x_iconst, y_if_ne_t, y_if_ne_f, b_X6_annex_9, x_ret0, b_X6_annex_12, x_storeI_2, x_storeI_3, x_storeI_4, x_loadI_4, y_ic_ge_t, y_ic_ge_f, b_X6_annex_25, x_loadR_0, x_loadS_0, f_6_3, x_imul, x_iadd, x_dup2, y_iald_40, y_iast_40, x_storeI_5, x_isub, x_loadI_2, y_ic_eq_t, y_ic_eq_f, b_X6_annex_71, x_loadI_5, x_loadI_3, y_ic_le_t, y_ic_le_f, b_X6_annex_77, x_goto, b_X6_annex_81, b_X6_annex_82, x_storeI_6, x_loadI_6, y_if_eq_t, y_if_eq_f, b_X6_annex_89, b_X6_annex_94, b_X6_annex_95, b_X6_annex_101, b_X6_annex_106, b_X6_annex_107, x_iinc_4, b_X6_annex_114, b_X6_annex_118, b_X6_annex_122, b_X6_annex_123, q_isL_I, q_isL_R, q_isL_S, true_and, and_true, and_self, List.length_nil, List.length_cons, Nat.zero_add, x_K, x_Kn, Int.reduceToNat, Nat.reduceAdd, Nat.reduceMul, Nat.reduceLeDiff, Nat.reduceLT, Nat.zero_le, Int.reduceAdd, Int.reduceSub, Int.reduceMul, Int.reduceNeg, q_add_e, q_sub_e, q_mul_e, q_neg_e, q_upd_s, q_upd_n, zr_shr0, zr_shr1, zr_shr2, zr_shr3, zr_shr4, zr_and, zr_dyn8, zr_or, zr_shl, q_cpy_n, y_cpy26, hl6]
            exact ih (b + 1) (by omega) _ _ _ _ _ (by rw [E_an, hE, hy, if_neg (by simp only []; omega)]) rfl rfl h3
          · simp (disch := omega) only [b_X6_annex_0, x_loadI_1, x_iconst, y_if_ne_t, y_if_ne_f, b_X6_annex_9, x_ret0, b_X6_annex_12, x_storeI_2, x_storeI_3, x_storeI_4, x_loadI_4, y_ic_ge_t, y_ic_ge_f, b_X6_annex_25, x_loadR_0, x_loadS_0, f_6_3, x_imul, x_iadd, x_dup2, y_iald_40, y_iast_40, x_storeI_5, x_isub, x_loadI_2, y_ic_eq_t, y_ic_eq_f, b_X6_annex_71, x_loadI_5, x_loadI_3, y_ic_le_t, y_ic_le_f, b_X6_annex_77, x_goto, b_X6_annex_81, b_X6_annex_82, x_storeI_6, x_loadI_6, y_if_eq_t, y_if_eq_f, b_X6_annex_89, b_X6_annex_94, b_X6_annex_95, b_X6_annex_101, b_X6_annex_106, b_X6_annex_107, x_iinc_4, b_X6_annex_114, b_X6_annex_118, b_X6_annex_122, b_X6_annex_123, q_isL_I, q_isL_R, q_isL_S, true_and, and_true, and_self, List.length_nil, List.length_cons, Nat.zero_add, x_K, x_Kn, Int.reduceToNat, Nat.reduceAdd, Nat.reduceMul, Nat.reduceLeDiff, Nat.reduceLT, Nat.zero_le, Int.reduceAdd, Int.reduceSub, Int.reduceMul, Int.reduceNeg, q_add_e, q_sub_e, q_mul_e, q_neg_e, q_upd_s, q_upd_n, zr_shr0, zr_shr1, zr_shr2, zr_shr3, zr_shr4, zr_and, zr_dyn8, zr_or, zr_shl, q_cpy_n, y_cpy26, hl6]
            exact ih (b + 1) (by omega) _ _ _ _ _ (by rw [E_an, hE, hy, if_pos (Or.inr (by simp only []; omega))]) rfl rfl h3
    simp (disch := omega) only [b_X6_annex_0, x_loadI_1, x_iconst, y_if_ne_t, y_if_ne_f, b_X6_annex_9, x_ret0, b_X6_annex_12, x_storeI_2, x_storeI_3, x_storeI_4, x_loadI_4, y_ic_ge_t, y_ic_ge_f, b_X6_annex_25, x_loadR_0, x_loadS_0, f_6_3, x_imul, x_iadd, x_dup2, y_iald_40, y_iast_40, x_storeI_5, x_isub, x_loadI_2, y_ic_eq_t, y_ic_eq_f, b_X6_annex_71, x_loadI_5, x_loadI_3, y_ic_le_t, y_ic_le_f, b_X6_annex_77, x_goto, b_X6_annex_81, b_X6_annex_82, x_storeI_6, x_loadI_6, y_if_eq_t, y_if_eq_f, b_X6_annex_89, b_X6_annex_94, b_X6_annex_95, b_X6_annex_101, b_X6_annex_106, b_X6_annex_107, x_iinc_4, b_X6_annex_114, b_X6_annex_118, b_X6_annex_122, b_X6_annex_123, q_isL_I, q_isL_R, q_isL_S, true_and, and_true, and_self, List.length_nil, List.length_cons, Nat.zero_add, x_K, x_Kn, Int.reduceToNat, Nat.reduceAdd, Nat.reduceMul, Nat.reduceLeDiff, Nat.reduceLT, Nat.zero_le, Int.reduceAdd, Int.reduceSub, Int.reduceMul, Int.reduceNeg, q_add_e, q_sub_e, q_mul_e, q_neg_e, q_upd_s, q_upd_n, zr_shr0, zr_shr1, zr_shr2, zr_shr3, zr_shr4, zr_and, zr_dyn8, zr_or, zr_shl, q_cpy_n, y_cpy26, c_X6_in, mp_in, c1, and_self, if_true]
    exact loop 5 0 rfl M _ _ _ _ rfl rfl rfl q_mq_rf
  · simp (disch := omega) only [b_X6_annex_0, x_loadI_1, x_iconst, y_if_ne_t, y_if_ne_f, b_X6_annex_9, x_ret0, b_X6_annex_12, x_storeI_2, x_storeI_3, x_storeI_4, x_loadI_4, y_ic_ge_t, y_ic_ge_f, b_X6_annex_25, x_loadR_0, x_loadS_0, f_6_3, x_imul, x_iadd, x_dup2, y_iald_40, y_iast_40, x_storeI_5, x_isub, x_loadI_2, y_ic_eq_t, y_ic_eq_f, b_X6_annex_71, x_loadI_5, x_loadI_3, y_ic_le_t, y_ic_le_f, b_X6_annex_77, x_goto, b_X6_annex_81, b_X6_annex_82, x_storeI_6, x_loadI_6, y_if_eq_t, y_if_eq_f, b_X6_annex_89, b_X6_annex_94, b_X6_annex_95, b_X6_annex_101, b_X6_annex_106, b_X6_annex_107, x_iinc_4, b_X6_annex_114, b_X6_annex_118, b_X6_annex_122, b_X6_annex_123, q_isL_I, q_isL_R, q_isL_S, true_and, and_true, and_self, List.length_nil, List.length_cons, Nat.zero_add, x_K, x_Kn, Int.reduceToNat, Nat.reduceAdd, Nat.reduceMul, Nat.reduceLeDiff, Nat.reduceLT, Nat.zero_le, Int.reduceAdd, Int.reduceSub, Int.reduceMul, Int.reduceNeg, q_add_e, q_sub_e, q_mul_e, q_neg_e, q_upd_s, q_upd_n, zr_shr0, zr_shr1, zr_shr2, zr_shr3, zr_shr4, zr_and, zr_dyn8, zr_or, zr_shl, q_cpy_n, y_cpy26, c_X6_in, mp_in, c1, if_false]
    exact q_ans (hq M q_mq_rf) (E_annex_n c1).symm
theorem mz_annex {Vt : Nat → Nat → (Nat → Int) → Int} {d tm : Nat} {g : q_G} {M : q_M} {wt : Int} {Q : Option q_V → q_G → q_M → Prop} (hI : q_MI Vt tm M) (iv : q_ivS (mW M)) (hq : ∀ M2 : q_M, q_mq M M2 → Q (some (qI (E_annex (q_Vr Vt M) (mW M) wt))) g M2) : q_S 1 (d + 11) 175 [qR 6 100, qI wt] g M Q :=
  mp_annexE (d := d + 5) (q_MI_mi hI).1 hI.2.2.1 iv hq
end
