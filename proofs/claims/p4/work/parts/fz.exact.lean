/-! BOTH SIDES: questions, just so -/
theorem F_set_e {T T' : Nat → Int} : ∀ n : Nat, (∀ k, k < n → T k = T' k) → F_set T n = G_set T' n ∧ q_or (F_set T n) 0 = F_set T n
  | 0, _ => ⟨rfl, q_or_00⟩
  | k + 1, h => by
    obtain ⟨i1, i2⟩ := F_set_e k (fun j hj => h j (by omega))
    rw [F_set, G_set, ← i1, h k (by omega)]
    by_cases c : T' k = -1
    · rw [if_pos c, if_pos c]
      exact ⟨rfl, q_or_x0⟩
    · rw [if_neg c, if_neg c]
      exact ⟨i2.symm, i2⟩
theorem AB_rf {M : q_M} {s : Int} (R : q_Rsh M) : q_mwA M s = q_rfA M s := by
  unfold q_mwA q_rfA
  by_cases c : 0 ≤ s ∧ s < 4
  · obtain ⟨r1, r2, _⟩ := R s.toNat (by omega)
    rw [r1, r2, if_neg (show ¬¬(0 ≤ s ∧ s ≤ 3) by omega), if_neg (show ¬¬(0 ≤ s ∧ s < 4) by omega)]
  · rw [if_pos c, if_pos (show ¬(0 ≤ s ∧ s ≤ 3) by omega)]
theorem q_foA_e {V : Nat → (Nat → Int) → Int} {M S : q_M} {s p : Nat} (R : q_Rsh M) (hz : ∀ t, t < 4 → M 111 t ≤ 40) (hs : s < 4) (hS : q_ivS S) : q_foA V M S s p = G_foA V M S s p := by
  obtain ⟨r1, r2, r3⟩ := R s hs
  have := hz s hs
  unfold q_foA G_foA
  rw [r2]
  exact F_fo_e hS _ _ (fun k hk => r3 k (by omega))
theorem q_rfA_s {M : q_M} {s : Int} (h : ¬q_rfA M s ≠ 0) : 0 ≤ s ∧ s < 4 := by
  unfold q_rfA at h
  by_cases c : 0 ≤ s ∧ s < 4
  · exact c
  · rw [if_pos c] at h
    omega
/-- what a question on a sheet reads of the model -/
def q_frQ (M M1 : q_M) : Prop := ∀ a i, 100 ≤ a → a < 116 → M1 a i = M a i
theorem q_frQ_tq {M M1 : q_M} (h : q_tq M M1) : q_frQ M M1 := fun a i h1 h2 => h a i (by omega) (by omega) (by omega) (by omega)
theorem q_frQ_W {M M1 : q_M} (h : q_frQ M M1) : mW M1 = mW M := mW_same (fun a i ha => h a i (by omega) (by omega))
theorem q_twA_fr {M M1 : q_M} {s p : Int} (h : q_frQ M M1) : q_mwA M1 s = q_mwA M s ∧ q_twA M1 s p = q_twA M s p := by
  have e : q_mwA M1 s = q_mwA M s := by
    unfold q_mwA
    rw [h 110 _ (by omega) (by omega), h 111 _ (by omega) (by omega)]
  refine ⟨e, ?_⟩
  unfold q_twA
  rw [e, h 100 0 (by omega) (by omega)]
theorem G_foA_fr {V : Nat → (Nat → Int) → Int} {M M1 S : q_M} {s p : Nat} (h : q_frQ M M1) : G_foA V M1 S s p = G_foA V M S s p := G_foA_mq (fun i => h 112 i (by omega) (by omega)) (h 111 s (by omega) (by omega))
section SHEETS
variable {V : Nat → (Nat → Int) → Int} {M M1 : q_M} {s p so : Int}
theorem AB_tw (W : q_Rw M) : (q_rfA M s ≠ 0 ∧ q_twA M s p = q_rfA M s) ∨ (¬q_rfA M s ≠ 0 ∧ ¬(0 ≤ p ∧ p < M 12 5) ∧ q_twA M s p = -5) ∨ (¬q_rfA M s ≠ 0 ∧ (0 ≤ p ∧ p < M 12 5) ∧ q_twA M s p = 0) := by
  unfold q_twA
  rw [AB_rf W.2.2.1, q_Rw_90 W]
  by_cases c : q_rfA M s ≠ 0
  · exact Or.inl ⟨c, if_pos c⟩
  · by_cases c2 : 0 ≤ p ∧ p < M 100 0
    · exact Or.inr (Or.inr ⟨c, c2, by rw [if_neg c, if_pos (by omega)]⟩)
    · exact Or.inr (Or.inl ⟨c, c2, by rw [if_neg c, if_neg (by omega)]⟩)
theorem AB_judge (W : q_Rw M) (hz : ∀ t, t < 4 → M 111 t ≤ 40) (f : q_frQ M M1) : A_judge V M s p = B_judge V M1 s p := by
  unfold A_judge B_judge
  rw [(q_twA_fr f).2, G_foA_fr f, q_frQ_W f]
  rcases AB_tw (s := s) (p := p) W with ⟨c, t⟩ | ⟨c, c2, t⟩ | ⟨c, c2, t⟩
  · rw [t, if_pos c, if_neg c]
  · rw [t, if_neg c, if_pos c2, if_neg (show ¬(-5 : Int) = 0 by omega)]
  · rw [t, if_neg c, if_neg (show ¬¬(0 ≤ p ∧ p < M 12 5) from fun z => z c2), if_pos rfl]
    rw [W.1]
    exact q_foA_e W.2.2.1 hz (by have := q_rfA_s c; omega) W.2.1
theorem AB_kinds (W : q_Rw M) (hz : ∀ t, t < 4 → M 111 t ≤ 40) (f : q_frQ M M1) : A_kinds V M s p so = B_kinds V M1 s p so := by
  unfold A_kinds B_kinds
  rw [(q_twA_fr f).2, q_frQ_W f, W.1]
  rcases AB_tw (s := s) (p := p) W with ⟨c, t⟩ | ⟨c, c2, t⟩ | ⟨c, c2, t⟩
  · rw [t, if_pos c, if_pos c]
  · rw [t, if_neg c, if_pos c2, if_pos (show (-5 : Int) ≠ 0 by omega)]
  · rw [t, if_neg c, if_neg (show ¬¬(0 ≤ p ∧ p < M 12 5) from fun z => z c2), if_neg (show ¬(0 : Int) ≠ 0 by omega)]
    by_cases c3 : 0 ≤ so ∧ so ≤ 1
    · rw [if_neg (show ¬¬(0 ≤ so ∧ so ≤ 1) from fun z => z c3), if_neg (show ¬¬(0 ≤ so ∧ so ≤ 1) from fun z => z c3)]
      refine (F_set_e _ (fun k hk => ?_)).1
      rw [G_foA_fr f]
      exact q_foA_e W.2.2.1 hz (by have := q_rfA_s c; omega) (q_ivS_same W.2.1 (q_upd_o (by omega)) (q_upd_n (by omega)) (fun b hb => by rw [q_upd_n (by omega)]; exact W.2.1.2.2.1 b hb) (q_upd_o (by omega)) (q_upd_o (by omega)))
    · rw [if_pos c3, if_pos c3]
theorem AB_whose (W : q_Rw M) (hz : ∀ t, t < 4 → M 111 t ≤ 40) (f : q_frQ M M1) : A_whose V M s = B_whose V M1 s := by
  unfold A_whose B_whose
  rw [(q_twA_fr (p := 0) f).1, q_frQ_W f, AB_rf W.2.2.1, W.1, q_Rw_90 W, f 100 0 (by omega) (by omega)]
  by_cases c : q_rfA M s ≠ 0
  · rw [if_pos c, if_pos c]
  · rw [if_neg c, if_neg c]
    refine (F_set_e _ (fun k hk => ?_)).1
    rw [G_foA_fr f]
    exact q_foA_e W.2.2.1 hz (by have := q_rfA_s c; omega) W.2.1
theorem AB_laws {Vt : Nat → Nat → (Nat → Int) → Int} {tm : Nat} (W : q_Rw M) (hz : ∀ t, t < 4 → M 111 t ≤ 40) (f : q_frQ M M1) : A_laws Vt tm M s p = B_laws Vt tm M1 s p := by
  unfold A_laws B_laws
  rw [(q_twA_fr f).2, q_frQ_W f, W.1]
  rcases AB_tw (s := s) (p := p) W with ⟨c, t⟩ | ⟨c, c2, t⟩ | ⟨c, c2, t⟩
  · rw [t, if_pos c, if_pos c]
  · rw [t, if_neg c, if_pos c2, if_pos (show (-5 : Int) ≠ 0 by omega)]
  · rw [t, if_neg c, if_neg (show ¬¬(0 ≤ p ∧ p < M 12 5) from fun z => z c2), if_neg (show ¬(0 : Int) ≠ 0 by omega)]
    refine (F_set_e _ (fun k hk => ?_)).1
    rw [G_foA_fr f]
    exact q_foA_e W.2.2.1 hz (by have := q_rfA_s c; omega) W.2.1
end SHEETS
theorem AB_drawn {V : Nat → (Nat → Int) → Int} {S : q_M} {seed wt : Int} (h : q_ivS S) : A_drawn V S seed wt = B_drawn V S seed wt := by
  unfold A_drawn B_drawn
  by_cases c : (0 ≤ seed ∧ seed ≤ 99999) ∧ (0 ≤ wt ∧ wt ≤ 1)
  · rw [if_neg (show ¬(seed < 0 ∨ 100000 ≤ seed ∨ wt < 0 ∨ 1 < wt) by omega), if_neg (show ¬¬((0 ≤ seed ∧ seed ≤ 99999) ∧ (0 ≤ wt ∧ wt ≤ 1)) from fun z => z c), (F_wth_e h c.1.1 8).1]
  · rw [if_pos (by omega), if_pos c]
/-! the lowest terms -/
theorem F_com_gcd {a b : Int} (ha : 0 ≤ a) (hb : 0 < b) : ∀ k : Nat, (k : Int) < b → (∀ j : Nat, (k : Int) + 1 < j → (j : Int) ≤ b → ¬(a % j = 0 ∧ b % j = 0)) → F_com a b k = (Nat.gcd a.toNat b.toNat : Nat) := by
  obtain ⟨A, rfl⟩ : ∃ n : Nat, a = n := ⟨a.toNat, by omega⟩
  obtain ⟨B, rfl⟩ : ∃ n : Nat, b = n := ⟨b.toNat, by omega⟩
  rw [Int.toNat_natCast, Int.toNat_natCast]
  have gB : Nat.gcd A B ∣ B := Nat.gcd_dvd_right A B
  have gA : Nat.gcd A B ∣ A := Nat.gcd_dvd_left A B
  have gle : Nat.gcd A B ≤ B := Nat.le_of_dvd (by omega) gB
  have gpos : 0 < Nat.gcd A B := Nat.gcd_pos_of_pos_right A (by omega)
  have dv : ∀ j : Nat, ((A : Int) % j = 0 ∧ (B : Int) % j = 0) ↔ (j ∣ A ∧ j ∣ B) := fun j => by
    rw [← Int.natCast_emod, ← Int.natCast_emod]
    constructor
    · intro h
      exact ⟨Nat.dvd_of_mod_eq_zero (by omega), Nat.dvd_of_mod_eq_zero (by omega)⟩
    · intro h
      rw [Nat.mod_eq_zero_of_dvd h.1, Nat.mod_eq_zero_of_dvd h.2]
      exact ⟨rfl, rfl⟩
  intro k
  induction k with
  | zero =>
    intro hk h
    rw [F_com]
    by_cases c : 1 < Nat.gcd A B
    · exact absurd ((dv _).mpr ⟨gA, gB⟩) (h (Nat.gcd A B) (by omega) (by omega))
    · omega
  | succ k ih =>
    intro hk h
    rw [F_com]
    have e2 : ((k + 2 : Nat) : Int) = (k : Int) + 2 := by omega
    by_cases c : (A : Int) % ((k : Int) + 2) = 0 ∧ (B : Int) % ((k : Int) + 2) = 0
    · rw [if_pos c]
      rw [← e2] at c
      have d := Nat.dvd_gcd ((dv (k + 2)).mp c).1 ((dv (k + 2)).mp c).2
      have l1 := Nat.le_of_dvd gpos d
      by_cases e : Nat.gcd A B = k + 2
      · omega
      · exact absurd ((dv _).mpr ⟨gA, gB⟩) (h (Nat.gcd A B) (by omega) (by omega))
    · rw [if_neg c]
      refine ih (by omega) (fun j hj1 hj2 => ?_)
      by_cases e : j = k + 2
      · subst e
        rw [e2]
        exact c
      · exact h j (by omega) hj2
theorem F_low_e {a b part : Int} (ha : 0 ≤ a) (hb : 0 < b) (hp : 0 ≤ part ∧ part ≤ 1) : F_low a b part = B_low a b part := by
  unfold F_low B_low
  rw [if_neg (by omega), F_com_gcd ha hb (b - 1).toNat (by omega) (fun j h1 h2 => by omega)]
  by_cases c : a = 0
  · rw [if_pos c, c]
    rw [show (0 : Int).toNat = 0 from rfl, Nat.gcd_zero_left]
    by_cases c2 : part = 0
    · rw [if_pos c2, c2]
      exact Int.zero_ediv _
    · rw [if_neg c2, show ((b.toNat : Nat) : Int) = b by omega, Int.ediv_self (by omega)]
      omega
  · rw [if_neg c]
theorem F_odd_0 {V : Nat → (Nat → Int) → Int} {S : q_M} {seed most : Int} : ∀ k : Nat, 0 ≤ F_odd V S seed most k
  | 0 => by rw [F_odd]; omega
  | k + 1 => by
    have := F_odd_0 (V := V) (S := S) (seed := seed) (most := most) k
    rw [F_odd]
    (try split) <;> omega
theorem AB_odds {V : Nat → (Nat → Int) → Int} {S : q_M} {seed seeds most part : Int} (h : q_ivS S) : A_odds V S seed seeds most part = B_odds V S seed seeds most part := by
  unfold A_odds B_odds
  by_cases c : (0 ≤ seed ∧ seed ≤ 99999) ∧ (1 ≤ seeds ∧ seeds ≤ 40) ∧ (0 ≤ most ∧ most ≤ 5) ∧ (0 ≤ part ∧ part ≤ 1)
  · rw [if_neg (show ¬((seed < 0 ∨ 100000 ≤ seed ∨ seeds < 1 ∨ 40 < seeds) ∨ (most < 0 ∨ 5 < most ∨ part < 0 ∨ 1 < part)) by omega), if_neg (show ¬¬((0 ≤ seed ∧ seed ≤ 99999) ∧ (1 ≤ seeds ∧ seeds ≤ 40) ∧ (0 ≤ most ∧ most ≤ 5) ∧ (0 ≤ part ∧ part ≤ 1)) from fun z => z c), ← F_odd_e h c.1.1 seeds.toNat]
    exact F_low_e (F_odd_0 _) (by omega) c.2.2.2
  · rw [if_pos (by omega), if_pos c]
theorem AB_share {M : q_M} {part : Int} (W : q_Rw M) (hb : q_mb M) : A_share M part = B_share M part := by
  have n0 := hb.1
  have e5 := q_Rw_90 W
  have h3 : ∀ k, k < (M 100 0).toNat → M 36 k = M 104 (3 * k + 1) := fun k hk => by
    have := congrFun (congrFun W.1 3) k
    have l : cW M 11 3 k = M 36 k := if_pos (show k < (M 12 5).toNat by omega)
    have r : mW M 3 k = M 104 (3 * k + 1) := if_pos hk
    rw [← l, this, r]
  have h4 : ∀ k, k < (M 100 0).toNat → M 14 k = mIn M k := fun k hk => by
    have := congrFun (congrFun W.1 4) k
    have l : cW M 11 4 k = M 14 k := if_pos (show k < (M 12 5).toNat by omega)
    have r : mW M 4 k = mIn M k := if_pos hk
    rw [← l, this, r]
  have ew : F_wt (M 36) (M 14) (M 12 5).toNat = F_wt (fun i => M 104 (3 * i + 1)) (mIn M) (M 100 0).toNat := by
    rw [e5]
    exact F_wt_cong _ h3 h4
  have le := F_wt_le5 (f := mIn M) (W := fun i => M 104 (3 * i + 1)) (N := 5) (fun i hi => hb.2.2.2.2.2.1 i hi) (M 100 0).toNat (by omega)
  unfold A_share B_share
  rw [ew]
  by_cases c : 0 ≤ part ∧ part ≤ 1
  · rw [if_neg (by omega)]
    by_cases c2 : 0 < (F_wt (fun i => M 104 (3 * i + 1)) (mIn M) (M 100 0).toNat).2
    · rw [if_pos ⟨c, c2⟩]
      exact F_low_e le.1 c2 c
    · rw [if_neg (fun z => c2 z.2)]
      unfold F_low
      rw [if_pos (by omega)]
  · rw [if_pos (by omega), if_neg (fun z => c z.1)]
theorem q_rnA_e {M : q_M} {wt : Int} (h : wt = 0 ∨ wt = 1 ∨ (wt - 10).toNat < F_n (cW M 38)) : q_rnA M wt = B_rnA (cW M 38) wt := by
  have en : F_n (cW M 38) = (M 39 5).toNat := rfl
  have e4 : ∀ k, k < (M 39 5).toNat → M (39 + 2) k = cW M 38 4 k := fun k hk => (if_pos hk).symm
  unfold q_rnA B_rnA
  rw [en]
  by_cases c0 : wt = 0
  · rw [if_pos c0, if_pos c0]
    exact F_dig_cong _ e4
  · rw [if_neg c0, if_neg c0]
    by_cases c1 : wt = 1
    · rw [if_pos c1, if_pos c1]
      exact F_cnt_cong _ e4
    · rw [if_neg c1, if_neg c1]
      exact (if_pos (show (wt - 10).toNat < (M 39 5).toNat by rw [en] at h; omega)).symm
theorem B_run_y {V : Nat → (Nat → Int) → Int} {S : q_M} {n wt : Int} (h : q_ivS S) (h1 : 0 ≤ n ∧ n ≤ 40) (h2 : wt = 0 ∨ wt = 1 ∨ (0 ≤ wt - 10 ∧ wt - 10 < S 9 0)) : B_run V S n wt = B_rnA (F_ys V S n.toNat) wt := by
  unfold B_run
  rw [if_neg (by omega), (F_ys_e h n.toNat).1]
theorem B_run_n {V : Nat → (Nat → Int) → Int} {S : q_M} {n wt : Int} (h : ¬(0 ≤ n ∧ n ≤ 40) ∨ ¬(wt = 0 ∨ wt = 1 ∨ (0 ≤ wt - 10 ∧ wt - 10 < S 9 0))) : B_run V S n wt = -2 := by
  unfold B_run
  rw [if_pos (by omega)]
theorem B_when_y {V : Nat → (Nat → Int) → Int} {S : q_M} {p wt : Int} (h : q_ivS S) (h1 : 0 ≤ p ∧ p < S 9 0) (h2 : wt = -1 ∨ (0 ≤ wt ∧ wt < 5)) : B_when V S p wt = F_till V S p.toNat wt 60 0 := by
  unfold B_when
  rw [if_neg (by omega), if_neg (by omega), F_till_e h]
theorem cy_cart {Vt : Nat → Nat → (Nat → Int) → Int} {d tm l sl : Nat} {g : q_G} {M : q_M} {p wt : Int} {Q : Option q_V → q_G → q_M → Prop} (C : q_XI Vt tm l sl M) (hq : ∀ M2 : q_M, q_tq M M2 → Q (some (qI (A_cart (Vt l) (cW M 11) p wt))) g M2) : q_S 1 (d + 50) 81 [qR 5 0, qI p, qI wt] g M Q :=
  sp_cart (d := d + 44) C.2.2.1 hq
theorem mz_cart {Vt : Nat → Nat → (Nat → Int) → Int} {d tm : Nat} {g : q_G} {M : q_M} {p wt : Int} {Q : Option q_V → q_G → q_M → Prop} (hI : q_MI Vt tm M) (hq : ∀ M2 : q_M, q_mq M M2 → Q (some (qI (B_cart (q_Vr Vt M) (mW M) p wt))) g M2) : q_S 1 (d + 11) 176 [qR 6 100, qI p, qI wt] g M Q :=
  mp_cart (d := d + 2) (q_MI_mi hI) hq
theorem cy_judge {Vt : Nat → Nat → (Nat → Int) → Int} {d tm l sl : Nat} {g : q_G} {M : q_M} {s p : Int} {Q : Option q_V → q_G → q_M → Prop} (C : q_XI Vt tm l sl M) (hq : ∀ M2 : q_M, q_tq M M2 → Q (some (qI (A_judge (Vt l) M s p))) g M2) : q_S 1 (d + 50) 83 [qR 5 0, qI s, qI p] g M Q :=
  sp_judge (d := d + 44) C.2.2.1 hq
theorem mz_judge {Vt : Nat → Nat → (Nat → Int) → Int} {d tm : Nat} {g : q_G} {M : q_M} {s p : Int} {Q : Option q_V → q_G → q_M → Prop} (hI : q_MI Vt tm M) (hq : ∀ M2 : q_M, q_mq M M2 → Q (some (qI (B_judge (q_Vr Vt M) M s p))) g M2) : q_S 1 (d + 11) 182 [qR 6 100, qI s, qI p] g M Q :=
  mp_judge (d := d + 2) (q_MI_mi hI) hq
theorem cy_kinds {Vt : Nat → Nat → (Nat → Int) → Int} {d tm l sl : Nat} {g : q_G} {M : q_M} {s p so : Int} {Q : Option q_V → q_G → q_M → Prop} (C : q_XI Vt tm l sl M) (hq : ∀ M2 : q_M, q_tq M M2 → Q (some (qI (A_kinds (Vt l) M s p so))) g M2) : q_S 1 (d + 50) 84 [qR 5 0, qI s, qI p, qI so] g M Q :=
  sp_kinds (d := d + 44) C.2.2.1 hq
theorem mz_kinds {Vt : Nat → Nat → (Nat → Int) → Int} {d tm : Nat} {g : q_G} {M : q_M} {s p so : Int} {Q : Option q_V → q_G → q_M → Prop} (hI : q_MI Vt tm M) (hq : ∀ M2 : q_M, q_mq M M2 → Q (some (qI (B_kinds (q_Vr Vt M) M s p so))) g M2) : q_S 1 (d + 11) 183 [qR 6 100, qI s, qI p, qI so] g M Q :=
  mp_kinds (d := d + 2) (q_MI_mi hI) hq
theorem cy_whose {Vt : Nat → Nat → (Nat → Int) → Int} {d tm l sl : Nat} {g : q_G} {M : q_M} {s : Int} {Q : Option q_V → q_G → q_M → Prop} (C : q_XI Vt tm l sl M) (hq : ∀ M2 : q_M, q_tq M M2 → Q (some (qI (A_whose (Vt l) M s))) g M2) : q_S 1 (d + 50) 86 [qR 5 0, qI s] g M Q :=
  sp_whose (d := d + 44) C.2.2.1 hq
theorem mz_whose {Vt : Nat → Nat → (Nat → Int) → Int} {d tm : Nat} {g : q_G} {M : q_M} {s : Int} {Q : Option q_V → q_G → q_M → Prop} (hI : q_MI Vt tm M) (hq : ∀ M2 : q_M, q_mq M M2 → Q (some (qI (B_whose (q_Vr Vt M) M s))) g M2) : q_S 1 (d + 11) 185 [qR 6 100, qI s] g M Q :=
  mp_whose (d := d + 2) (q_MI_mi hI) hq
theorem cy_laws {Vt : Nat → Nat → (Nat → Int) → Int} {d tm l sl : Nat} {g : q_G} {M : q_M} {s p : Int} {Q : Option q_V → q_G → q_M → Prop} (C : q_XI Vt tm l sl M) (hq : ∀ M2 : q_M, q_tq M M2 → Q (some (qI (A_laws Vt tm M s p))) g M2) : q_S 1 (d + 50) 87 [qR 5 0, qI s, qI p] g M Q :=
  sp_laws (d := d + 44) C.2.2.1 C.1 hq
theorem mz_laws {Vt : Nat → Nat → (Nat → Int) → Int} {d tm : Nat} {g : q_G} {M : q_M} {s p : Int} {Q : Option q_V → q_G → q_M → Prop} (hI : q_MI Vt tm M) (hq : ∀ M2 : q_M, q_mq M M2 → Q (some (qI (B_laws Vt tm M s p))) g M2) : q_S 1 (d + 11) 186 [qR 6 100, qI s, qI p] g M Q :=
  mp_laws (d := d + 2) (q_MI_mi hI) hI.2.2.2.2.1 hq
theorem cy_drawn {Vt : Nat → Nat → (Nat → Int) → Int} {d tm l sl : Nat} {g : q_G} {M : q_M} {seed wt : Int} {Q : Option q_V → q_G → q_M → Prop} (C : q_XI Vt tm l sl M) (hq : ∀ M2 : q_M, q_tq M M2 → Q (some (qI (A_drawn (Vt l) (cW M 11) seed wt))) g M2) : q_S 1 (d + 50) 89 [qR 5 0, qI seed, qI wt] g M Q :=
  sp_drawn (d := d + 44) C.2.2.1 hq
theorem mz_drawn {Vt : Nat → Nat → (Nat → Int) → Int} {d tm : Nat} {g : q_G} {M : q_M} {seed wt : Int} {Q : Option q_V → q_G → q_M → Prop} (hI : q_MI Vt tm M) (hq : ∀ M2 : q_M, q_mq M M2 → Q (some (qI (B_drawn (q_Vr Vt M) (mW M) seed wt))) g M2) : q_S 1 (d + 11) 189 [qR 6 100, qI seed, qI wt] g M Q :=
  mp_drawn (d := d + 2) (q_MI_mi hI) hq
theorem cy_odds {Vt : Nat → Nat → (Nat → Int) → Int} {d tm l sl : Nat} {g : q_G} {M : q_M} {seed seeds most part : Int} {Q : Option q_V → q_G → q_M → Prop} (C : q_XI Vt tm l sl M) (hq : ∀ M2 : q_M, q_tq M M2 → Q (some (qL (A_odds (Vt l) (cW M 11) seed seeds most part))) g M2) : q_S 1 (d + 50) 90 [qR 5 0, qI seed, qI seeds, qI most, qI part] g M Q :=
  sp_odds (d := d + 44) C.2.2.1 hq
theorem mz_odds {Vt : Nat → Nat → (Nat → Int) → Int} {d tm : Nat} {g : q_G} {M : q_M} {seed seeds most part : Int} {Q : Option q_V → q_G → q_M → Prop} (hI : q_MI Vt tm M) (hq : ∀ M2 : q_M, q_mq M M2 → Q (some (qL (B_odds (q_Vr Vt M) (mW M) seed seeds most part))) g M2) : q_S 1 (d + 11) 190 [qR 6 100, qI seed, qI seeds, qI most, qI part] g M Q :=
  mp_odds (d := d + 2) (q_MI_mi hI) hq
theorem cy_share {Vt : Nat → Nat → (Nat → Int) → Int} {d tm l sl : Nat} {g : q_G} {M : q_M} {part : Int} {Q : Option q_V → q_G → q_M → Prop} (C : q_XI Vt tm l sl M) (hq : ∀ M2 : q_M, q_tq M M2 → Q (some (qL (A_share M part))) g M2) : q_S 1 (d + 50) 82 [qR 5 0, qI part] g M Q :=
  sp_share (d := d + 49) C.2.2.1.2.1 (hq M q_tq_rf)
theorem mz_share {Vt : Nat → Nat → (Nat → Int) → Int} {d tm : Nat} {g : q_G} {M : q_M} {part : Int} {Q : Option q_V → q_G → q_M → Prop} (hI : q_MI Vt tm M) (hq : ∀ M2 : q_M, q_mq M M2 → Q (some (qL (B_share M part))) g M2) : q_S 1 (d + 11) 178 [qR 6 100, qI part] g M Q :=
  mp_share (d := d + 10) hI.1 (hq M q_mq_rf)
theorem mz_run {Vt : Nat → Nat → (Nat → Int) → Int} {d tm : Nat} {g : q_G} {M : q_M} {n wt : Int} {Q : Option q_V → q_G → q_M → Prop} (hI : q_MI Vt tm M) (hq : ∀ M2 : q_M, q_mq M M2 → Q (some (qI (B_run (q_Vr Vt M) (mW M) n wt))) g M2) : q_S 1 (d + 11) 156 [qR 6 100, qI n, qI wt] g M Q :=
  mp_run (d := d + 3) (q_MI_mi hI) hq
theorem mz_when {Vt : Nat → Nat → (Nat → Int) → Int} {d tm : Nat} {g : q_G} {M : q_M} {p wt : Int} {Q : Option q_V → q_G → q_M → Prop} (hI : q_MI Vt tm M) (hq : ∀ M2 : q_M, q_mq M M2 → Q (some (qI (B_when (q_Vr Vt M) (mW M) p wt))) g M2) : q_S 1 (d + 11) 158 [qR 6 100, qI p, qI wt] g M Q :=
  mp_when (d := d + 2) (q_MI_mi hI) hq
set_option maxHeartbeats 4000000 in
theorem cy_run {Vt : Nat → Nat → (Nat → Int) → Int} {d tm l sl : Nat} {g : q_G} {M : q_M} {n wt : Int} {Q : Option q_V → q_G → q_M → Prop} (C : q_XI Vt tm l sl M) (iv : q_ivS (cW M 11)) (hq : ∀ M2 : q_M, q_tq M M2 → Q (some (qI (B_run (Vt l) (cW M 11) n wt))) g M2) (hwt : -2147483648 ≤ wt ∧ wt ≤ 2147483647) : q_S 1 (d + 50) 75 [qR 5 0, qI n, qI wt] g M Q := by
  have T := C.1
  have c := C.2.2.1
  have w := c.2.1
  have n5 := q_ci_n c
  have tas := c.1
  have e9 : cW M 11 9 0 = M 12 5 := rfl
  have fail : (¬(0 ≤ n ∧ n ≤ 40) ∨ ¬(wt = 0 ∨ wt = 1 ∨ (0 ≤ wt - 10 ∧ wt - 10 < cW M 11 9 0))) → Q (some (qI (-2))) g M := fun z => by
    have hq2 := hq M q_tq_rf
    rw [B_run_n z] at hq2
    exact hq2
  by_cases c1 : 0 ≤ n ∧ n ≤ 40
  · by_cases c2 : wt = 0 ∨ wt = 1 ∨ (0 ≤ wt - 10 ∧ wt - 10 < M 12 5)
    · obtain ⟨N, rfl⟩ : ∃ k : Nat, n = k := ⟨n.toNat, by omega⟩
      refine sp_run (d := d + 45) (q_ci_t c) w c.2.2.1 c.2.2.2.2.1.1 c.2.2.2.2.2.1 (by omega) c2 (fun M2 h h2 h3 => ?_)
      have hq2 := hq M2 (q_tq_th tas h)
      rw [B_run_y iv (by omega) (by omega), Int.toNat_natCast, ← h3] at hq2
      rw [q_rnA_e (by
        have e : (F_n (cW M2 38)) = F_n (cW M 11) := by rw [h3]; exact (F_ys_e iv N).1 ▸ (F_ys_e iv N).2.2
        have e2 : F_n (cW M 11) = (M 12 5).toNat := rfl
        omega)]
      exact hq2
    · by_cases c3 : -2147483638 ≤ wt
      · have c4 : ¬(0 ≤ wt - 10 ∧ wt - 10 < M 12 5) := by omega
        rw [s_X5_run]
        simp (disch := omega) only [b_X5_run_0, x_loadI_1, y_if_lt_t, y_if_lt_f, b_X5_run_4, x_iconst, y_ic_le_t, y_ic_le_f, b_X5_run_10, x_ret0, b_X5_run_13, x_loadI_2, y_if_eq_t, y_if_eq_f, b_X5_run_17, y_ic_ne_t, y_ic_ne_f, b_X5_run_22, x_goto, b_X5_run_26, b_X5_run_27, x_storeI_3, x_loadI_3, y_if_ne_t, y_if_ne_f, b_X5_run_32, x_loadR_0, x_loadS_0, x_isub, b_X5_run_43, b_X5_run_46, f_5_4, f_5_3, x_storeI_4, b_X5_run_60, x_loadI_4, y_ic_ge_t, y_ic_ge_f, b_X5_run_66, x_popI, x_popR, x_iinc_4, b_X5_run_80, b_X5_run_84, b_X5_run_88, f_4_0, b_X5_run_101, b_X5_run_111, b_X5_run_112, f_4_6, y_iald_26, q_isL_I, q_isL_R, q_isL_S, true_and, and_true, and_self, List.length_nil, List.length_cons, Nat.zero_add, x_K, x_Kn, Int.reduceToNat, Nat.reduceAdd, Nat.reduceMul, Nat.reduceLeDiff, Nat.reduceLT, Nat.zero_le, Int.reduceAdd, Int.reduceSub, Int.reduceMul, Int.reduceNeg, q_add_e, q_sub_e, q_mul_e, q_neg_e, q_upd_s, q_upd_n, zr_shr0, zr_shr1, zr_shr2, zr_shr3, zr_shr4, zr_and, zr_dyn8, zr_or, zr_shl, q_cpy_n, y_cpy26, c_X5_isStone, sp_isStone, c4, if_false]
        exact fail (by omega)
      · have e : q_sub wt 10 = wt - 10 + 4294967296 := by
          rw [q_sub_b, Int.bmod_def]
          split <;> omega
        have c4 : ¬(0 ≤ wt - 10 + 4294967296 ∧ wt - 10 + 4294967296 < M 12 5) := by omega
        rw [s_X5_run]
        simp (disch := omega) only [b_X5_run_0, x_loadI_1, y_if_lt_t, y_if_lt_f, b_X5_run_4, x_iconst, y_ic_le_t, y_ic_le_f, b_X5_run_10, x_ret0, b_X5_run_13, x_loadI_2, y_if_eq_t, y_if_eq_f, b_X5_run_17, y_ic_ne_t, y_ic_ne_f, b_X5_run_22, x_goto, b_X5_run_26, b_X5_run_27, x_storeI_3, x_loadI_3, y_if_ne_t, y_if_ne_f, b_X5_run_32, x_loadR_0, x_loadS_0, x_isub, b_X5_run_43, b_X5_run_46, f_5_4, f_5_3, x_storeI_4, b_X5_run_60, x_loadI_4, y_ic_ge_t, y_ic_ge_f, b_X5_run_66, x_popI, x_popR, x_iinc_4, b_X5_run_80, b_X5_run_84, b_X5_run_88, f_4_0, b_X5_run_101, b_X5_run_111, b_X5_run_112, f_4_6, y_iald_26, q_isL_I, q_isL_R, q_isL_S, true_and, and_true, and_self, List.length_nil, List.length_cons, Nat.zero_add, x_K, x_Kn, Int.reduceToNat, Nat.reduceAdd, Nat.reduceMul, Nat.reduceLeDiff, Nat.reduceLT, Nat.zero_le, Int.reduceAdd, Int.reduceSub, Int.reduceMul, Int.reduceNeg, q_add_e, q_sub_e, q_mul_e, q_neg_e, q_upd_s, q_upd_n, zr_shr0, zr_shr1, zr_shr2, zr_shr3, zr_shr4, zr_and, zr_dyn8, zr_or, zr_shl, q_cpy_n, y_cpy26, c_X5_isStone, sp_isStone, e, c4, if_false]
        exact fail (by omega)
  · rw [s_X5_run]
    by_cases c5 : n < 0
    · simp (disch := omega) only [b_X5_run_0, x_loadI_1, y_if_lt_t, y_if_lt_f, b_X5_run_4, x_iconst, y_ic_le_t, y_ic_le_f, b_X5_run_10, x_ret0, b_X5_run_13, x_loadI_2, y_if_eq_t, y_if_eq_f, b_X5_run_17, y_ic_ne_t, y_ic_ne_f, b_X5_run_22, x_goto, b_X5_run_26, b_X5_run_27, x_storeI_3, x_loadI_3, y_if_ne_t, y_if_ne_f, b_X5_run_32, x_loadR_0, x_loadS_0, x_isub, b_X5_run_43, b_X5_run_46, f_5_4, f_5_3, x_storeI_4, b_X5_run_60, x_loadI_4, y_ic_ge_t, y_ic_ge_f, b_X5_run_66, x_popI, x_popR, x_iinc_4, b_X5_run_80, b_X5_run_84, b_X5_run_88, f_4_0, b_X5_run_101, b_X5_run_111, b_X5_run_112, f_4_6, y_iald_26, q_isL_I, q_isL_R, q_isL_S, true_and, and_true, and_self, List.length_nil, List.length_cons, Nat.zero_add, x_K, x_Kn, Int.reduceToNat, Nat.reduceAdd, Nat.reduceMul, Nat.reduceLeDiff, Nat.reduceLT, Nat.zero_le, Int.reduceAdd, Int.reduceSub, Int.reduceMul, Int.reduceNeg, q_add_e, q_sub_e, q_mul_e, q_neg_e, q_upd_s, q_upd_n, zr_shr0, zr_shr1, zr_shr2, zr_shr3, zr_shr4, zr_and, zr_dyn8, zr_or, zr_shl, q_cpy_n, y_cpy26, c_X5_isStone, sp_isStone]
      exact fail (by omega)
    · simp (disch := omega) only [b_X5_run_0, x_loadI_1, y_if_lt_t, y_if_lt_f, b_X5_run_4, x_iconst, y_ic_le_t, y_ic_le_f, b_X5_run_10, x_ret0, b_X5_run_13, x_loadI_2, y_if_eq_t, y_if_eq_f, b_X5_run_17, y_ic_ne_t, y_ic_ne_f, b_X5_run_22, x_goto, b_X5_run_26, b_X5_run_27, x_storeI_3, x_loadI_3, y_if_ne_t, y_if_ne_f, b_X5_run_32, x_loadR_0, x_loadS_0, x_isub, b_X5_run_43, b_X5_run_46, f_5_4, f_5_3, x_storeI_4, b_X5_run_60, x_loadI_4, y_ic_ge_t, y_ic_ge_f, b_X5_run_66, x_popI, x_popR, x_iinc_4, b_X5_run_80, b_X5_run_84, b_X5_run_88, f_4_0, b_X5_run_101, b_X5_run_111, b_X5_run_112, f_4_6, y_iald_26, q_isL_I, q_isL_R, q_isL_S, true_and, and_true, and_self, List.length_nil, List.length_cons, Nat.zero_add, x_K, x_Kn, Int.reduceToNat, Nat.reduceAdd, Nat.reduceMul, Nat.reduceLeDiff, Nat.reduceLT, Nat.zero_le, Int.reduceAdd, Int.reduceSub, Int.reduceMul, Int.reduceNeg, q_add_e, q_sub_e, q_mul_e, q_neg_e, q_upd_s, q_upd_n, zr_shr0, zr_shr1, zr_shr2, zr_shr3, zr_shr4, zr_and, zr_dyn8, zr_or, zr_shl, q_cpy_n, y_cpy26, c_X5_isStone, sp_isStone]
      exact fail (by omega)
set_option maxHeartbeats 4000000 in
theorem cy_when {Vt : Nat → Nat → (Nat → Int) → Int} {d tm l sl : Nat} {g : q_G} {M : q_M} {p wt : Int} {Q : Option q_V → q_G → q_M → Prop} (C : q_XI Vt tm l sl M) (iv : q_ivS (cW M 11)) (hq : ∀ M2 : q_M, q_tq M M2 → Q (some (qI (B_when (Vt l) (cW M 11) p wt))) g M2) : q_S 1 (d + 50) 76 [qR 5 0, qI p, qI wt] g M Q := by
  have c := C.2.2.1
  have w := c.2.1
  have n5 := q_ci_n c
  have tas := c.1
  have e9 : cW M 11 9 0 = M 12 5 := rfl
  by_cases c1 : 0 ≤ p ∧ p < M 12 5
  · by_cases c2 : wt = -1 ∨ (0 ≤ wt ∧ wt < 5)
    · obtain ⟨P, rfl⟩ : ∃ k : Nat, p = k := ⟨p.toNat, by omega⟩
      refine sp_when (d := d + 44) (q_ci_t c) w c.2.2.1 c.2.2.2.2.1.1 c.2.2.2.2.2.1 (by omega) c2 (fun M2 h => ?_)
      have hq2 := hq M2 (q_tq_th tas h)
      rw [B_when_y iv c1 c2, Int.toNat_natCast] at hq2
      exact hq2
    · refine sp_whenG (d := d + 49) c1 (by omega) (by omega) ?_
      have hq2 := hq M q_tq_rf
      unfold B_when at hq2
      rw [if_neg (by omega), if_pos (by omega)] at hq2
      exact hq2
  · refine sp_whenF (d := d + 49) c1 ?_
    have hq2 := hq M q_tq_rf
    unfold B_when at hq2
    rw [if_pos (by omega)] at hq2
    exact hq2
theorem AB_share_fr {M M1 : q_M} {part : Int} (W : q_Rw M) (hb : q_mb M) (f : q_frQ M M1) : A_share M part = B_share M1 part := by
  rw [AB_share W hb]
  have e : mIn M1 = mIn M := by
    funext i
    unfold mIn
    rw [f 104 _ (by omega) (by omega)]
  unfold B_share
  rw [e, f 100 0 (by omega) (by omega), funext (fun i => f 104 (3 * i + 1) (by omega) (by omega))]
