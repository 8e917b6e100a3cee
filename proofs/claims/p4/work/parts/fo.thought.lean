/-! BOTH SIDES: years in thought, what rests on them -/
theorem F_ys_e {V : Nat → (Nat → Int) → Int} {S : q_M} (h : q_ivS S) : ∀ k : Nat, F_ys V S k = G_ys V S k ∧ q_ivS (G_ys V S k) ∧ F_n (G_ys V S k) = F_n S
  | 0 => ⟨rfl, h, rfl⟩
  | k + 1 => by
    have ih := F_ys_e (V := V) h k
    have e := F_year_e (V := V) ih.2.1
    rw [F_ys, G_ys, ih.1, e.1]
    exact ⟨rfl, e.2.1, e.2.2.trans ih.2.2⟩
theorem F_till_e {V : Nat → (Nat → Int) → Int} {S : q_M} {p : Nat} {b : Int} (h : q_ivS S) : ∀ j y : Nat, F_till V S p b j y = G_till V S p b j y
  | 0, y => by rw [F_till, G_till, (F_ys_e h y).1]
  | j + 1, y => by rw [F_till, G_till, (F_ys_e h y).1, F_till_e h j (y + 1)]
theorem F_fo_e {V : Nat → (Nat → Int) → Int} {S : q_M} {p : Nat} {C C2 : Nat → Int} (h : q_ivS S) : ∀ j i : Nat, (∀ k, k < i + j → C k = C2 k) → F_fo V S p C j i = G_fo V S p C2 j i
  | 0, _, _ => rfl
  | j + 1, i, hC => by
    rw [F_fo, G_fo, (F_ys_e h (i + 1)).1, hC i (by omega), F_fo_e h j (i + 1) (fun k hk => hC k (by omega))]
    by_cases c : G_ys V S (i + 1) 2 p = C2 i
    · rw [if_pos c, if_pos c.symm]
    · rw [if_neg c, if_neg (fun z => c z.symm)]
theorem F_flm_e {V : Nat → (Nat → Int) → Int} {S : q_M} {p n : Nat} (h : q_ivS S) : F_flm V S p n = G_flm V S p n := by
  funext i
  unfold F_flm G_flm
  rw [(F_ys_e h (i + 1)).1]
theorem q_ivS_lay {S : q_M} {p : Nat} {wh : Int} (h : q_ivS S) (hp : p < F_n S) : q_ivS (F_lay S p wh) ∧ F_n (F_lay S p wh) = F_n S := by
  obtain ⟨h0, h1, h2, h3⟩ := h
  have e4 : F_lay S p wh 4 = F_u (S 4) p 5 := by
    show q_upd (q_upd S 2 p wh) 4 p 5 4 = _
    rw [q_upd_r, q_upd_o (by omega)]
  have eo : ∀ k, k ≠ 2 → k ≠ 4 → F_lay S p wh k = S k := fun k k1 k2 => by
    show q_upd (q_upd S 2 p wh) 4 p 5 k = _
    rw [q_upd_o k2, q_upd_o k1]
  have en : F_n (F_lay S p wh) = F_n S := by unfold F_n; rw [eo 9 (by omega) (by omega)]
  refine ⟨?_, en⟩
  unfold q_ivS
  rw [en, e4, eo 9 (by omega) (by omega), eo 6 (by omega) (by omega), eo 5 (by omega) (by omega)]
  refine ⟨h0, fun q hq => ?_, fun c hc => ?_, fun q c hq hc hqc => ?_⟩
  · unfold F_u
    split
    · omega
    · exact h1 q hq
  · have := h2 c hc
    rw [F_cnt_u _ hp, if_neg (show ¬(5 : Int) = c by omega)]
    split <;> omega
  · unfold F_u at hqc
    by_cases e : q = p
    · rw [if_pos e] at hqc
      omega
    · rw [if_neg e] at hqc
      rw [← h3 q c hq hc hqc]
      show q_upd (q_upd S 2 p wh) 4 p 5 2 q = _
      rw [q_upd_n (by omega), q_upd_n (by omega)]
theorem F_w1_e {V : Nat → (Nat → Int) → Int} {x : Int × q_M} (h : q_ivS x.2) (hx : 0 ≤ x.1) : F_w1 V x = G_w1 V x ∧ q_ivS (G_w1 V x).2 ∧ 0 ≤ (G_w1 V x).1 ∧ F_n (G_w1 V x).2 = F_n x.2 := by
  unfold F_w1 G_w1
  have p1 : 0 ≤ x.1 * 48271 % 2147483647 := Int.emod_nonneg _ (by decide)
  have p2 : 0 ≤ x.1 * 48271 % 2147483647 * 48271 % 2147483647 := Int.emod_nonneg _ (by decide)
  generalize x.1 * 48271 % 2147483647 * 48271 % 2147483647 = w2 at p2
  generalize x.1 * 48271 % 2147483647 = w1 at p1
  have hn : 0 ≤ x.2 9 0 ∧ x.2 9 0 ≤ 5 := h.1
  by_cases c : w1 % 5 < x.2 9 0
  · rw [if_pos c]
    have l := q_ivS_lay (wh := w2 % 100) h (show (w1 % 5).toNat < F_n x.2 by unfold F_n; omega)
    have e := F_year_e (V := V) l.1
    rw [e.1]
    exact ⟨rfl, e.2.1, p2, e.2.2.trans l.2⟩
  · rw [if_neg c]
    have e := F_year_e (V := V) h
    rw [e.1]
    exact ⟨rfl, e.2.1, p2, e.2.2⟩
theorem F_wth_e {V : Nat → (Nat → Int) → Int} {S : q_M} {seed : Int} (h : q_ivS S) (hs : 0 ≤ seed) : ∀ k : Nat, F_wth V S seed k = G_wth V S seed k ∧ q_ivS (G_wth V S seed k).2 ∧ 0 ≤ (G_wth V S seed k).1
  | 0 => ⟨rfl, h, by show 0 ≤ seed + 1; omega⟩
  | k + 1 => by
    have ih := F_wth_e (V := V) (seed := seed) h hs k
    have e := F_w1_e (V := V) ih.2.1 ih.2.2
    rw [F_wth, G_wth, ih.1, e.1]
    exact ⟨rfl, e.2.1, e.2.2.1⟩
theorem F_odd_e {V : Nat → (Nat → Int) → Int} {S : q_M} {seed most : Int} (h : q_ivS S) (hs : 0 ≤ seed) : ∀ k : Nat, F_odd V S seed most k = G_odd V S seed most k
  | 0 => rfl
  | k + 1 => by rw [F_odd, G_odd, F_odd_e h hs k, (F_wth_e h (show 0 ≤ seed + k by omega) 8).1]
theorem F_till_i {V : Nat → (Nat → Int) → Int} {S : q_M} {p : Nat} {b : Int} : ∀ j y : Nat, F_till V S p b j y = -1 ∨ ((y : Int) ≤ F_till V S p b j y ∧ F_till V S p b j y ≤ ((y + j : Nat) : Int))
  | 0, y => by
    rw [F_till]
    split
    · exact Or.inr ⟨Int.le_refl _, by omega⟩
    · exact Or.inl rfl
  | j + 1, y => by
    rw [F_till]
    split
    · exact Or.inr ⟨Int.le_refl _, by omega⟩
    · rcases F_till_i (V := V) (S := S) (p := p) (b := b) j (y + 1) with z | z
      · exact Or.inl z
      · exact Or.inr (by omega)
theorem F_till_lim {V : Nat → (Nat → Int) → Int} {S : q_M} {p : Nat} {b : Int} : ∀ (j J y : Nat), j ≤ J → F_till V S p b j y = (if F_till V S p b J y ≠ -1 ∧ F_till V S p b J y ≤ ((y + j : Nat) : Int) then F_till V S p b J y else -1)
  | 0, 0, y, _ => by
    have h := F_till_i (V := V) (S := S) (p := p) (b := b) 0 y
    by_cases c : F_till V S p b 0 y = -1
    · rw [if_neg (fun z => z.1 c), c]
    · rw [if_pos ⟨c, by omega⟩]
  | 0, J + 1, y, _ => by
    have h := F_till_i (V := V) (S := S) (p := p) (b := b) J (y + 1)
    rw [F_till, F_till]
    by_cases c : F_hit (F_ys V S y 4 p) b = true
    · rw [if_pos c, if_pos c, if_pos ⟨by omega, by omega⟩]
    · rw [if_neg c, if_neg c, if_neg (by omega)]
  | j + 1, 0, y, h => absurd h (by omega)
  | j + 1, J + 1, y, hj => by
    rw [F_till, F_till]
    by_cases c : F_hit (F_ys V S y 4 p) b = true
    · rw [if_pos c, if_pos c, if_pos ⟨by omega, by omega⟩]
    · rw [if_neg c, if_neg c, F_till_lim j J (y + 1) (by omega), show y + 1 + j = y + (j + 1) by omega]
theorem F_ct_e {V : Nat → (Nat → Int) → Int} {S : q_M} {p : Nat} (h : q_ivS S) (hp : p < F_n S) : ∀ k : Nat, ((F_ct V S p k).1 = -1 ∧ (F_ct V S p k).2 = 61 ∧ (G_ct V S p k).1 = -1 ∧ (G_ct V S p k).2 = -1) ∨ ((F_ct V S p k).1 ≠ -1 ∧ F_ct V S p k = G_ct V S p k ∧ 0 ≤ (G_ct V S p k).2 ∧ (G_ct V S p k).2 ≤ 60)
  | 0 => Or.inl ⟨rfl, rfl, rfl, rfl⟩
  | k + 1 => by
    have ih := F_ct_e (V := V) h hp k
    have l := q_ivS_lay (wh := (k : Int)) h hp
    have t := F_till_i (V := V) (S := F_lay S p k) (p := p) (b := -1) 60 0
    have te := F_till_e (V := V) (p := p) (b := -1) l.1 60 0
    rw [F_ct, G_ct, ← te]
    unfold F_ctY
    have lim : ∀ f : Int, 0 < f → f ≤ 61 → F_till V (F_lay S p k) p (-1) (f - 1).toNat 0 = (if F_till V (F_lay S p k) p (-1) 60 0 ≠ -1 ∧ F_till V (F_lay S p k) p (-1) 60 0 < f then F_till V (F_lay S p k) p (-1) 60 0 else -1) := by
      intro f h1 h2
      rw [F_till_lim (f - 1).toNat 60 0 (by omega)]
      by_cases c : F_till V (F_lay S p k) p (-1) 60 0 ≠ -1 ∧ F_till V (F_lay S p k) p (-1) 60 0 < f
      · rw [if_pos c, if_pos ⟨c.1, by omega⟩]
      · rw [if_neg c, if_neg (by omega)]
    generalize F_till V (F_lay S p k) p (-1) 60 0 = T at t lim
    rcases ih with ⟨a1, a2, a3, a4⟩ | ⟨a1, a2, a3, a4⟩
    · rw [a2, if_neg (show ¬(61 : Int) = 0 by decide), lim 61 (by decide) (by decide)]
      by_cases c : T = -1
      · rw [if_neg (show ¬(T ≠ -1 ∧ T < 61) from fun z => z.1 c), if_neg (show ¬(0 : Int) ≤ -1 by decide), if_neg (show ¬(T ≠ -1 ∧ ((G_ct V S p k).1 = -1 ∨ T < (G_ct V S p k).2)) from fun z => z.1 c)]
        exact Or.inl ⟨a1, a2, a3, a4⟩
      · rw [if_pos (show T ≠ -1 ∧ T < 61 by omega), if_pos (show 0 ≤ T by omega), if_pos (show T ≠ -1 ∧ ((G_ct V S p k).1 = -1 ∨ T < (G_ct V S p k).2) from ⟨c, Or.inl a3⟩)]
        exact Or.inr ⟨by show (k : Int) ≠ -1; omega, rfl, by show 0 ≤ T; omega, by show T ≤ 60; omega⟩
    · rw [a2] at a1 ⊢
      generalize G_ct V S p k = y at a1 a3 a4
      by_cases c0 : y.2 = 0
      · rw [if_pos c0, if_neg (show ¬(0 : Int) ≤ -1 by decide), if_neg (show ¬(T ≠ -1 ∧ (y.1 = -1 ∨ T < y.2)) by omega)]
        exact Or.inr ⟨a1, rfl, a3, a4⟩
      · rw [if_neg c0, lim y.2 (by omega) (by omega)]
        by_cases c : T ≠ -1 ∧ T < y.2
        · rw [if_pos c, if_pos (show 0 ≤ T by omega), if_pos ⟨c.1, Or.inr c.2⟩]
          exact Or.inr ⟨by show (k : Int) ≠ -1; omega, rfl, by show 0 ≤ T; omega, by show T ≤ 60; omega⟩
        · rw [if_neg c, if_neg (show ¬(0 : Int) ≤ -1 by decide), if_neg (show ¬(T ≠ -1 ∧ (y.1 = -1 ∨ T < y.2)) by omega)]
          exact Or.inr ⟨a1, rfl, a3, a4⟩
theorem A_cart_e {V : Nat → (Nat → Int) → Int} {S : q_M} {p wt : Int} (h : q_ivS S) : A_cart V S p wt = B_cart V S p wt := by
  unfold A_cart B_cart
  by_cases c1 : 0 ≤ p ∧ p < S 9 0
  · have c1b : 0 ≤ p ∧ p ≤ S 9 0 - 1 := by omega
    rw [if_neg (fun z => z c1), if_neg (show ¬¬(0 ≤ p ∧ p ≤ S 9 0 - 1) from fun z => z c1b)]
    by_cases c2 : wt < 0 ∨ 1 < wt
    · rw [if_pos c2, if_pos (show ¬(0 ≤ wt ∧ wt ≤ 1) by omega)]
    · rw [if_neg c2, if_neg (show ¬¬(0 ≤ wt ∧ wt ≤ 1) by omega)]
      rcases F_ct_e (V := V) h (show p.toNat < F_n S by unfold F_n; omega) 100 with ⟨a1, a2, a3, a4⟩ | ⟨a1, a2, a3, a4⟩
      · rw [if_pos a1, a3, a4, ite_self]
      · rw [if_neg a1, a2]
  · rw [if_pos c1, if_pos (show ¬(0 ≤ p ∧ p ≤ S 9 0 - 1) by omega)]
